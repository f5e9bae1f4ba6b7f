section
abbrev q_Tape_isNameX_0 (h : Hp) (b : Int → Int) (s : Int32) (sZ : Int) (q : Int32) (qZ : Int) (f : Int32) (fZ : Int) (u : Int32) (uZ : Int) : Option Value → Hp → Prop := pInt (fun r h' => h = h' ∧ (qZ ≠ 1 ∧ r.toInt = 0 ∨ qZ = 1 ∧ r.toInt = x_nm0 b fZ uZ))
set_option maxRecDepth 100000 in
theorem c_Tape_isNameX_0 (h : Hp) (b : Int → Int) (hI : Inv h) (s : Int32) (sZ : Int) (sE : s.toInt = sZ) (sK : h.1 89 1 = s) (q : Int32) (qZ : Int) (qE : q.toInt = qZ) (qK : h.1 89 2 = q) (f : Int32) (fZ : Int) (fE : f.toInt = fZ) (fK : h.1 89 3 = f) (u : Int32) (uZ : Int) (uE : u.toInt = uZ) (uK : h.1 89 4 = u) (hy0 : TP h 90 sZ b) (hy1 : 0 ≤ fZ ∧ fZ ≤ uZ ∧ uZ ≤ sZ ∧ sZ ≤ 160) : Ct y_Tape_isName b_Tape_isName 4 (some .boolean) 4 85 [.ref 89, .ref (135 + 0)] h (q_Tape_isNameX_0 h b s sZ q qZ f fZ u uZ) := by
  refine ct_ow R_Tape [some (.ref 89), some (.ref (135 + 0)), none, none] rfl (by decide) rfl (Nat.le_of_ble_eq_true rfl) ?_
  have f0 : fr [] h h := fr_rf
  have g1 : 0 ≤ sZ ∧ sZ ≤ 160 := inv_at hI sE sK.symm rfl
  have g2 : 0 ≤ fZ ∧ fZ ≤ 160 := inv_at hI fE fK.symm rfl
  have g3 : 0 ≤ uZ ∧ uZ ≤ 160 := inv_at hI uE uK.symm rfl
  have sH : 0 < 14 := by decide
  refine V_aload_n 1 d_Tape_isName_0 rfl rfl ?_
  refine N_callVSI [] [] cv_Tape_41 sH rfl d_Tape_isName_1 rfl (Nat.le_of_ble_eq_true rfl) (by decide) (by decide) (c_Str_length h 0 sH) (fun z4 h5 z4Z z4E p6 => ?_)
  obtain ⟨eh5, p6⟩ := p6
  subst eh5
  rw [z4E] at p6
  obtain rfl : z4 = 6 := (ti_eq z4E (show (6 : Int32).toInt = 6 from rfl)).mpr (p6.trans rfl)
  refine V_istore_n 2 [some (.ref 89), some (.ref (135 + 0)), some (.int 6), none] d_Tape_isName_4 rfl (by decide) rfl rfl ?_
  refine V_aload_n 0 d_Tape_isName_5 rfl rfl ?_
  refine N_getK fa_Tape_25 sk_89 rfl d_Tape_isName_6 qK ?_
  refine V_iconst 1 d_Tape_isName_9 (by decide) ?_
  refine V_icmp_ne 26 qE tc_1 d_Tape_isName_10 (by decide) (fun c7 => ?_) (fun c7 => ?_)
  ·
    refine V_iconst 0 d_Tape_isName_26 (by decide) ?_
    exact V_zret rfl (by decide) d_Tape_isName_27 ⟨0, rfl, ⟨rfl, (if q : qZ = 1 then Or.inr ⟨q, tc_0.trans (x_nmn0 (b := b) (f := fZ) (e := uZ) (by (first | decide +kernel | omega))).symm⟩ else Or.inl ⟨q, rfl⟩)⟩⟩
  ·
    refine V_aload_n 0 d_Tape_isName_13 rfl rfl ?_
    refine N_getK fa_Tape_15 sk_89 rfl d_Tape_isName_14 uK ?_
    refine V_aload_n 0 d_Tape_isName_17 rfl rfl ?_
    refine N_getK fa_Tape_19 sk_89 rfl d_Tape_isName_18 fK ?_
    refine V_isub uE fE (by (first | decide +kernel | omega)) d_Tape_isName_21 (fun z8 z8e z8E => ?_)
    refine V_iload_n 2 d_Tape_isName_22 rfl rfl ?_
    refine V_icmp_eq 28 z8E tc_6 d_Tape_isName_23 (by decide) (fun c9 => ?_) (fun c9 => ?_)
    ·
      refine V_iconst 0 d_Tape_isName_28 (by decide) ?_
      refine V_istore_n 3 [some (.ref 89), some (.ref (135 + 0)), some (.int 6), some (.int 0)] d_Tape_isName_29 rfl (by decide) rfl rfl ?_
      refine V_iload_n 3 d_Tape_isName_30 rfl rfl ?_
      refine V_iload_n 2 d_Tape_isName_31 rfl rfl ?_
      refine V_icmp_ge 62 tc_0 tc_6 d_Tape_isName_32 (by decide) (fun c10 => ?_) (fun c10 => ?_)
      ·
        exact absurd c10 (by decide)
      ·
        refine V_aload_n 0 d_Tape_isName_35 rfl rfl ?_
        refine V_getR fa_Tape_9 sk_89 rfl d_Tape_isName_36 ?_
        refine V_aload_n 0 d_Tape_isName_39 rfl rfl ?_
        refine N_getK fa_Tape_19 sk_89 rfl d_Tape_isName_40 fK ?_
        refine V_iload_n 3 d_Tape_isName_43 rfl rfl ?_
        refine V_iadd fE tc_0 (by (first | decide +kernel | omega)) d_Tape_isName_44 (fun z11 z11e z11E => ?_)
        refine N_bald sk_90 z11E (by (first | decide +kernel | omega)) d_Tape_isName_45 (fun z12 z12Z z12E z12e => ?_)
        have g13 : z12Z = b (fZ + 0) := TP_rd (TP_fr f0 (fun _ => rfl) hy0) (by (first | decide +kernel | omega)) z12E z12e
        refine V_aload_n 1 d_Tape_isName_46 rfl rfl ?_
        refine V_iload_n 3 d_Tape_isName_47 rfl rfl ?_
        refine N_callVSI [.int 0] [.int z12] cv_Tape_47 sH rfl d_Tape_isName_48 rfl (Nat.le_of_ble_eq_true rfl) (by decide) (by decide) (c_Str_charAt h 0 sH 0 0 tc_0 (by decide)) (fun z14 h15 z14Z z14E p16 => ?_)
        obtain ⟨eh15, p16⟩ := p16
        subst eh15
        obtain rfl : z14 = 99 := p16.trans rfl
        refine V_icmp_eq 56 z12E tc_99 d_Tape_isName_51 (by decide) (fun c17 => ?_) (fun c17 => ?_)
        ·
          refine V_iinc (v := 1) 3 [some (.ref 89), some (.ref (135 + 0)), some (.int 6), some (.int 1)] d_Tape_isName_56 rfl (by decide) (by decide) rfl rfl ?_
          refine V_goto 30 d_Tape_isName_59 (by decide) ?_
          refine V_iload_n 3 d_Tape_isName_30 rfl rfl ?_
          refine V_iload_n 2 d_Tape_isName_31 rfl rfl ?_
          refine V_icmp_ge 62 tc_1 tc_6 d_Tape_isName_32 (by decide) (fun c19 => ?_) (fun c19 => ?_)
          ·
            exact absurd c19 (by decide)
          ·
            refine V_aload_n 0 d_Tape_isName_35 rfl rfl ?_
            refine V_getR fa_Tape_9 sk_89 rfl d_Tape_isName_36 ?_
            refine V_aload_n 0 d_Tape_isName_39 rfl rfl ?_
            refine N_getK fa_Tape_19 sk_89 rfl d_Tape_isName_40 fK ?_
            refine V_iload_n 3 d_Tape_isName_43 rfl rfl ?_
            refine V_iadd fE tc_1 (by (first | decide +kernel | omega)) d_Tape_isName_44 (fun z20 z20e z20E => ?_)
            refine N_bald sk_90 z20E (by (first | decide +kernel | omega)) d_Tape_isName_45 (fun z21 z21Z z21E z21e => ?_)
            have g22 : z21Z = b (fZ + 1) := TP_rd (TP_fr f0 (fun _ => rfl) hy0) (by (first | decide +kernel | omega)) z21E z21e
            refine V_aload_n 1 d_Tape_isName_46 rfl rfl ?_
            refine V_iload_n 3 d_Tape_isName_47 rfl rfl ?_
            refine N_callVSI [.int 1] [.int z21] cv_Tape_47 sH rfl d_Tape_isName_48 rfl (Nat.le_of_ble_eq_true rfl) (by decide) (by decide) (c_Str_charAt h 0 sH 1 1 tc_1 (by decide)) (fun z23 h24 z23Z z23E p25 => ?_)
            obtain ⟨eh24, p25⟩ := p25
            subst eh24
            obtain rfl : z23 = 111 := p25.trans rfl
            refine V_icmp_eq 56 z21E tc_111 d_Tape_isName_51 (by decide) (fun c26 => ?_) (fun c26 => ?_)
            ·
              refine V_iinc (v := 2) 3 [some (.ref 89), some (.ref (135 + 0)), some (.int 6), some (.int 2)] d_Tape_isName_56 rfl (by decide) (by decide) rfl rfl ?_
              refine V_goto 30 d_Tape_isName_59 (by decide) ?_
              refine V_iload_n 3 d_Tape_isName_30 rfl rfl ?_
              refine V_iload_n 2 d_Tape_isName_31 rfl rfl ?_
              refine V_icmp_ge 62 tc_2 tc_6 d_Tape_isName_32 (by decide) (fun c28 => ?_) (fun c28 => ?_)
              ·
                exact absurd c28 (by decide)
              ·
                refine V_aload_n 0 d_Tape_isName_35 rfl rfl ?_
                refine V_getR fa_Tape_9 sk_89 rfl d_Tape_isName_36 ?_
                refine V_aload_n 0 d_Tape_isName_39 rfl rfl ?_
                refine N_getK fa_Tape_19 sk_89 rfl d_Tape_isName_40 fK ?_
                refine V_iload_n 3 d_Tape_isName_43 rfl rfl ?_
                refine V_iadd fE tc_2 (by (first | decide +kernel | omega)) d_Tape_isName_44 (fun z29 z29e z29E => ?_)
                refine N_bald sk_90 z29E (by (first | decide +kernel | omega)) d_Tape_isName_45 (fun z30 z30Z z30E z30e => ?_)
                have g31 : z30Z = b (fZ + 2) := TP_rd (TP_fr f0 (fun _ => rfl) hy0) (by (first | decide +kernel | omega)) z30E z30e
                refine V_aload_n 1 d_Tape_isName_46 rfl rfl ?_
                refine V_iload_n 3 d_Tape_isName_47 rfl rfl ?_
                refine N_callVSI [.int 2] [.int z30] cv_Tape_47 sH rfl d_Tape_isName_48 rfl (Nat.le_of_ble_eq_true rfl) (by decide) (by decide) (c_Str_charAt h 0 sH 2 2 tc_2 (by decide)) (fun z32 h33 z32Z z32E p34 => ?_)
                obtain ⟨eh33, p34⟩ := p34
                subst eh33
                obtain rfl : z32 = 117 := p34.trans rfl
                refine V_icmp_eq 56 z30E tc_117 d_Tape_isName_51 (by decide) (fun c35 => ?_) (fun c35 => ?_)
                ·
                  refine V_iinc (v := 3) 3 [some (.ref 89), some (.ref (135 + 0)), some (.int 6), some (.int 3)] d_Tape_isName_56 rfl (by decide) (by decide) rfl rfl ?_
                  refine V_goto 30 d_Tape_isName_59 (by decide) ?_
                  refine V_iload_n 3 d_Tape_isName_30 rfl rfl ?_
                  refine V_iload_n 2 d_Tape_isName_31 rfl rfl ?_
                  refine V_icmp_ge 62 tc_3 tc_6 d_Tape_isName_32 (by decide) (fun c37 => ?_) (fun c37 => ?_)
                  ·
                    exact absurd c37 (by decide)
                  ·
                    refine V_aload_n 0 d_Tape_isName_35 rfl rfl ?_
                    refine V_getR fa_Tape_9 sk_89 rfl d_Tape_isName_36 ?_
                    refine V_aload_n 0 d_Tape_isName_39 rfl rfl ?_
                    refine N_getK fa_Tape_19 sk_89 rfl d_Tape_isName_40 fK ?_
                    refine V_iload_n 3 d_Tape_isName_43 rfl rfl ?_
                    refine V_iadd fE tc_3 (by (first | decide +kernel | omega)) d_Tape_isName_44 (fun z38 z38e z38E => ?_)
                    refine N_bald sk_90 z38E (by (first | decide +kernel | omega)) d_Tape_isName_45 (fun z39 z39Z z39E z39e => ?_)
                    have g40 : z39Z = b (fZ + 3) := TP_rd (TP_fr f0 (fun _ => rfl) hy0) (by (first | decide +kernel | omega)) z39E z39e
                    refine V_aload_n 1 d_Tape_isName_46 rfl rfl ?_
                    refine V_iload_n 3 d_Tape_isName_47 rfl rfl ?_
                    refine N_callVSI [.int 3] [.int z39] cv_Tape_47 sH rfl d_Tape_isName_48 rfl (Nat.le_of_ble_eq_true rfl) (by decide) (by decide) (c_Str_charAt h 0 sH 3 3 tc_3 (by decide)) (fun z41 h42 z41Z z41E p43 => ?_)
                    obtain ⟨eh42, p43⟩ := p43
                    subst eh42
                    obtain rfl : z41 = 110 := p43.trans rfl
                    refine V_icmp_eq 56 z39E tc_110 d_Tape_isName_51 (by decide) (fun c44 => ?_) (fun c44 => ?_)
                    ·
                      refine V_iinc (v := 4) 3 [some (.ref 89), some (.ref (135 + 0)), some (.int 6), some (.int 4)] d_Tape_isName_56 rfl (by decide) (by decide) rfl rfl ?_
                      refine V_goto 30 d_Tape_isName_59 (by decide) ?_
                      refine V_iload_n 3 d_Tape_isName_30 rfl rfl ?_
                      refine V_iload_n 2 d_Tape_isName_31 rfl rfl ?_
                      refine V_icmp_ge 62 tc_4 tc_6 d_Tape_isName_32 (by decide) (fun c46 => ?_) (fun c46 => ?_)
                      ·
                        exact absurd c46 (by decide)
                      ·
                        refine V_aload_n 0 d_Tape_isName_35 rfl rfl ?_
                        refine V_getR fa_Tape_9 sk_89 rfl d_Tape_isName_36 ?_
                        refine V_aload_n 0 d_Tape_isName_39 rfl rfl ?_
                        refine N_getK fa_Tape_19 sk_89 rfl d_Tape_isName_40 fK ?_
                        refine V_iload_n 3 d_Tape_isName_43 rfl rfl ?_
                        refine V_iadd fE tc_4 (by (first | decide +kernel | omega)) d_Tape_isName_44 (fun z47 z47e z47E => ?_)
                        refine N_bald sk_90 z47E (by (first | decide +kernel | omega)) d_Tape_isName_45 (fun z48 z48Z z48E z48e => ?_)
                        have g49 : z48Z = b (fZ + 4) := TP_rd (TP_fr f0 (fun _ => rfl) hy0) (by (first | decide +kernel | omega)) z48E z48e
                        refine V_aload_n 1 d_Tape_isName_46 rfl rfl ?_
                        refine V_iload_n 3 d_Tape_isName_47 rfl rfl ?_
                        refine N_callVSI [.int 4] [.int z48] cv_Tape_47 sH rfl d_Tape_isName_48 rfl (Nat.le_of_ble_eq_true rfl) (by decide) (by decide) (c_Str_charAt h 0 sH 4 4 tc_4 (by decide)) (fun z50 h51 z50Z z50E p52 => ?_)
                        obtain ⟨eh51, p52⟩ := p52
                        subst eh51
                        obtain rfl : z50 = 116 := p52.trans rfl
                        refine V_icmp_eq 56 z48E tc_116 d_Tape_isName_51 (by decide) (fun c53 => ?_) (fun c53 => ?_)
                        ·
                          refine V_iinc (v := 5) 3 [some (.ref 89), some (.ref (135 + 0)), some (.int 6), some (.int 5)] d_Tape_isName_56 rfl (by decide) (by decide) rfl rfl ?_
                          refine V_goto 30 d_Tape_isName_59 (by decide) ?_
                          refine V_iload_n 3 d_Tape_isName_30 rfl rfl ?_
                          refine V_iload_n 2 d_Tape_isName_31 rfl rfl ?_
                          refine V_icmp_ge 62 tc_5 tc_6 d_Tape_isName_32 (by decide) (fun c55 => ?_) (fun c55 => ?_)
                          ·
                            exact absurd c55 (by decide)
                          ·
                            refine V_aload_n 0 d_Tape_isName_35 rfl rfl ?_
                            refine V_getR fa_Tape_9 sk_89 rfl d_Tape_isName_36 ?_
                            refine V_aload_n 0 d_Tape_isName_39 rfl rfl ?_
                            refine N_getK fa_Tape_19 sk_89 rfl d_Tape_isName_40 fK ?_
                            refine V_iload_n 3 d_Tape_isName_43 rfl rfl ?_
                            refine V_iadd fE tc_5 (by (first | decide +kernel | omega)) d_Tape_isName_44 (fun z56 z56e z56E => ?_)
                            refine N_bald sk_90 z56E (by (first | decide +kernel | omega)) d_Tape_isName_45 (fun z57 z57Z z57E z57e => ?_)
                            have g58 : z57Z = b (fZ + 5) := TP_rd (TP_fr f0 (fun _ => rfl) hy0) (by (first | decide +kernel | omega)) z57E z57e
                            refine V_aload_n 1 d_Tape_isName_46 rfl rfl ?_
                            refine V_iload_n 3 d_Tape_isName_47 rfl rfl ?_
                            refine N_callVSI [.int 5] [.int z57] cv_Tape_47 sH rfl d_Tape_isName_48 rfl (Nat.le_of_ble_eq_true rfl) (by decide) (by decide) (c_Str_charAt h 0 sH 5 5 tc_5 (by decide)) (fun z59 h60 z59Z z59E p61 => ?_)
                            obtain ⟨eh60, p61⟩ := p61
                            subst eh60
                            obtain rfl : z59 = 121 := p61.trans rfl
                            refine V_icmp_eq 56 z57E tc_121 d_Tape_isName_51 (by decide) (fun c62 => ?_) (fun c62 => ?_)
                            ·
                              refine V_iinc (v := 6) 3 [some (.ref 89), some (.ref (135 + 0)), some (.int 6), some (.int 6)] d_Tape_isName_56 rfl (by decide) (by decide) rfl rfl ?_
                              refine V_goto 30 d_Tape_isName_59 (by decide) ?_
                              refine V_iload_n 3 d_Tape_isName_30 rfl rfl ?_
                              refine V_iload_n 2 d_Tape_isName_31 rfl rfl ?_
                              refine V_icmp_ge 62 tc_6 tc_6 d_Tape_isName_32 (by decide) (fun c64 => ?_) (fun c64 => ?_)
                              ·
                                refine V_iconst 1 d_Tape_isName_62 (by decide) ?_
                                exact V_zret rfl (by decide) d_Tape_isName_63 ⟨1, rfl, ⟨rfl, (Or.inr ⟨by (first | decide +kernel | omega), tc_1.trans (x_nmy0 (b := b) (f := fZ) (e := uZ) (by (first | decide +kernel | omega))).symm⟩)⟩⟩
                              ·
                                exact absurd c64 (by decide)
                            ·
                              refine V_iconst 0 d_Tape_isName_54 (by decide) ?_
                              exact V_zret rfl (by decide) d_Tape_isName_55 ⟨0, rfl, ⟨rfl, (Or.inr ⟨by (first | decide +kernel | omega), tc_0.trans (x_nmn0 (b := b) (f := fZ) (e := uZ) (by (first | decide +kernel | omega))).symm⟩)⟩⟩
                        ·
                          refine V_iconst 0 d_Tape_isName_54 (by decide) ?_
                          exact V_zret rfl (by decide) d_Tape_isName_55 ⟨0, rfl, ⟨rfl, (Or.inr ⟨by (first | decide +kernel | omega), tc_0.trans (x_nmn0 (b := b) (f := fZ) (e := uZ) (by (first | decide +kernel | omega))).symm⟩)⟩⟩
                    ·
                      refine V_iconst 0 d_Tape_isName_54 (by decide) ?_
                      exact V_zret rfl (by decide) d_Tape_isName_55 ⟨0, rfl, ⟨rfl, (Or.inr ⟨by (first | decide +kernel | omega), tc_0.trans (x_nmn0 (b := b) (f := fZ) (e := uZ) (by (first | decide +kernel | omega))).symm⟩)⟩⟩
                ·
                  refine V_iconst 0 d_Tape_isName_54 (by decide) ?_
                  exact V_zret rfl (by decide) d_Tape_isName_55 ⟨0, rfl, ⟨rfl, (Or.inr ⟨by (first | decide +kernel | omega), tc_0.trans (x_nmn0 (b := b) (f := fZ) (e := uZ) (by (first | decide +kernel | omega))).symm⟩)⟩⟩
            ·
              refine V_iconst 0 d_Tape_isName_54 (by decide) ?_
              exact V_zret rfl (by decide) d_Tape_isName_55 ⟨0, rfl, ⟨rfl, (Or.inr ⟨by (first | decide +kernel | omega), tc_0.trans (x_nmn0 (b := b) (f := fZ) (e := uZ) (by (first | decide +kernel | omega))).symm⟩)⟩⟩
        ·
          refine V_iconst 0 d_Tape_isName_54 (by decide) ?_
          exact V_zret rfl (by decide) d_Tape_isName_55 ⟨0, rfl, ⟨rfl, (Or.inr ⟨by (first | decide +kernel | omega), tc_0.trans (x_nmn0 (b := b) (f := fZ) (e := uZ) (by (first | decide +kernel | omega))).symm⟩)⟩⟩
    ·
      refine V_iconst 0 d_Tape_isName_26 (by decide) ?_
      exact V_zret rfl (by decide) d_Tape_isName_27 ⟨0, rfl, ⟨rfl, (if q : qZ = 1 then Or.inr ⟨q, tc_0.trans (x_nmn0 (b := b) (f := fZ) (e := uZ) (by (first | decide +kernel | omega))).symm⟩ else Or.inl ⟨q, rfl⟩)⟩⟩
abbrev q_Tape_isNameX_1 (h : Hp) (b : Int → Int) (s : Int32) (sZ : Int) (q : Int32) (qZ : Int) (f : Int32) (fZ : Int) (u : Int32) (uZ : Int) : Option Value → Hp → Prop := pInt (fun r h' => h = h' ∧ (qZ ≠ 1 ∧ r.toInt = 0 ∨ qZ = 1 ∧ r.toInt = x_nm1 b fZ uZ))
set_option maxRecDepth 100000 in
theorem c_Tape_isNameX_1 (h : Hp) (b : Int → Int) (hI : Inv h) (s : Int32) (sZ : Int) (sE : s.toInt = sZ) (sK : h.1 89 1 = s) (q : Int32) (qZ : Int) (qE : q.toInt = qZ) (qK : h.1 89 2 = q) (f : Int32) (fZ : Int) (fE : f.toInt = fZ) (fK : h.1 89 3 = f) (u : Int32) (uZ : Int) (uE : u.toInt = uZ) (uK : h.1 89 4 = u) (hy0 : TP h 90 sZ b) (hy1 : 0 ≤ fZ ∧ fZ ≤ uZ ∧ uZ ≤ sZ ∧ sZ ≤ 160) : Ct y_Tape_isName b_Tape_isName 4 (some .boolean) 4 85 [.ref 89, .ref (135 + 1)] h (q_Tape_isNameX_1 h b s sZ q qZ f fZ u uZ) := by
  refine ct_ow R_Tape [some (.ref 89), some (.ref (135 + 1)), none, none] rfl (by decide) rfl (Nat.le_of_ble_eq_true rfl) ?_
  have f0 : fr [] h h := fr_rf
  have g1 : 0 ≤ sZ ∧ sZ ≤ 160 := inv_at hI sE sK.symm rfl
  have g2 : 0 ≤ fZ ∧ fZ ≤ 160 := inv_at hI fE fK.symm rfl
  have g3 : 0 ≤ uZ ∧ uZ ≤ 160 := inv_at hI uE uK.symm rfl
  have sH : 1 < 14 := by decide
  refine V_aload_n 1 d_Tape_isName_0 rfl rfl ?_
  refine N_callVSI [] [] cv_Tape_41 sH rfl d_Tape_isName_1 rfl (Nat.le_of_ble_eq_true rfl) (by decide) (by decide) (c_Str_length h 1 sH) (fun z4 h5 z4Z z4E p6 => ?_)
  obtain ⟨eh5, p6⟩ := p6
  subst eh5
  rw [z4E] at p6
  obtain rfl : z4 = 3 := (ti_eq z4E (show (3 : Int32).toInt = 3 from rfl)).mpr (p6.trans rfl)
  refine V_istore_n 2 [some (.ref 89), some (.ref (135 + 1)), some (.int 3), none] d_Tape_isName_4 rfl (by decide) rfl rfl ?_
  refine V_aload_n 0 d_Tape_isName_5 rfl rfl ?_
  refine N_getK fa_Tape_25 sk_89 rfl d_Tape_isName_6 qK ?_
  refine V_iconst 1 d_Tape_isName_9 (by decide) ?_
  refine V_icmp_ne 26 qE tc_1 d_Tape_isName_10 (by decide) (fun c7 => ?_) (fun c7 => ?_)
  ·
    refine V_iconst 0 d_Tape_isName_26 (by decide) ?_
    exact V_zret rfl (by decide) d_Tape_isName_27 ⟨0, rfl, ⟨rfl, (if q : qZ = 1 then Or.inr ⟨q, tc_0.trans (x_nmn1 (b := b) (f := fZ) (e := uZ) (by (first | decide +kernel | omega))).symm⟩ else Or.inl ⟨q, rfl⟩)⟩⟩
  ·
    refine V_aload_n 0 d_Tape_isName_13 rfl rfl ?_
    refine N_getK fa_Tape_15 sk_89 rfl d_Tape_isName_14 uK ?_
    refine V_aload_n 0 d_Tape_isName_17 rfl rfl ?_
    refine N_getK fa_Tape_19 sk_89 rfl d_Tape_isName_18 fK ?_
    refine V_isub uE fE (by (first | decide +kernel | omega)) d_Tape_isName_21 (fun z8 z8e z8E => ?_)
    refine V_iload_n 2 d_Tape_isName_22 rfl rfl ?_
    refine V_icmp_eq 28 z8E tc_3 d_Tape_isName_23 (by decide) (fun c9 => ?_) (fun c9 => ?_)
    ·
      refine V_iconst 0 d_Tape_isName_28 (by decide) ?_
      refine V_istore_n 3 [some (.ref 89), some (.ref (135 + 1)), some (.int 3), some (.int 0)] d_Tape_isName_29 rfl (by decide) rfl rfl ?_
      refine V_iload_n 3 d_Tape_isName_30 rfl rfl ?_
      refine V_iload_n 2 d_Tape_isName_31 rfl rfl ?_
      refine V_icmp_ge 62 tc_0 tc_3 d_Tape_isName_32 (by decide) (fun c10 => ?_) (fun c10 => ?_)
      ·
        exact absurd c10 (by decide)
      ·
        refine V_aload_n 0 d_Tape_isName_35 rfl rfl ?_
        refine V_getR fa_Tape_9 sk_89 rfl d_Tape_isName_36 ?_
        refine V_aload_n 0 d_Tape_isName_39 rfl rfl ?_
        refine N_getK fa_Tape_19 sk_89 rfl d_Tape_isName_40 fK ?_
        refine V_iload_n 3 d_Tape_isName_43 rfl rfl ?_
        refine V_iadd fE tc_0 (by (first | decide +kernel | omega)) d_Tape_isName_44 (fun z11 z11e z11E => ?_)
        refine N_bald sk_90 z11E (by (first | decide +kernel | omega)) d_Tape_isName_45 (fun z12 z12Z z12E z12e => ?_)
        have g13 : z12Z = b (fZ + 0) := TP_rd (TP_fr f0 (fun _ => rfl) hy0) (by (first | decide +kernel | omega)) z12E z12e
        refine V_aload_n 1 d_Tape_isName_46 rfl rfl ?_
        refine V_iload_n 3 d_Tape_isName_47 rfl rfl ?_
        refine N_callVSI [.int 0] [.int z12] cv_Tape_47 sH rfl d_Tape_isName_48 rfl (Nat.le_of_ble_eq_true rfl) (by decide) (by decide) (c_Str_charAt h 1 sH 0 0 tc_0 (by decide)) (fun z14 h15 z14Z z14E p16 => ?_)
        obtain ⟨eh15, p16⟩ := p16
        subst eh15
        obtain rfl : z14 = 119 := p16.trans rfl
        refine V_icmp_eq 56 z12E tc_119 d_Tape_isName_51 (by decide) (fun c17 => ?_) (fun c17 => ?_)
        ·
          refine V_iinc (v := 1) 3 [some (.ref 89), some (.ref (135 + 1)), some (.int 3), some (.int 1)] d_Tape_isName_56 rfl (by decide) (by decide) rfl rfl ?_
          refine V_goto 30 d_Tape_isName_59 (by decide) ?_
          refine V_iload_n 3 d_Tape_isName_30 rfl rfl ?_
          refine V_iload_n 2 d_Tape_isName_31 rfl rfl ?_
          refine V_icmp_ge 62 tc_1 tc_3 d_Tape_isName_32 (by decide) (fun c19 => ?_) (fun c19 => ?_)
          ·
            exact absurd c19 (by decide)
          ·
            refine V_aload_n 0 d_Tape_isName_35 rfl rfl ?_
            refine V_getR fa_Tape_9 sk_89 rfl d_Tape_isName_36 ?_
            refine V_aload_n 0 d_Tape_isName_39 rfl rfl ?_
            refine N_getK fa_Tape_19 sk_89 rfl d_Tape_isName_40 fK ?_
            refine V_iload_n 3 d_Tape_isName_43 rfl rfl ?_
            refine V_iadd fE tc_1 (by (first | decide +kernel | omega)) d_Tape_isName_44 (fun z20 z20e z20E => ?_)
            refine N_bald sk_90 z20E (by (first | decide +kernel | omega)) d_Tape_isName_45 (fun z21 z21Z z21E z21e => ?_)
            have g22 : z21Z = b (fZ + 1) := TP_rd (TP_fr f0 (fun _ => rfl) hy0) (by (first | decide +kernel | omega)) z21E z21e
            refine V_aload_n 1 d_Tape_isName_46 rfl rfl ?_
            refine V_iload_n 3 d_Tape_isName_47 rfl rfl ?_
            refine N_callVSI [.int 1] [.int z21] cv_Tape_47 sH rfl d_Tape_isName_48 rfl (Nat.le_of_ble_eq_true rfl) (by decide) (by decide) (c_Str_charAt h 1 sH 1 1 tc_1 (by decide)) (fun z23 h24 z23Z z23E p25 => ?_)
            obtain ⟨eh24, p25⟩ := p25
            subst eh24
            obtain rfl : z23 = 101 := p25.trans rfl
            refine V_icmp_eq 56 z21E tc_101 d_Tape_isName_51 (by decide) (fun c26 => ?_) (fun c26 => ?_)
            ·
              refine V_iinc (v := 2) 3 [some (.ref 89), some (.ref (135 + 1)), some (.int 3), some (.int 2)] d_Tape_isName_56 rfl (by decide) (by decide) rfl rfl ?_
              refine V_goto 30 d_Tape_isName_59 (by decide) ?_
              refine V_iload_n 3 d_Tape_isName_30 rfl rfl ?_
              refine V_iload_n 2 d_Tape_isName_31 rfl rfl ?_
              refine V_icmp_ge 62 tc_2 tc_3 d_Tape_isName_32 (by decide) (fun c28 => ?_) (fun c28 => ?_)
              ·
                exact absurd c28 (by decide)
              ·
                refine V_aload_n 0 d_Tape_isName_35 rfl rfl ?_
                refine V_getR fa_Tape_9 sk_89 rfl d_Tape_isName_36 ?_
                refine V_aload_n 0 d_Tape_isName_39 rfl rfl ?_
                refine N_getK fa_Tape_19 sk_89 rfl d_Tape_isName_40 fK ?_
                refine V_iload_n 3 d_Tape_isName_43 rfl rfl ?_
                refine V_iadd fE tc_2 (by (first | decide +kernel | omega)) d_Tape_isName_44 (fun z29 z29e z29E => ?_)
                refine N_bald sk_90 z29E (by (first | decide +kernel | omega)) d_Tape_isName_45 (fun z30 z30Z z30E z30e => ?_)
                have g31 : z30Z = b (fZ + 2) := TP_rd (TP_fr f0 (fun _ => rfl) hy0) (by (first | decide +kernel | omega)) z30E z30e
                refine V_aload_n 1 d_Tape_isName_46 rfl rfl ?_
                refine V_iload_n 3 d_Tape_isName_47 rfl rfl ?_
                refine N_callVSI [.int 2] [.int z30] cv_Tape_47 sH rfl d_Tape_isName_48 rfl (Nat.le_of_ble_eq_true rfl) (by decide) (by decide) (c_Str_charAt h 1 sH 2 2 tc_2 (by decide)) (fun z32 h33 z32Z z32E p34 => ?_)
                obtain ⟨eh33, p34⟩ := p34
                subst eh33
                obtain rfl : z32 = 116 := p34.trans rfl
                refine V_icmp_eq 56 z30E tc_116 d_Tape_isName_51 (by decide) (fun c35 => ?_) (fun c35 => ?_)
                ·
                  refine V_iinc (v := 3) 3 [some (.ref 89), some (.ref (135 + 1)), some (.int 3), some (.int 3)] d_Tape_isName_56 rfl (by decide) (by decide) rfl rfl ?_
                  refine V_goto 30 d_Tape_isName_59 (by decide) ?_
                  refine V_iload_n 3 d_Tape_isName_30 rfl rfl ?_
                  refine V_iload_n 2 d_Tape_isName_31 rfl rfl ?_
                  refine V_icmp_ge 62 tc_3 tc_3 d_Tape_isName_32 (by decide) (fun c37 => ?_) (fun c37 => ?_)
                  ·
                    refine V_iconst 1 d_Tape_isName_62 (by decide) ?_
                    exact V_zret rfl (by decide) d_Tape_isName_63 ⟨1, rfl, ⟨rfl, (Or.inr ⟨by (first | decide +kernel | omega), tc_1.trans (x_nmy1 (b := b) (f := fZ) (e := uZ) (by (first | decide +kernel | omega))).symm⟩)⟩⟩
                  ·
                    exact absurd c37 (by decide)
                ·
                  refine V_iconst 0 d_Tape_isName_54 (by decide) ?_
                  exact V_zret rfl (by decide) d_Tape_isName_55 ⟨0, rfl, ⟨rfl, (Or.inr ⟨by (first | decide +kernel | omega), tc_0.trans (x_nmn1 (b := b) (f := fZ) (e := uZ) (by (first | decide +kernel | omega))).symm⟩)⟩⟩
            ·
              refine V_iconst 0 d_Tape_isName_54 (by decide) ?_
              exact V_zret rfl (by decide) d_Tape_isName_55 ⟨0, rfl, ⟨rfl, (Or.inr ⟨by (first | decide +kernel | omega), tc_0.trans (x_nmn1 (b := b) (f := fZ) (e := uZ) (by (first | decide +kernel | omega))).symm⟩)⟩⟩
        ·
          refine V_iconst 0 d_Tape_isName_54 (by decide) ?_
          exact V_zret rfl (by decide) d_Tape_isName_55 ⟨0, rfl, ⟨rfl, (Or.inr ⟨by (first | decide +kernel | omega), tc_0.trans (x_nmn1 (b := b) (f := fZ) (e := uZ) (by (first | decide +kernel | omega))).symm⟩)⟩⟩
    ·
      refine V_iconst 0 d_Tape_isName_26 (by decide) ?_
      exact V_zret rfl (by decide) d_Tape_isName_27 ⟨0, rfl, ⟨rfl, (if q : qZ = 1 then Or.inr ⟨q, tc_0.trans (x_nmn1 (b := b) (f := fZ) (e := uZ) (by (first | decide +kernel | omega))).symm⟩ else Or.inl ⟨q, rfl⟩)⟩⟩
abbrev q_Tape_isNameX_2 (h : Hp) (b : Int → Int) (s : Int32) (sZ : Int) (q : Int32) (qZ : Int) (f : Int32) (fZ : Int) (u : Int32) (uZ : Int) : Option Value → Hp → Prop := pInt (fun r h' => h = h' ∧ (qZ ≠ 1 ∧ r.toInt = 0 ∨ qZ = 1 ∧ r.toInt = x_nm2 b fZ uZ))
set_option maxRecDepth 100000 in
theorem c_Tape_isNameX_2 (h : Hp) (b : Int → Int) (hI : Inv h) (s : Int32) (sZ : Int) (sE : s.toInt = sZ) (sK : h.1 89 1 = s) (q : Int32) (qZ : Int) (qE : q.toInt = qZ) (qK : h.1 89 2 = q) (f : Int32) (fZ : Int) (fE : f.toInt = fZ) (fK : h.1 89 3 = f) (u : Int32) (uZ : Int) (uE : u.toInt = uZ) (uK : h.1 89 4 = u) (hy0 : TP h 90 sZ b) (hy1 : 0 ≤ fZ ∧ fZ ≤ uZ ∧ uZ ≤ sZ ∧ sZ ≤ 160) : Ct y_Tape_isName b_Tape_isName 4 (some .boolean) 4 85 [.ref 89, .ref (135 + 2)] h (q_Tape_isNameX_2 h b s sZ q qZ f fZ u uZ) := by
  refine ct_ow R_Tape [some (.ref 89), some (.ref (135 + 2)), none, none] rfl (by decide) rfl (Nat.le_of_ble_eq_true rfl) ?_
  have f0 : fr [] h h := fr_rf
  have g1 : 0 ≤ sZ ∧ sZ ≤ 160 := inv_at hI sE sK.symm rfl
  have g2 : 0 ≤ fZ ∧ fZ ≤ 160 := inv_at hI fE fK.symm rfl
  have g3 : 0 ≤ uZ ∧ uZ ≤ 160 := inv_at hI uE uK.symm rfl
  have sH : 2 < 14 := by decide
  refine V_aload_n 1 d_Tape_isName_0 rfl rfl ?_
  refine N_callVSI [] [] cv_Tape_41 sH rfl d_Tape_isName_1 rfl (Nat.le_of_ble_eq_true rfl) (by decide) (by decide) (c_Str_length h 2 sH) (fun z4 h5 z4Z z4E p6 => ?_)
  obtain ⟨eh5, p6⟩ := p6
  subst eh5
  rw [z4E] at p6
  obtain rfl : z4 = 4 := (ti_eq z4E (show (4 : Int32).toInt = 4 from rfl)).mpr (p6.trans rfl)
  refine V_istore_n 2 [some (.ref 89), some (.ref (135 + 2)), some (.int 4), none] d_Tape_isName_4 rfl (by decide) rfl rfl ?_
  refine V_aload_n 0 d_Tape_isName_5 rfl rfl ?_
  refine N_getK fa_Tape_25 sk_89 rfl d_Tape_isName_6 qK ?_
  refine V_iconst 1 d_Tape_isName_9 (by decide) ?_
  refine V_icmp_ne 26 qE tc_1 d_Tape_isName_10 (by decide) (fun c7 => ?_) (fun c7 => ?_)
  ·
    refine V_iconst 0 d_Tape_isName_26 (by decide) ?_
    exact V_zret rfl (by decide) d_Tape_isName_27 ⟨0, rfl, ⟨rfl, (if q : qZ = 1 then Or.inr ⟨q, tc_0.trans (x_nmn2 (b := b) (f := fZ) (e := uZ) (by (first | decide +kernel | omega))).symm⟩ else Or.inl ⟨q, rfl⟩)⟩⟩
  ·
    refine V_aload_n 0 d_Tape_isName_13 rfl rfl ?_
    refine N_getK fa_Tape_15 sk_89 rfl d_Tape_isName_14 uK ?_
    refine V_aload_n 0 d_Tape_isName_17 rfl rfl ?_
    refine N_getK fa_Tape_19 sk_89 rfl d_Tape_isName_18 fK ?_
    refine V_isub uE fE (by (first | decide +kernel | omega)) d_Tape_isName_21 (fun z8 z8e z8E => ?_)
    refine V_iload_n 2 d_Tape_isName_22 rfl rfl ?_
    refine V_icmp_eq 28 z8E tc_4 d_Tape_isName_23 (by decide) (fun c9 => ?_) (fun c9 => ?_)
    ·
      refine V_iconst 0 d_Tape_isName_28 (by decide) ?_
      refine V_istore_n 3 [some (.ref 89), some (.ref (135 + 2)), some (.int 4), some (.int 0)] d_Tape_isName_29 rfl (by decide) rfl rfl ?_
      refine V_iload_n 3 d_Tape_isName_30 rfl rfl ?_
      refine V_iload_n 2 d_Tape_isName_31 rfl rfl ?_
      refine V_icmp_ge 62 tc_0 tc_4 d_Tape_isName_32 (by decide) (fun c10 => ?_) (fun c10 => ?_)
      ·
        exact absurd c10 (by decide)
      ·
        refine V_aload_n 0 d_Tape_isName_35 rfl rfl ?_
        refine V_getR fa_Tape_9 sk_89 rfl d_Tape_isName_36 ?_
        refine V_aload_n 0 d_Tape_isName_39 rfl rfl ?_
        refine N_getK fa_Tape_19 sk_89 rfl d_Tape_isName_40 fK ?_
        refine V_iload_n 3 d_Tape_isName_43 rfl rfl ?_
        refine V_iadd fE tc_0 (by (first | decide +kernel | omega)) d_Tape_isName_44 (fun z11 z11e z11E => ?_)
        refine N_bald sk_90 z11E (by (first | decide +kernel | omega)) d_Tape_isName_45 (fun z12 z12Z z12E z12e => ?_)
        have g13 : z12Z = b (fZ + 0) := TP_rd (TP_fr f0 (fun _ => rfl) hy0) (by (first | decide +kernel | omega)) z12E z12e
        refine V_aload_n 1 d_Tape_isName_46 rfl rfl ?_
        refine V_iload_n 3 d_Tape_isName_47 rfl rfl ?_
        refine N_callVSI [.int 0] [.int z12] cv_Tape_47 sH rfl d_Tape_isName_48 rfl (Nat.le_of_ble_eq_true rfl) (by decide) (by decide) (c_Str_charAt h 2 sH 0 0 tc_0 (by decide)) (fun z14 h15 z14Z z14E p16 => ?_)
        obtain ⟨eh15, p16⟩ := p16
        subst eh15
        obtain rfl : z14 = 105 := p16.trans rfl
        refine V_icmp_eq 56 z12E tc_105 d_Tape_isName_51 (by decide) (fun c17 => ?_) (fun c17 => ?_)
        ·
          refine V_iinc (v := 1) 3 [some (.ref 89), some (.ref (135 + 2)), some (.int 4), some (.int 1)] d_Tape_isName_56 rfl (by decide) (by decide) rfl rfl ?_
          refine V_goto 30 d_Tape_isName_59 (by decide) ?_
          refine V_iload_n 3 d_Tape_isName_30 rfl rfl ?_
          refine V_iload_n 2 d_Tape_isName_31 rfl rfl ?_
          refine V_icmp_ge 62 tc_1 tc_4 d_Tape_isName_32 (by decide) (fun c19 => ?_) (fun c19 => ?_)
          ·
            exact absurd c19 (by decide)
          ·
            refine V_aload_n 0 d_Tape_isName_35 rfl rfl ?_
            refine V_getR fa_Tape_9 sk_89 rfl d_Tape_isName_36 ?_
            refine V_aload_n 0 d_Tape_isName_39 rfl rfl ?_
            refine N_getK fa_Tape_19 sk_89 rfl d_Tape_isName_40 fK ?_
            refine V_iload_n 3 d_Tape_isName_43 rfl rfl ?_
            refine V_iadd fE tc_1 (by (first | decide +kernel | omega)) d_Tape_isName_44 (fun z20 z20e z20E => ?_)
            refine N_bald sk_90 z20E (by (first | decide +kernel | omega)) d_Tape_isName_45 (fun z21 z21Z z21E z21e => ?_)
            have g22 : z21Z = b (fZ + 1) := TP_rd (TP_fr f0 (fun _ => rfl) hy0) (by (first | decide +kernel | omega)) z21E z21e
            refine V_aload_n 1 d_Tape_isName_46 rfl rfl ?_
            refine V_iload_n 3 d_Tape_isName_47 rfl rfl ?_
            refine N_callVSI [.int 1] [.int z21] cv_Tape_47 sH rfl d_Tape_isName_48 rfl (Nat.le_of_ble_eq_true rfl) (by decide) (by decide) (c_Str_charAt h 2 sH 1 1 tc_1 (by decide)) (fun z23 h24 z23Z z23E p25 => ?_)
            obtain ⟨eh24, p25⟩ := p25
            subst eh24
            obtain rfl : z23 = 114 := p25.trans rfl
            refine V_icmp_eq 56 z21E tc_114 d_Tape_isName_51 (by decide) (fun c26 => ?_) (fun c26 => ?_)
            ·
              refine V_iinc (v := 2) 3 [some (.ref 89), some (.ref (135 + 2)), some (.int 4), some (.int 2)] d_Tape_isName_56 rfl (by decide) (by decide) rfl rfl ?_
              refine V_goto 30 d_Tape_isName_59 (by decide) ?_
              refine V_iload_n 3 d_Tape_isName_30 rfl rfl ?_
              refine V_iload_n 2 d_Tape_isName_31 rfl rfl ?_
              refine V_icmp_ge 62 tc_2 tc_4 d_Tape_isName_32 (by decide) (fun c28 => ?_) (fun c28 => ?_)
              ·
                exact absurd c28 (by decide)
              ·
                refine V_aload_n 0 d_Tape_isName_35 rfl rfl ?_
                refine V_getR fa_Tape_9 sk_89 rfl d_Tape_isName_36 ?_
                refine V_aload_n 0 d_Tape_isName_39 rfl rfl ?_
                refine N_getK fa_Tape_19 sk_89 rfl d_Tape_isName_40 fK ?_
                refine V_iload_n 3 d_Tape_isName_43 rfl rfl ?_
                refine V_iadd fE tc_2 (by (first | decide +kernel | omega)) d_Tape_isName_44 (fun z29 z29e z29E => ?_)
                refine N_bald sk_90 z29E (by (first | decide +kernel | omega)) d_Tape_isName_45 (fun z30 z30Z z30E z30e => ?_)
                have g31 : z30Z = b (fZ + 2) := TP_rd (TP_fr f0 (fun _ => rfl) hy0) (by (first | decide +kernel | omega)) z30E z30e
                refine V_aload_n 1 d_Tape_isName_46 rfl rfl ?_
                refine V_iload_n 3 d_Tape_isName_47 rfl rfl ?_
                refine N_callVSI [.int 2] [.int z30] cv_Tape_47 sH rfl d_Tape_isName_48 rfl (Nat.le_of_ble_eq_true rfl) (by decide) (by decide) (c_Str_charAt h 2 sH 2 2 tc_2 (by decide)) (fun z32 h33 z32Z z32E p34 => ?_)
                obtain ⟨eh33, p34⟩ := p34
                subst eh33
                obtain rfl : z32 = 111 := p34.trans rfl
                refine V_icmp_eq 56 z30E tc_111 d_Tape_isName_51 (by decide) (fun c35 => ?_) (fun c35 => ?_)
                ·
                  refine V_iinc (v := 3) 3 [some (.ref 89), some (.ref (135 + 2)), some (.int 4), some (.int 3)] d_Tape_isName_56 rfl (by decide) (by decide) rfl rfl ?_
                  refine V_goto 30 d_Tape_isName_59 (by decide) ?_
                  refine V_iload_n 3 d_Tape_isName_30 rfl rfl ?_
                  refine V_iload_n 2 d_Tape_isName_31 rfl rfl ?_
                  refine V_icmp_ge 62 tc_3 tc_4 d_Tape_isName_32 (by decide) (fun c37 => ?_) (fun c37 => ?_)
                  ·
                    exact absurd c37 (by decide)
                  ·
                    refine V_aload_n 0 d_Tape_isName_35 rfl rfl ?_
                    refine V_getR fa_Tape_9 sk_89 rfl d_Tape_isName_36 ?_
                    refine V_aload_n 0 d_Tape_isName_39 rfl rfl ?_
                    refine N_getK fa_Tape_19 sk_89 rfl d_Tape_isName_40 fK ?_
                    refine V_iload_n 3 d_Tape_isName_43 rfl rfl ?_
                    refine V_iadd fE tc_3 (by (first | decide +kernel | omega)) d_Tape_isName_44 (fun z38 z38e z38E => ?_)
                    refine N_bald sk_90 z38E (by (first | decide +kernel | omega)) d_Tape_isName_45 (fun z39 z39Z z39E z39e => ?_)
                    have g40 : z39Z = b (fZ + 3) := TP_rd (TP_fr f0 (fun _ => rfl) hy0) (by (first | decide +kernel | omega)) z39E z39e
                    refine V_aload_n 1 d_Tape_isName_46 rfl rfl ?_
                    refine V_iload_n 3 d_Tape_isName_47 rfl rfl ?_
                    refine N_callVSI [.int 3] [.int z39] cv_Tape_47 sH rfl d_Tape_isName_48 rfl (Nat.le_of_ble_eq_true rfl) (by decide) (by decide) (c_Str_charAt h 2 sH 3 3 tc_3 (by decide)) (fun z41 h42 z41Z z41E p43 => ?_)
                    obtain ⟨eh42, p43⟩ := p43
                    subst eh42
                    obtain rfl : z41 = 110 := p43.trans rfl
                    refine V_icmp_eq 56 z39E tc_110 d_Tape_isName_51 (by decide) (fun c44 => ?_) (fun c44 => ?_)
                    ·
                      refine V_iinc (v := 4) 3 [some (.ref 89), some (.ref (135 + 2)), some (.int 4), some (.int 4)] d_Tape_isName_56 rfl (by decide) (by decide) rfl rfl ?_
                      refine V_goto 30 d_Tape_isName_59 (by decide) ?_
                      refine V_iload_n 3 d_Tape_isName_30 rfl rfl ?_
                      refine V_iload_n 2 d_Tape_isName_31 rfl rfl ?_
                      refine V_icmp_ge 62 tc_4 tc_4 d_Tape_isName_32 (by decide) (fun c46 => ?_) (fun c46 => ?_)
                      ·
                        refine V_iconst 1 d_Tape_isName_62 (by decide) ?_
                        exact V_zret rfl (by decide) d_Tape_isName_63 ⟨1, rfl, ⟨rfl, (Or.inr ⟨by (first | decide +kernel | omega), tc_1.trans (x_nmy2 (b := b) (f := fZ) (e := uZ) (by (first | decide +kernel | omega))).symm⟩)⟩⟩
                      ·
                        exact absurd c46 (by decide)
                    ·
                      refine V_iconst 0 d_Tape_isName_54 (by decide) ?_
                      exact V_zret rfl (by decide) d_Tape_isName_55 ⟨0, rfl, ⟨rfl, (Or.inr ⟨by (first | decide +kernel | omega), tc_0.trans (x_nmn2 (b := b) (f := fZ) (e := uZ) (by (first | decide +kernel | omega))).symm⟩)⟩⟩
                ·
                  refine V_iconst 0 d_Tape_isName_54 (by decide) ?_
                  exact V_zret rfl (by decide) d_Tape_isName_55 ⟨0, rfl, ⟨rfl, (Or.inr ⟨by (first | decide +kernel | omega), tc_0.trans (x_nmn2 (b := b) (f := fZ) (e := uZ) (by (first | decide +kernel | omega))).symm⟩)⟩⟩
            ·
              refine V_iconst 0 d_Tape_isName_54 (by decide) ?_
              exact V_zret rfl (by decide) d_Tape_isName_55 ⟨0, rfl, ⟨rfl, (Or.inr ⟨by (first | decide +kernel | omega), tc_0.trans (x_nmn2 (b := b) (f := fZ) (e := uZ) (by (first | decide +kernel | omega))).symm⟩)⟩⟩
        ·
          refine V_iconst 0 d_Tape_isName_54 (by decide) ?_
          exact V_zret rfl (by decide) d_Tape_isName_55 ⟨0, rfl, ⟨rfl, (Or.inr ⟨by (first | decide +kernel | omega), tc_0.trans (x_nmn2 (b := b) (f := fZ) (e := uZ) (by (first | decide +kernel | omega))).symm⟩)⟩⟩
    ·
      refine V_iconst 0 d_Tape_isName_26 (by decide) ?_
      exact V_zret rfl (by decide) d_Tape_isName_27 ⟨0, rfl, ⟨rfl, (if q : qZ = 1 then Or.inr ⟨q, tc_0.trans (x_nmn2 (b := b) (f := fZ) (e := uZ) (by (first | decide +kernel | omega))).symm⟩ else Or.inl ⟨q, rfl⟩)⟩⟩
abbrev q_Tape_isNameX_3 (h : Hp) (b : Int → Int) (s : Int32) (sZ : Int) (q : Int32) (qZ : Int) (f : Int32) (fZ : Int) (u : Int32) (uZ : Int) : Option Value → Hp → Prop := pInt (fun r h' => h = h' ∧ (qZ ≠ 1 ∧ r.toInt = 0 ∨ qZ = 1 ∧ r.toInt = x_nm3 b fZ uZ))
set_option maxRecDepth 100000 in
theorem c_Tape_isNameX_3 (h : Hp) (b : Int → Int) (hI : Inv h) (s : Int32) (sZ : Int) (sE : s.toInt = sZ) (sK : h.1 89 1 = s) (q : Int32) (qZ : Int) (qE : q.toInt = qZ) (qK : h.1 89 2 = q) (f : Int32) (fZ : Int) (fE : f.toInt = fZ) (fK : h.1 89 3 = f) (u : Int32) (uZ : Int) (uE : u.toInt = uZ) (uK : h.1 89 4 = u) (hy0 : TP h 90 sZ b) (hy1 : 0 ≤ fZ ∧ fZ ≤ uZ ∧ uZ ≤ sZ ∧ sZ ≤ 160) : Ct y_Tape_isName b_Tape_isName 4 (some .boolean) 4 85 [.ref 89, .ref (135 + 3)] h (q_Tape_isNameX_3 h b s sZ q qZ f fZ u uZ) := by
  refine ct_ow R_Tape [some (.ref 89), some (.ref (135 + 3)), none, none] rfl (by decide) rfl (Nat.le_of_ble_eq_true rfl) ?_
  have f0 : fr [] h h := fr_rf
  have g1 : 0 ≤ sZ ∧ sZ ≤ 160 := inv_at hI sE sK.symm rfl
  have g2 : 0 ≤ fZ ∧ fZ ≤ 160 := inv_at hI fE fK.symm rfl
  have g3 : 0 ≤ uZ ∧ uZ ≤ 160 := inv_at hI uE uK.symm rfl
  have sH : 3 < 14 := by decide
  refine V_aload_n 1 d_Tape_isName_0 rfl rfl ?_
  refine N_callVSI [] [] cv_Tape_41 sH rfl d_Tape_isName_1 rfl (Nat.le_of_ble_eq_true rfl) (by decide) (by decide) (c_Str_length h 3 sH) (fun z4 h5 z4Z z4E p6 => ?_)
  obtain ⟨eh5, p6⟩ := p6
  subst eh5
  rw [z4E] at p6
  obtain rfl : z4 = 4 := (ti_eq z4E (show (4 : Int32).toInt = 4 from rfl)).mpr (p6.trans rfl)
  refine V_istore_n 2 [some (.ref 89), some (.ref (135 + 3)), some (.int 4), none] d_Tape_isName_4 rfl (by decide) rfl rfl ?_
  refine V_aload_n 0 d_Tape_isName_5 rfl rfl ?_
  refine N_getK fa_Tape_25 sk_89 rfl d_Tape_isName_6 qK ?_
  refine V_iconst 1 d_Tape_isName_9 (by decide) ?_
  refine V_icmp_ne 26 qE tc_1 d_Tape_isName_10 (by decide) (fun c7 => ?_) (fun c7 => ?_)
  ·
    refine V_iconst 0 d_Tape_isName_26 (by decide) ?_
    exact V_zret rfl (by decide) d_Tape_isName_27 ⟨0, rfl, ⟨rfl, (if q : qZ = 1 then Or.inr ⟨q, tc_0.trans (x_nmn3 (b := b) (f := fZ) (e := uZ) (by (first | decide +kernel | omega))).symm⟩ else Or.inl ⟨q, rfl⟩)⟩⟩
  ·
    refine V_aload_n 0 d_Tape_isName_13 rfl rfl ?_
    refine N_getK fa_Tape_15 sk_89 rfl d_Tape_isName_14 uK ?_
    refine V_aload_n 0 d_Tape_isName_17 rfl rfl ?_
    refine N_getK fa_Tape_19 sk_89 rfl d_Tape_isName_18 fK ?_
    refine V_isub uE fE (by (first | decide +kernel | omega)) d_Tape_isName_21 (fun z8 z8e z8E => ?_)
    refine V_iload_n 2 d_Tape_isName_22 rfl rfl ?_
    refine V_icmp_eq 28 z8E tc_4 d_Tape_isName_23 (by decide) (fun c9 => ?_) (fun c9 => ?_)
    ·
      refine V_iconst 0 d_Tape_isName_28 (by decide) ?_
      refine V_istore_n 3 [some (.ref 89), some (.ref (135 + 3)), some (.int 4), some (.int 0)] d_Tape_isName_29 rfl (by decide) rfl rfl ?_
      refine V_iload_n 3 d_Tape_isName_30 rfl rfl ?_
      refine V_iload_n 2 d_Tape_isName_31 rfl rfl ?_
      refine V_icmp_ge 62 tc_0 tc_4 d_Tape_isName_32 (by decide) (fun c10 => ?_) (fun c10 => ?_)
      ·
        exact absurd c10 (by decide)
      ·
        refine V_aload_n 0 d_Tape_isName_35 rfl rfl ?_
        refine V_getR fa_Tape_9 sk_89 rfl d_Tape_isName_36 ?_
        refine V_aload_n 0 d_Tape_isName_39 rfl rfl ?_
        refine N_getK fa_Tape_19 sk_89 rfl d_Tape_isName_40 fK ?_
        refine V_iload_n 3 d_Tape_isName_43 rfl rfl ?_
        refine V_iadd fE tc_0 (by (first | decide +kernel | omega)) d_Tape_isName_44 (fun z11 z11e z11E => ?_)
        refine N_bald sk_90 z11E (by (first | decide +kernel | omega)) d_Tape_isName_45 (fun z12 z12Z z12E z12e => ?_)
        have g13 : z12Z = b (fZ + 0) := TP_rd (TP_fr f0 (fun _ => rfl) hy0) (by (first | decide +kernel | omega)) z12E z12e
        refine V_aload_n 1 d_Tape_isName_46 rfl rfl ?_
        refine V_iload_n 3 d_Tape_isName_47 rfl rfl ?_
        refine N_callVSI [.int 0] [.int z12] cv_Tape_47 sH rfl d_Tape_isName_48 rfl (Nat.le_of_ble_eq_true rfl) (by decide) (by decide) (c_Str_charAt h 3 sH 0 0 tc_0 (by decide)) (fun z14 h15 z14Z z14E p16 => ?_)
        obtain ⟨eh15, p16⟩ := p16
        subst eh15
        obtain rfl : z14 = 111 := p16.trans rfl
        refine V_icmp_eq 56 z12E tc_111 d_Tape_isName_51 (by decide) (fun c17 => ?_) (fun c17 => ?_)
        ·
          refine V_iinc (v := 1) 3 [some (.ref 89), some (.ref (135 + 3)), some (.int 4), some (.int 1)] d_Tape_isName_56 rfl (by decide) (by decide) rfl rfl ?_
          refine V_goto 30 d_Tape_isName_59 (by decide) ?_
          refine V_iload_n 3 d_Tape_isName_30 rfl rfl ?_
          refine V_iload_n 2 d_Tape_isName_31 rfl rfl ?_
          refine V_icmp_ge 62 tc_1 tc_4 d_Tape_isName_32 (by decide) (fun c19 => ?_) (fun c19 => ?_)
          ·
            exact absurd c19 (by decide)
          ·
            refine V_aload_n 0 d_Tape_isName_35 rfl rfl ?_
            refine V_getR fa_Tape_9 sk_89 rfl d_Tape_isName_36 ?_
            refine V_aload_n 0 d_Tape_isName_39 rfl rfl ?_
            refine N_getK fa_Tape_19 sk_89 rfl d_Tape_isName_40 fK ?_
            refine V_iload_n 3 d_Tape_isName_43 rfl rfl ?_
            refine V_iadd fE tc_1 (by (first | decide +kernel | omega)) d_Tape_isName_44 (fun z20 z20e z20E => ?_)
            refine N_bald sk_90 z20E (by (first | decide +kernel | omega)) d_Tape_isName_45 (fun z21 z21Z z21E z21e => ?_)
            have g22 : z21Z = b (fZ + 1) := TP_rd (TP_fr f0 (fun _ => rfl) hy0) (by (first | decide +kernel | omega)) z21E z21e
            refine V_aload_n 1 d_Tape_isName_46 rfl rfl ?_
            refine V_iload_n 3 d_Tape_isName_47 rfl rfl ?_
            refine N_callVSI [.int 1] [.int z21] cv_Tape_47 sH rfl d_Tape_isName_48 rfl (Nat.le_of_ble_eq_true rfl) (by decide) (by decide) (c_Str_charAt h 3 sH 1 1 tc_1 (by decide)) (fun z23 h24 z23Z z23E p25 => ?_)
            obtain ⟨eh24, p25⟩ := p25
            subst eh24
            obtain rfl : z23 = 100 := p25.trans rfl
            refine V_icmp_eq 56 z21E tc_100 d_Tape_isName_51 (by decide) (fun c26 => ?_) (fun c26 => ?_)
            ·
              refine V_iinc (v := 2) 3 [some (.ref 89), some (.ref (135 + 3)), some (.int 4), some (.int 2)] d_Tape_isName_56 rfl (by decide) (by decide) rfl rfl ?_
              refine V_goto 30 d_Tape_isName_59 (by decide) ?_
              refine V_iload_n 3 d_Tape_isName_30 rfl rfl ?_
              refine V_iload_n 2 d_Tape_isName_31 rfl rfl ?_
              refine V_icmp_ge 62 tc_2 tc_4 d_Tape_isName_32 (by decide) (fun c28 => ?_) (fun c28 => ?_)
              ·
                exact absurd c28 (by decide)
              ·
                refine V_aload_n 0 d_Tape_isName_35 rfl rfl ?_
                refine V_getR fa_Tape_9 sk_89 rfl d_Tape_isName_36 ?_
                refine V_aload_n 0 d_Tape_isName_39 rfl rfl ?_
                refine N_getK fa_Tape_19 sk_89 rfl d_Tape_isName_40 fK ?_
                refine V_iload_n 3 d_Tape_isName_43 rfl rfl ?_
                refine V_iadd fE tc_2 (by (first | decide +kernel | omega)) d_Tape_isName_44 (fun z29 z29e z29E => ?_)
                refine N_bald sk_90 z29E (by (first | decide +kernel | omega)) d_Tape_isName_45 (fun z30 z30Z z30E z30e => ?_)
                have g31 : z30Z = b (fZ + 2) := TP_rd (TP_fr f0 (fun _ => rfl) hy0) (by (first | decide +kernel | omega)) z30E z30e
                refine V_aload_n 1 d_Tape_isName_46 rfl rfl ?_
                refine V_iload_n 3 d_Tape_isName_47 rfl rfl ?_
                refine N_callVSI [.int 2] [.int z30] cv_Tape_47 sH rfl d_Tape_isName_48 rfl (Nat.le_of_ble_eq_true rfl) (by decide) (by decide) (c_Str_charAt h 3 sH 2 2 tc_2 (by decide)) (fun z32 h33 z32Z z32E p34 => ?_)
                obtain ⟨eh33, p34⟩ := p34
                subst eh33
                obtain rfl : z32 = 100 := p34.trans rfl
                refine V_icmp_eq 56 z30E tc_100 d_Tape_isName_51 (by decide) (fun c35 => ?_) (fun c35 => ?_)
                ·
                  refine V_iinc (v := 3) 3 [some (.ref 89), some (.ref (135 + 3)), some (.int 4), some (.int 3)] d_Tape_isName_56 rfl (by decide) (by decide) rfl rfl ?_
                  refine V_goto 30 d_Tape_isName_59 (by decide) ?_
                  refine V_iload_n 3 d_Tape_isName_30 rfl rfl ?_
                  refine V_iload_n 2 d_Tape_isName_31 rfl rfl ?_
                  refine V_icmp_ge 62 tc_3 tc_4 d_Tape_isName_32 (by decide) (fun c37 => ?_) (fun c37 => ?_)
                  ·
                    exact absurd c37 (by decide)
                  ·
                    refine V_aload_n 0 d_Tape_isName_35 rfl rfl ?_
                    refine V_getR fa_Tape_9 sk_89 rfl d_Tape_isName_36 ?_
                    refine V_aload_n 0 d_Tape_isName_39 rfl rfl ?_
                    refine N_getK fa_Tape_19 sk_89 rfl d_Tape_isName_40 fK ?_
                    refine V_iload_n 3 d_Tape_isName_43 rfl rfl ?_
                    refine V_iadd fE tc_3 (by (first | decide +kernel | omega)) d_Tape_isName_44 (fun z38 z38e z38E => ?_)
                    refine N_bald sk_90 z38E (by (first | decide +kernel | omega)) d_Tape_isName_45 (fun z39 z39Z z39E z39e => ?_)
                    have g40 : z39Z = b (fZ + 3) := TP_rd (TP_fr f0 (fun _ => rfl) hy0) (by (first | decide +kernel | omega)) z39E z39e
                    refine V_aload_n 1 d_Tape_isName_46 rfl rfl ?_
                    refine V_iload_n 3 d_Tape_isName_47 rfl rfl ?_
                    refine N_callVSI [.int 3] [.int z39] cv_Tape_47 sH rfl d_Tape_isName_48 rfl (Nat.le_of_ble_eq_true rfl) (by decide) (by decide) (c_Str_charAt h 3 sH 3 3 tc_3 (by decide)) (fun z41 h42 z41Z z41E p43 => ?_)
                    obtain ⟨eh42, p43⟩ := p43
                    subst eh42
                    obtain rfl : z41 = 115 := p43.trans rfl
                    refine V_icmp_eq 56 z39E tc_115 d_Tape_isName_51 (by decide) (fun c44 => ?_) (fun c44 => ?_)
                    ·
                      refine V_iinc (v := 4) 3 [some (.ref 89), some (.ref (135 + 3)), some (.int 4), some (.int 4)] d_Tape_isName_56 rfl (by decide) (by decide) rfl rfl ?_
                      refine V_goto 30 d_Tape_isName_59 (by decide) ?_
                      refine V_iload_n 3 d_Tape_isName_30 rfl rfl ?_
                      refine V_iload_n 2 d_Tape_isName_31 rfl rfl ?_
                      refine V_icmp_ge 62 tc_4 tc_4 d_Tape_isName_32 (by decide) (fun c46 => ?_) (fun c46 => ?_)
                      ·
                        refine V_iconst 1 d_Tape_isName_62 (by decide) ?_
                        exact V_zret rfl (by decide) d_Tape_isName_63 ⟨1, rfl, ⟨rfl, (Or.inr ⟨by (first | decide +kernel | omega), tc_1.trans (x_nmy3 (b := b) (f := fZ) (e := uZ) (by (first | decide +kernel | omega))).symm⟩)⟩⟩
                      ·
                        exact absurd c46 (by decide)
                    ·
                      refine V_iconst 0 d_Tape_isName_54 (by decide) ?_
                      exact V_zret rfl (by decide) d_Tape_isName_55 ⟨0, rfl, ⟨rfl, (Or.inr ⟨by (first | decide +kernel | omega), tc_0.trans (x_nmn3 (b := b) (f := fZ) (e := uZ) (by (first | decide +kernel | omega))).symm⟩)⟩⟩
                ·
                  refine V_iconst 0 d_Tape_isName_54 (by decide) ?_
                  exact V_zret rfl (by decide) d_Tape_isName_55 ⟨0, rfl, ⟨rfl, (Or.inr ⟨by (first | decide +kernel | omega), tc_0.trans (x_nmn3 (b := b) (f := fZ) (e := uZ) (by (first | decide +kernel | omega))).symm⟩)⟩⟩
            ·
              refine V_iconst 0 d_Tape_isName_54 (by decide) ?_
              exact V_zret rfl (by decide) d_Tape_isName_55 ⟨0, rfl, ⟨rfl, (Or.inr ⟨by (first | decide +kernel | omega), tc_0.trans (x_nmn3 (b := b) (f := fZ) (e := uZ) (by (first | decide +kernel | omega))).symm⟩)⟩⟩
        ·
          refine V_iconst 0 d_Tape_isName_54 (by decide) ?_
          exact V_zret rfl (by decide) d_Tape_isName_55 ⟨0, rfl, ⟨rfl, (Or.inr ⟨by (first | decide +kernel | omega), tc_0.trans (x_nmn3 (b := b) (f := fZ) (e := uZ) (by (first | decide +kernel | omega))).symm⟩)⟩⟩
    ·
      refine V_iconst 0 d_Tape_isName_26 (by decide) ?_
      exact V_zret rfl (by decide) d_Tape_isName_27 ⟨0, rfl, ⟨rfl, (if q : qZ = 1 then Or.inr ⟨q, tc_0.trans (x_nmn3 (b := b) (f := fZ) (e := uZ) (by (first | decide +kernel | omega))).symm⟩ else Or.inl ⟨q, rfl⟩)⟩⟩
abbrev q_Tape_isNameX_4 (h : Hp) (b : Int → Int) (s : Int32) (sZ : Int) (q : Int32) (qZ : Int) (f : Int32) (fZ : Int) (u : Int32) (uZ : Int) : Option Value → Hp → Prop := pInt (fun r h' => h = h' ∧ (qZ ≠ 1 ∧ r.toInt = 0 ∨ qZ = 1 ∧ r.toInt = x_nm4 b fZ uZ))
set_option maxRecDepth 100000 in
theorem c_Tape_isNameX_4 (h : Hp) (b : Int → Int) (hI : Inv h) (s : Int32) (sZ : Int) (sE : s.toInt = sZ) (sK : h.1 89 1 = s) (q : Int32) (qZ : Int) (qE : q.toInt = qZ) (qK : h.1 89 2 = q) (f : Int32) (fZ : Int) (fE : f.toInt = fZ) (fK : h.1 89 3 = f) (u : Int32) (uZ : Int) (uE : u.toInt = uZ) (uK : h.1 89 4 = u) (hy0 : TP h 90 sZ b) (hy1 : 0 ≤ fZ ∧ fZ ≤ uZ ∧ uZ ≤ sZ ∧ sZ ≤ 160) : Ct y_Tape_isName b_Tape_isName 4 (some .boolean) 4 85 [.ref 89, .ref (135 + 4)] h (q_Tape_isNameX_4 h b s sZ q qZ f fZ u uZ) := by
  refine ct_ow R_Tape [some (.ref 89), some (.ref (135 + 4)), none, none] rfl (by decide) rfl (Nat.le_of_ble_eq_true rfl) ?_
  have f0 : fr [] h h := fr_rf
  have g1 : 0 ≤ sZ ∧ sZ ≤ 160 := inv_at hI sE sK.symm rfl
  have g2 : 0 ≤ fZ ∧ fZ ≤ 160 := inv_at hI fE fK.symm rfl
  have g3 : 0 ≤ uZ ∧ uZ ≤ 160 := inv_at hI uE uK.symm rfl
  have sH : 4 < 14 := by decide
  refine V_aload_n 1 d_Tape_isName_0 rfl rfl ?_
  refine N_callVSI [] [] cv_Tape_41 sH rfl d_Tape_isName_1 rfl (Nat.le_of_ble_eq_true rfl) (by decide) (by decide) (c_Str_length h 4 sH) (fun z4 h5 z4Z z4E p6 => ?_)
  obtain ⟨eh5, p6⟩ := p6
  subst eh5
  rw [z4E] at p6
  obtain rfl : z4 = 5 := (ti_eq z4E (show (5 : Int32).toInt = 5 from rfl)).mpr (p6.trans rfl)
  refine V_istore_n 2 [some (.ref 89), some (.ref (135 + 4)), some (.int 5), none] d_Tape_isName_4 rfl (by decide) rfl rfl ?_
  refine V_aload_n 0 d_Tape_isName_5 rfl rfl ?_
  refine N_getK fa_Tape_25 sk_89 rfl d_Tape_isName_6 qK ?_
  refine V_iconst 1 d_Tape_isName_9 (by decide) ?_
  refine V_icmp_ne 26 qE tc_1 d_Tape_isName_10 (by decide) (fun c7 => ?_) (fun c7 => ?_)
  ·
    refine V_iconst 0 d_Tape_isName_26 (by decide) ?_
    exact V_zret rfl (by decide) d_Tape_isName_27 ⟨0, rfl, ⟨rfl, (if q : qZ = 1 then Or.inr ⟨q, tc_0.trans (x_nmn4 (b := b) (f := fZ) (e := uZ) (by (first | decide +kernel | omega))).symm⟩ else Or.inl ⟨q, rfl⟩)⟩⟩
  ·
    refine V_aload_n 0 d_Tape_isName_13 rfl rfl ?_
    refine N_getK fa_Tape_15 sk_89 rfl d_Tape_isName_14 uK ?_
    refine V_aload_n 0 d_Tape_isName_17 rfl rfl ?_
    refine N_getK fa_Tape_19 sk_89 rfl d_Tape_isName_18 fK ?_
    refine V_isub uE fE (by (first | decide +kernel | omega)) d_Tape_isName_21 (fun z8 z8e z8E => ?_)
    refine V_iload_n 2 d_Tape_isName_22 rfl rfl ?_
    refine V_icmp_eq 28 z8E tc_5 d_Tape_isName_23 (by decide) (fun c9 => ?_) (fun c9 => ?_)
    ·
      refine V_iconst 0 d_Tape_isName_28 (by decide) ?_
      refine V_istore_n 3 [some (.ref 89), some (.ref (135 + 4)), some (.int 5), some (.int 0)] d_Tape_isName_29 rfl (by decide) rfl rfl ?_
      refine V_iload_n 3 d_Tape_isName_30 rfl rfl ?_
      refine V_iload_n 2 d_Tape_isName_31 rfl rfl ?_
      refine V_icmp_ge 62 tc_0 tc_5 d_Tape_isName_32 (by decide) (fun c10 => ?_) (fun c10 => ?_)
      ·
        exact absurd c10 (by decide)
      ·
        refine V_aload_n 0 d_Tape_isName_35 rfl rfl ?_
        refine V_getR fa_Tape_9 sk_89 rfl d_Tape_isName_36 ?_
        refine V_aload_n 0 d_Tape_isName_39 rfl rfl ?_
        refine N_getK fa_Tape_19 sk_89 rfl d_Tape_isName_40 fK ?_
        refine V_iload_n 3 d_Tape_isName_43 rfl rfl ?_
        refine V_iadd fE tc_0 (by (first | decide +kernel | omega)) d_Tape_isName_44 (fun z11 z11e z11E => ?_)
        refine N_bald sk_90 z11E (by (first | decide +kernel | omega)) d_Tape_isName_45 (fun z12 z12Z z12E z12e => ?_)
        have g13 : z12Z = b (fZ + 0) := TP_rd (TP_fr f0 (fun _ => rfl) hy0) (by (first | decide +kernel | omega)) z12E z12e
        refine V_aload_n 1 d_Tape_isName_46 rfl rfl ?_
        refine V_iload_n 3 d_Tape_isName_47 rfl rfl ?_
        refine N_callVSI [.int 0] [.int z12] cv_Tape_47 sH rfl d_Tape_isName_48 rfl (Nat.le_of_ble_eq_true rfl) (by decide) (by decide) (c_Str_charAt h 4 sH 0 0 tc_0 (by decide)) (fun z14 h15 z14Z z14E p16 => ?_)
        obtain ⟨eh15, p16⟩ := p16
        subst eh15
        obtain rfl : z14 = 99 := p16.trans rfl
        refine V_icmp_eq 56 z12E tc_99 d_Tape_isName_51 (by decide) (fun c17 => ?_) (fun c17 => ?_)
        ·
          refine V_iinc (v := 1) 3 [some (.ref 89), some (.ref (135 + 4)), some (.int 5), some (.int 1)] d_Tape_isName_56 rfl (by decide) (by decide) rfl rfl ?_
          refine V_goto 30 d_Tape_isName_59 (by decide) ?_
          refine V_iload_n 3 d_Tape_isName_30 rfl rfl ?_
          refine V_iload_n 2 d_Tape_isName_31 rfl rfl ?_
          refine V_icmp_ge 62 tc_1 tc_5 d_Tape_isName_32 (by decide) (fun c19 => ?_) (fun c19 => ?_)
          ·
            exact absurd c19 (by decide)
          ·
            refine V_aload_n 0 d_Tape_isName_35 rfl rfl ?_
            refine V_getR fa_Tape_9 sk_89 rfl d_Tape_isName_36 ?_
            refine V_aload_n 0 d_Tape_isName_39 rfl rfl ?_
            refine N_getK fa_Tape_19 sk_89 rfl d_Tape_isName_40 fK ?_
            refine V_iload_n 3 d_Tape_isName_43 rfl rfl ?_
            refine V_iadd fE tc_1 (by (first | decide +kernel | omega)) d_Tape_isName_44 (fun z20 z20e z20E => ?_)
            refine N_bald sk_90 z20E (by (first | decide +kernel | omega)) d_Tape_isName_45 (fun z21 z21Z z21E z21e => ?_)
            have g22 : z21Z = b (fZ + 1) := TP_rd (TP_fr f0 (fun _ => rfl) hy0) (by (first | decide +kernel | omega)) z21E z21e
            refine V_aload_n 1 d_Tape_isName_46 rfl rfl ?_
            refine V_iload_n 3 d_Tape_isName_47 rfl rfl ?_
            refine N_callVSI [.int 1] [.int z21] cv_Tape_47 sH rfl d_Tape_isName_48 rfl (Nat.le_of_ble_eq_true rfl) (by decide) (by decide) (c_Str_charAt h 4 sH 1 1 tc_1 (by decide)) (fun z23 h24 z23Z z23E p25 => ?_)
            obtain ⟨eh24, p25⟩ := p25
            subst eh24
            obtain rfl : z23 = 108 := p25.trans rfl
            refine V_icmp_eq 56 z21E tc_108 d_Tape_isName_51 (by decide) (fun c26 => ?_) (fun c26 => ?_)
            ·
              refine V_iinc (v := 2) 3 [some (.ref 89), some (.ref (135 + 4)), some (.int 5), some (.int 2)] d_Tape_isName_56 rfl (by decide) (by decide) rfl rfl ?_
              refine V_goto 30 d_Tape_isName_59 (by decide) ?_
              refine V_iload_n 3 d_Tape_isName_30 rfl rfl ?_
              refine V_iload_n 2 d_Tape_isName_31 rfl rfl ?_
              refine V_icmp_ge 62 tc_2 tc_5 d_Tape_isName_32 (by decide) (fun c28 => ?_) (fun c28 => ?_)
              ·
                exact absurd c28 (by decide)
              ·
                refine V_aload_n 0 d_Tape_isName_35 rfl rfl ?_
                refine V_getR fa_Tape_9 sk_89 rfl d_Tape_isName_36 ?_
                refine V_aload_n 0 d_Tape_isName_39 rfl rfl ?_
                refine N_getK fa_Tape_19 sk_89 rfl d_Tape_isName_40 fK ?_
                refine V_iload_n 3 d_Tape_isName_43 rfl rfl ?_
                refine V_iadd fE tc_2 (by (first | decide +kernel | omega)) d_Tape_isName_44 (fun z29 z29e z29E => ?_)
                refine N_bald sk_90 z29E (by (first | decide +kernel | omega)) d_Tape_isName_45 (fun z30 z30Z z30E z30e => ?_)
                have g31 : z30Z = b (fZ + 2) := TP_rd (TP_fr f0 (fun _ => rfl) hy0) (by (first | decide +kernel | omega)) z30E z30e
                refine V_aload_n 1 d_Tape_isName_46 rfl rfl ?_
                refine V_iload_n 3 d_Tape_isName_47 rfl rfl ?_
                refine N_callVSI [.int 2] [.int z30] cv_Tape_47 sH rfl d_Tape_isName_48 rfl (Nat.le_of_ble_eq_true rfl) (by decide) (by decide) (c_Str_charAt h 4 sH 2 2 tc_2 (by decide)) (fun z32 h33 z32Z z32E p34 => ?_)
                obtain ⟨eh33, p34⟩ := p34
                subst eh33
                obtain rfl : z32 = 97 := p34.trans rfl
                refine V_icmp_eq 56 z30E tc_97 d_Tape_isName_51 (by decide) (fun c35 => ?_) (fun c35 => ?_)
                ·
                  refine V_iinc (v := 3) 3 [some (.ref 89), some (.ref (135 + 4)), some (.int 5), some (.int 3)] d_Tape_isName_56 rfl (by decide) (by decide) rfl rfl ?_
                  refine V_goto 30 d_Tape_isName_59 (by decide) ?_
                  refine V_iload_n 3 d_Tape_isName_30 rfl rfl ?_
                  refine V_iload_n 2 d_Tape_isName_31 rfl rfl ?_
                  refine V_icmp_ge 62 tc_3 tc_5 d_Tape_isName_32 (by decide) (fun c37 => ?_) (fun c37 => ?_)
                  ·
                    exact absurd c37 (by decide)
                  ·
                    refine V_aload_n 0 d_Tape_isName_35 rfl rfl ?_
                    refine V_getR fa_Tape_9 sk_89 rfl d_Tape_isName_36 ?_
                    refine V_aload_n 0 d_Tape_isName_39 rfl rfl ?_
                    refine N_getK fa_Tape_19 sk_89 rfl d_Tape_isName_40 fK ?_
                    refine V_iload_n 3 d_Tape_isName_43 rfl rfl ?_
                    refine V_iadd fE tc_3 (by (first | decide +kernel | omega)) d_Tape_isName_44 (fun z38 z38e z38E => ?_)
                    refine N_bald sk_90 z38E (by (first | decide +kernel | omega)) d_Tape_isName_45 (fun z39 z39Z z39E z39e => ?_)
                    have g40 : z39Z = b (fZ + 3) := TP_rd (TP_fr f0 (fun _ => rfl) hy0) (by (first | decide +kernel | omega)) z39E z39e
                    refine V_aload_n 1 d_Tape_isName_46 rfl rfl ?_
                    refine V_iload_n 3 d_Tape_isName_47 rfl rfl ?_
                    refine N_callVSI [.int 3] [.int z39] cv_Tape_47 sH rfl d_Tape_isName_48 rfl (Nat.le_of_ble_eq_true rfl) (by decide) (by decide) (c_Str_charAt h 4 sH 3 3 tc_3 (by decide)) (fun z41 h42 z41Z z41E p43 => ?_)
                    obtain ⟨eh42, p43⟩ := p43
                    subst eh42
                    obtain rfl : z41 = 105 := p43.trans rfl
                    refine V_icmp_eq 56 z39E tc_105 d_Tape_isName_51 (by decide) (fun c44 => ?_) (fun c44 => ?_)
                    ·
                      refine V_iinc (v := 4) 3 [some (.ref 89), some (.ref (135 + 4)), some (.int 5), some (.int 4)] d_Tape_isName_56 rfl (by decide) (by decide) rfl rfl ?_
                      refine V_goto 30 d_Tape_isName_59 (by decide) ?_
                      refine V_iload_n 3 d_Tape_isName_30 rfl rfl ?_
                      refine V_iload_n 2 d_Tape_isName_31 rfl rfl ?_
                      refine V_icmp_ge 62 tc_4 tc_5 d_Tape_isName_32 (by decide) (fun c46 => ?_) (fun c46 => ?_)
                      ·
                        exact absurd c46 (by decide)
                      ·
                        refine V_aload_n 0 d_Tape_isName_35 rfl rfl ?_
                        refine V_getR fa_Tape_9 sk_89 rfl d_Tape_isName_36 ?_
                        refine V_aload_n 0 d_Tape_isName_39 rfl rfl ?_
                        refine N_getK fa_Tape_19 sk_89 rfl d_Tape_isName_40 fK ?_
                        refine V_iload_n 3 d_Tape_isName_43 rfl rfl ?_
                        refine V_iadd fE tc_4 (by (first | decide +kernel | omega)) d_Tape_isName_44 (fun z47 z47e z47E => ?_)
                        refine N_bald sk_90 z47E (by (first | decide +kernel | omega)) d_Tape_isName_45 (fun z48 z48Z z48E z48e => ?_)
                        have g49 : z48Z = b (fZ + 4) := TP_rd (TP_fr f0 (fun _ => rfl) hy0) (by (first | decide +kernel | omega)) z48E z48e
                        refine V_aload_n 1 d_Tape_isName_46 rfl rfl ?_
                        refine V_iload_n 3 d_Tape_isName_47 rfl rfl ?_
                        refine N_callVSI [.int 4] [.int z48] cv_Tape_47 sH rfl d_Tape_isName_48 rfl (Nat.le_of_ble_eq_true rfl) (by decide) (by decide) (c_Str_charAt h 4 sH 4 4 tc_4 (by decide)) (fun z50 h51 z50Z z50E p52 => ?_)
                        obtain ⟨eh51, p52⟩ := p52
                        subst eh51
                        obtain rfl : z50 = 109 := p52.trans rfl
                        refine V_icmp_eq 56 z48E tc_109 d_Tape_isName_51 (by decide) (fun c53 => ?_) (fun c53 => ?_)
                        ·
                          refine V_iinc (v := 5) 3 [some (.ref 89), some (.ref (135 + 4)), some (.int 5), some (.int 5)] d_Tape_isName_56 rfl (by decide) (by decide) rfl rfl ?_
                          refine V_goto 30 d_Tape_isName_59 (by decide) ?_
                          refine V_iload_n 3 d_Tape_isName_30 rfl rfl ?_
                          refine V_iload_n 2 d_Tape_isName_31 rfl rfl ?_
                          refine V_icmp_ge 62 tc_5 tc_5 d_Tape_isName_32 (by decide) (fun c55 => ?_) (fun c55 => ?_)
                          ·
                            refine V_iconst 1 d_Tape_isName_62 (by decide) ?_
                            exact V_zret rfl (by decide) d_Tape_isName_63 ⟨1, rfl, ⟨rfl, (Or.inr ⟨by (first | decide +kernel | omega), tc_1.trans (x_nmy4 (b := b) (f := fZ) (e := uZ) (by (first | decide +kernel | omega))).symm⟩)⟩⟩
                          ·
                            exact absurd c55 (by decide)
                        ·
                          refine V_iconst 0 d_Tape_isName_54 (by decide) ?_
                          exact V_zret rfl (by decide) d_Tape_isName_55 ⟨0, rfl, ⟨rfl, (Or.inr ⟨by (first | decide +kernel | omega), tc_0.trans (x_nmn4 (b := b) (f := fZ) (e := uZ) (by (first | decide +kernel | omega))).symm⟩)⟩⟩
                    ·
                      refine V_iconst 0 d_Tape_isName_54 (by decide) ?_
                      exact V_zret rfl (by decide) d_Tape_isName_55 ⟨0, rfl, ⟨rfl, (Or.inr ⟨by (first | decide +kernel | omega), tc_0.trans (x_nmn4 (b := b) (f := fZ) (e := uZ) (by (first | decide +kernel | omega))).symm⟩)⟩⟩
                ·
                  refine V_iconst 0 d_Tape_isName_54 (by decide) ?_
                  exact V_zret rfl (by decide) d_Tape_isName_55 ⟨0, rfl, ⟨rfl, (Or.inr ⟨by (first | decide +kernel | omega), tc_0.trans (x_nmn4 (b := b) (f := fZ) (e := uZ) (by (first | decide +kernel | omega))).symm⟩)⟩⟩
            ·
              refine V_iconst 0 d_Tape_isName_54 (by decide) ?_
              exact V_zret rfl (by decide) d_Tape_isName_55 ⟨0, rfl, ⟨rfl, (Or.inr ⟨by (first | decide +kernel | omega), tc_0.trans (x_nmn4 (b := b) (f := fZ) (e := uZ) (by (first | decide +kernel | omega))).symm⟩)⟩⟩
        ·
          refine V_iconst 0 d_Tape_isName_54 (by decide) ?_
          exact V_zret rfl (by decide) d_Tape_isName_55 ⟨0, rfl, ⟨rfl, (Or.inr ⟨by (first | decide +kernel | omega), tc_0.trans (x_nmn4 (b := b) (f := fZ) (e := uZ) (by (first | decide +kernel | omega))).symm⟩)⟩⟩
    ·
      refine V_iconst 0 d_Tape_isName_26 (by decide) ?_
      exact V_zret rfl (by decide) d_Tape_isName_27 ⟨0, rfl, ⟨rfl, (if q : qZ = 1 then Or.inr ⟨q, tc_0.trans (x_nmn4 (b := b) (f := fZ) (e := uZ) (by (first | decide +kernel | omega))).symm⟩ else Or.inl ⟨q, rfl⟩)⟩⟩
abbrev q_Tape_isNameX_5 (h : Hp) (b : Int → Int) (s : Int32) (sZ : Int) (q : Int32) (qZ : Int) (f : Int32) (fZ : Int) (u : Int32) (uZ : Int) : Option Value → Hp → Prop := pInt (fun r h' => h = h' ∧ (qZ ≠ 1 ∧ r.toInt = 0 ∨ qZ = 1 ∧ r.toInt = x_nm5 b fZ uZ))
set_option maxRecDepth 100000 in
theorem c_Tape_isNameX_5 (h : Hp) (b : Int → Int) (hI : Inv h) (s : Int32) (sZ : Int) (sE : s.toInt = sZ) (sK : h.1 89 1 = s) (q : Int32) (qZ : Int) (qE : q.toInt = qZ) (qK : h.1 89 2 = q) (f : Int32) (fZ : Int) (fE : f.toInt = fZ) (fK : h.1 89 3 = f) (u : Int32) (uZ : Int) (uE : u.toInt = uZ) (uK : h.1 89 4 = u) (hy0 : TP h 90 sZ b) (hy1 : 0 ≤ fZ ∧ fZ ≤ uZ ∧ uZ ≤ sZ ∧ sZ ≤ 160) : Ct y_Tape_isName b_Tape_isName 4 (some .boolean) 4 85 [.ref 89, .ref (135 + 5)] h (q_Tape_isNameX_5 h b s sZ q qZ f fZ u uZ) := by
  refine ct_ow R_Tape [some (.ref 89), some (.ref (135 + 5)), none, none] rfl (by decide) rfl (Nat.le_of_ble_eq_true rfl) ?_
  have f0 : fr [] h h := fr_rf
  have g1 : 0 ≤ sZ ∧ sZ ≤ 160 := inv_at hI sE sK.symm rfl
  have g2 : 0 ≤ fZ ∧ fZ ≤ 160 := inv_at hI fE fK.symm rfl
  have g3 : 0 ≤ uZ ∧ uZ ≤ 160 := inv_at hI uE uK.symm rfl
  have sH : 5 < 14 := by decide
  refine V_aload_n 1 d_Tape_isName_0 rfl rfl ?_
  refine N_callVSI [] [] cv_Tape_41 sH rfl d_Tape_isName_1 rfl (Nat.le_of_ble_eq_true rfl) (by decide) (by decide) (c_Str_length h 5 sH) (fun z4 h5 z4Z z4E p6 => ?_)
  obtain ⟨eh5, p6⟩ := p6
  subst eh5
  rw [z4E] at p6
  obtain rfl : z4 = 5 := (ti_eq z4E (show (5 : Int32).toInt = 5 from rfl)).mpr (p6.trans rfl)
  refine V_istore_n 2 [some (.ref 89), some (.ref (135 + 5)), some (.int 5), none] d_Tape_isName_4 rfl (by decide) rfl rfl ?_
  refine V_aload_n 0 d_Tape_isName_5 rfl rfl ?_
  refine N_getK fa_Tape_25 sk_89 rfl d_Tape_isName_6 qK ?_
  refine V_iconst 1 d_Tape_isName_9 (by decide) ?_
  refine V_icmp_ne 26 qE tc_1 d_Tape_isName_10 (by decide) (fun c7 => ?_) (fun c7 => ?_)
  ·
    refine V_iconst 0 d_Tape_isName_26 (by decide) ?_
    exact V_zret rfl (by decide) d_Tape_isName_27 ⟨0, rfl, ⟨rfl, (if q : qZ = 1 then Or.inr ⟨q, tc_0.trans (x_nmn5 (b := b) (f := fZ) (e := uZ) (by (first | decide +kernel | omega))).symm⟩ else Or.inl ⟨q, rfl⟩)⟩⟩
  ·
    refine V_aload_n 0 d_Tape_isName_13 rfl rfl ?_
    refine N_getK fa_Tape_15 sk_89 rfl d_Tape_isName_14 uK ?_
    refine V_aload_n 0 d_Tape_isName_17 rfl rfl ?_
    refine N_getK fa_Tape_19 sk_89 rfl d_Tape_isName_18 fK ?_
    refine V_isub uE fE (by (first | decide +kernel | omega)) d_Tape_isName_21 (fun z8 z8e z8E => ?_)
    refine V_iload_n 2 d_Tape_isName_22 rfl rfl ?_
    refine V_icmp_eq 28 z8E tc_5 d_Tape_isName_23 (by decide) (fun c9 => ?_) (fun c9 => ?_)
    ·
      refine V_iconst 0 d_Tape_isName_28 (by decide) ?_
      refine V_istore_n 3 [some (.ref 89), some (.ref (135 + 5)), some (.int 5), some (.int 0)] d_Tape_isName_29 rfl (by decide) rfl rfl ?_
      refine V_iload_n 3 d_Tape_isName_30 rfl rfl ?_
      refine V_iload_n 2 d_Tape_isName_31 rfl rfl ?_
      refine V_icmp_ge 62 tc_0 tc_5 d_Tape_isName_32 (by decide) (fun c10 => ?_) (fun c10 => ?_)
      ·
        exact absurd c10 (by decide)
      ·
        refine V_aload_n 0 d_Tape_isName_35 rfl rfl ?_
        refine V_getR fa_Tape_9 sk_89 rfl d_Tape_isName_36 ?_
        refine V_aload_n 0 d_Tape_isName_39 rfl rfl ?_
        refine N_getK fa_Tape_19 sk_89 rfl d_Tape_isName_40 fK ?_
        refine V_iload_n 3 d_Tape_isName_43 rfl rfl ?_
        refine V_iadd fE tc_0 (by (first | decide +kernel | omega)) d_Tape_isName_44 (fun z11 z11e z11E => ?_)
        refine N_bald sk_90 z11E (by (first | decide +kernel | omega)) d_Tape_isName_45 (fun z12 z12Z z12E z12e => ?_)
        have g13 : z12Z = b (fZ + 0) := TP_rd (TP_fr f0 (fun _ => rfl) hy0) (by (first | decide +kernel | omega)) z12E z12e
        refine V_aload_n 1 d_Tape_isName_46 rfl rfl ?_
        refine V_iload_n 3 d_Tape_isName_47 rfl rfl ?_
        refine N_callVSI [.int 0] [.int z12] cv_Tape_47 sH rfl d_Tape_isName_48 rfl (Nat.le_of_ble_eq_true rfl) (by decide) (by decide) (c_Str_charAt h 5 sH 0 0 tc_0 (by decide)) (fun z14 h15 z14Z z14E p16 => ?_)
        obtain ⟨eh15, p16⟩ := p16
        subst eh15
        obtain rfl : z14 = 112 := p16.trans rfl
        refine V_icmp_eq 56 z12E tc_112 d_Tape_isName_51 (by decide) (fun c17 => ?_) (fun c17 => ?_)
        ·
          refine V_iinc (v := 1) 3 [some (.ref 89), some (.ref (135 + 5)), some (.int 5), some (.int 1)] d_Tape_isName_56 rfl (by decide) (by decide) rfl rfl ?_
          refine V_goto 30 d_Tape_isName_59 (by decide) ?_
          refine V_iload_n 3 d_Tape_isName_30 rfl rfl ?_
          refine V_iload_n 2 d_Tape_isName_31 rfl rfl ?_
          refine V_icmp_ge 62 tc_1 tc_5 d_Tape_isName_32 (by decide) (fun c19 => ?_) (fun c19 => ?_)
          ·
            exact absurd c19 (by decide)
          ·
            refine V_aload_n 0 d_Tape_isName_35 rfl rfl ?_
            refine V_getR fa_Tape_9 sk_89 rfl d_Tape_isName_36 ?_
            refine V_aload_n 0 d_Tape_isName_39 rfl rfl ?_
            refine N_getK fa_Tape_19 sk_89 rfl d_Tape_isName_40 fK ?_
            refine V_iload_n 3 d_Tape_isName_43 rfl rfl ?_
            refine V_iadd fE tc_1 (by (first | decide +kernel | omega)) d_Tape_isName_44 (fun z20 z20e z20E => ?_)
            refine N_bald sk_90 z20E (by (first | decide +kernel | omega)) d_Tape_isName_45 (fun z21 z21Z z21E z21e => ?_)
            have g22 : z21Z = b (fZ + 1) := TP_rd (TP_fr f0 (fun _ => rfl) hy0) (by (first | decide +kernel | omega)) z21E z21e
            refine V_aload_n 1 d_Tape_isName_46 rfl rfl ?_
            refine V_iload_n 3 d_Tape_isName_47 rfl rfl ?_
            refine N_callVSI [.int 1] [.int z21] cv_Tape_47 sH rfl d_Tape_isName_48 rfl (Nat.le_of_ble_eq_true rfl) (by decide) (by decide) (c_Str_charAt h 5 sH 1 1 tc_1 (by decide)) (fun z23 h24 z23Z z23E p25 => ?_)
            obtain ⟨eh24, p25⟩ := p25
            subst eh24
            obtain rfl : z23 = 117 := p25.trans rfl
            refine V_icmp_eq 56 z21E tc_117 d_Tape_isName_51 (by decide) (fun c26 => ?_) (fun c26 => ?_)
            ·
              refine V_iinc (v := 2) 3 [some (.ref 89), some (.ref (135 + 5)), some (.int 5), some (.int 2)] d_Tape_isName_56 rfl (by decide) (by decide) rfl rfl ?_
              refine V_goto 30 d_Tape_isName_59 (by decide) ?_
              refine V_iload_n 3 d_Tape_isName_30 rfl rfl ?_
              refine V_iload_n 2 d_Tape_isName_31 rfl rfl ?_
              refine V_icmp_ge 62 tc_2 tc_5 d_Tape_isName_32 (by decide) (fun c28 => ?_) (fun c28 => ?_)
              ·
                exact absurd c28 (by decide)
              ·
                refine V_aload_n 0 d_Tape_isName_35 rfl rfl ?_
                refine V_getR fa_Tape_9 sk_89 rfl d_Tape_isName_36 ?_
                refine V_aload_n 0 d_Tape_isName_39 rfl rfl ?_
                refine N_getK fa_Tape_19 sk_89 rfl d_Tape_isName_40 fK ?_
                refine V_iload_n 3 d_Tape_isName_43 rfl rfl ?_
                refine V_iadd fE tc_2 (by (first | decide +kernel | omega)) d_Tape_isName_44 (fun z29 z29e z29E => ?_)
                refine N_bald sk_90 z29E (by (first | decide +kernel | omega)) d_Tape_isName_45 (fun z30 z30Z z30E z30e => ?_)
                have g31 : z30Z = b (fZ + 2) := TP_rd (TP_fr f0 (fun _ => rfl) hy0) (by (first | decide +kernel | omega)) z30E z30e
                refine V_aload_n 1 d_Tape_isName_46 rfl rfl ?_
                refine V_iload_n 3 d_Tape_isName_47 rfl rfl ?_
                refine N_callVSI [.int 2] [.int z30] cv_Tape_47 sH rfl d_Tape_isName_48 rfl (Nat.le_of_ble_eq_true rfl) (by decide) (by decide) (c_Str_charAt h 5 sH 2 2 tc_2 (by decide)) (fun z32 h33 z32Z z32E p34 => ?_)
                obtain ⟨eh33, p34⟩ := p34
                subst eh33
                obtain rfl : z32 = 114 := p34.trans rfl
                refine V_icmp_eq 56 z30E tc_114 d_Tape_isName_51 (by decide) (fun c35 => ?_) (fun c35 => ?_)
                ·
                  refine V_iinc (v := 3) 3 [some (.ref 89), some (.ref (135 + 5)), some (.int 5), some (.int 3)] d_Tape_isName_56 rfl (by decide) (by decide) rfl rfl ?_
                  refine V_goto 30 d_Tape_isName_59 (by decide) ?_
                  refine V_iload_n 3 d_Tape_isName_30 rfl rfl ?_
                  refine V_iload_n 2 d_Tape_isName_31 rfl rfl ?_
                  refine V_icmp_ge 62 tc_3 tc_5 d_Tape_isName_32 (by decide) (fun c37 => ?_) (fun c37 => ?_)
                  ·
                    exact absurd c37 (by decide)
                  ·
                    refine V_aload_n 0 d_Tape_isName_35 rfl rfl ?_
                    refine V_getR fa_Tape_9 sk_89 rfl d_Tape_isName_36 ?_
                    refine V_aload_n 0 d_Tape_isName_39 rfl rfl ?_
                    refine N_getK fa_Tape_19 sk_89 rfl d_Tape_isName_40 fK ?_
                    refine V_iload_n 3 d_Tape_isName_43 rfl rfl ?_
                    refine V_iadd fE tc_3 (by (first | decide +kernel | omega)) d_Tape_isName_44 (fun z38 z38e z38E => ?_)
                    refine N_bald sk_90 z38E (by (first | decide +kernel | omega)) d_Tape_isName_45 (fun z39 z39Z z39E z39e => ?_)
                    have g40 : z39Z = b (fZ + 3) := TP_rd (TP_fr f0 (fun _ => rfl) hy0) (by (first | decide +kernel | omega)) z39E z39e
                    refine V_aload_n 1 d_Tape_isName_46 rfl rfl ?_
                    refine V_iload_n 3 d_Tape_isName_47 rfl rfl ?_
                    refine N_callVSI [.int 3] [.int z39] cv_Tape_47 sH rfl d_Tape_isName_48 rfl (Nat.le_of_ble_eq_true rfl) (by decide) (by decide) (c_Str_charAt h 5 sH 3 3 tc_3 (by decide)) (fun z41 h42 z41Z z41E p43 => ?_)
                    obtain ⟨eh42, p43⟩ := p43
                    subst eh42
                    obtain rfl : z41 = 115 := p43.trans rfl
                    refine V_icmp_eq 56 z39E tc_115 d_Tape_isName_51 (by decide) (fun c44 => ?_) (fun c44 => ?_)
                    ·
                      refine V_iinc (v := 4) 3 [some (.ref 89), some (.ref (135 + 5)), some (.int 5), some (.int 4)] d_Tape_isName_56 rfl (by decide) (by decide) rfl rfl ?_
                      refine V_goto 30 d_Tape_isName_59 (by decide) ?_
                      refine V_iload_n 3 d_Tape_isName_30 rfl rfl ?_
                      refine V_iload_n 2 d_Tape_isName_31 rfl rfl ?_
                      refine V_icmp_ge 62 tc_4 tc_5 d_Tape_isName_32 (by decide) (fun c46 => ?_) (fun c46 => ?_)
                      ·
                        exact absurd c46 (by decide)
                      ·
                        refine V_aload_n 0 d_Tape_isName_35 rfl rfl ?_
                        refine V_getR fa_Tape_9 sk_89 rfl d_Tape_isName_36 ?_
                        refine V_aload_n 0 d_Tape_isName_39 rfl rfl ?_
                        refine N_getK fa_Tape_19 sk_89 rfl d_Tape_isName_40 fK ?_
                        refine V_iload_n 3 d_Tape_isName_43 rfl rfl ?_
                        refine V_iadd fE tc_4 (by (first | decide +kernel | omega)) d_Tape_isName_44 (fun z47 z47e z47E => ?_)
                        refine N_bald sk_90 z47E (by (first | decide +kernel | omega)) d_Tape_isName_45 (fun z48 z48Z z48E z48e => ?_)
                        have g49 : z48Z = b (fZ + 4) := TP_rd (TP_fr f0 (fun _ => rfl) hy0) (by (first | decide +kernel | omega)) z48E z48e
                        refine V_aload_n 1 d_Tape_isName_46 rfl rfl ?_
                        refine V_iload_n 3 d_Tape_isName_47 rfl rfl ?_
                        refine N_callVSI [.int 4] [.int z48] cv_Tape_47 sH rfl d_Tape_isName_48 rfl (Nat.le_of_ble_eq_true rfl) (by decide) (by decide) (c_Str_charAt h 5 sH 4 4 tc_4 (by decide)) (fun z50 h51 z50Z z50E p52 => ?_)
                        obtain ⟨eh51, p52⟩ := p52
                        subst eh51
                        obtain rfl : z50 = 101 := p52.trans rfl
                        refine V_icmp_eq 56 z48E tc_101 d_Tape_isName_51 (by decide) (fun c53 => ?_) (fun c53 => ?_)
                        ·
                          refine V_iinc (v := 5) 3 [some (.ref 89), some (.ref (135 + 5)), some (.int 5), some (.int 5)] d_Tape_isName_56 rfl (by decide) (by decide) rfl rfl ?_
                          refine V_goto 30 d_Tape_isName_59 (by decide) ?_
                          refine V_iload_n 3 d_Tape_isName_30 rfl rfl ?_
                          refine V_iload_n 2 d_Tape_isName_31 rfl rfl ?_
                          refine V_icmp_ge 62 tc_5 tc_5 d_Tape_isName_32 (by decide) (fun c55 => ?_) (fun c55 => ?_)
                          ·
                            refine V_iconst 1 d_Tape_isName_62 (by decide) ?_
                            exact V_zret rfl (by decide) d_Tape_isName_63 ⟨1, rfl, ⟨rfl, (Or.inr ⟨by (first | decide +kernel | omega), tc_1.trans (x_nmy5 (b := b) (f := fZ) (e := uZ) (by (first | decide +kernel | omega))).symm⟩)⟩⟩
                          ·
                            exact absurd c55 (by decide)
                        ·
                          refine V_iconst 0 d_Tape_isName_54 (by decide) ?_
                          exact V_zret rfl (by decide) d_Tape_isName_55 ⟨0, rfl, ⟨rfl, (Or.inr ⟨by (first | decide +kernel | omega), tc_0.trans (x_nmn5 (b := b) (f := fZ) (e := uZ) (by (first | decide +kernel | omega))).symm⟩)⟩⟩
                    ·
                      refine V_iconst 0 d_Tape_isName_54 (by decide) ?_
                      exact V_zret rfl (by decide) d_Tape_isName_55 ⟨0, rfl, ⟨rfl, (Or.inr ⟨by (first | decide +kernel | omega), tc_0.trans (x_nmn5 (b := b) (f := fZ) (e := uZ) (by (first | decide +kernel | omega))).symm⟩)⟩⟩
                ·
                  refine V_iconst 0 d_Tape_isName_54 (by decide) ?_
                  exact V_zret rfl (by decide) d_Tape_isName_55 ⟨0, rfl, ⟨rfl, (Or.inr ⟨by (first | decide +kernel | omega), tc_0.trans (x_nmn5 (b := b) (f := fZ) (e := uZ) (by (first | decide +kernel | omega))).symm⟩)⟩⟩
            ·
              refine V_iconst 0 d_Tape_isName_54 (by decide) ?_
              exact V_zret rfl (by decide) d_Tape_isName_55 ⟨0, rfl, ⟨rfl, (Or.inr ⟨by (first | decide +kernel | omega), tc_0.trans (x_nmn5 (b := b) (f := fZ) (e := uZ) (by (first | decide +kernel | omega))).symm⟩)⟩⟩
        ·
          refine V_iconst 0 d_Tape_isName_54 (by decide) ?_
          exact V_zret rfl (by decide) d_Tape_isName_55 ⟨0, rfl, ⟨rfl, (Or.inr ⟨by (first | decide +kernel | omega), tc_0.trans (x_nmn5 (b := b) (f := fZ) (e := uZ) (by (first | decide +kernel | omega))).symm⟩)⟩⟩
    ·
      refine V_iconst 0 d_Tape_isName_26 (by decide) ?_
      exact V_zret rfl (by decide) d_Tape_isName_27 ⟨0, rfl, ⟨rfl, (if q : qZ = 1 then Or.inr ⟨q, tc_0.trans (x_nmn5 (b := b) (f := fZ) (e := uZ) (by (first | decide +kernel | omega))).symm⟩ else Or.inl ⟨q, rfl⟩)⟩⟩
abbrev q_Tape_isNameX_6 (h : Hp) (b : Int → Int) (s : Int32) (sZ : Int) (q : Int32) (qZ : Int) (f : Int32) (fZ : Int) (u : Int32) (uZ : Int) : Option Value → Hp → Prop := pInt (fun r h' => h = h' ∧ (qZ ≠ 1 ∧ r.toInt = 0 ∨ qZ = 1 ∧ r.toInt = x_nm6 b fZ uZ))
set_option maxRecDepth 100000 in
theorem c_Tape_isNameX_6 (h : Hp) (b : Int → Int) (hI : Inv h) (s : Int32) (sZ : Int) (sE : s.toInt = sZ) (sK : h.1 89 1 = s) (q : Int32) (qZ : Int) (qE : q.toInt = qZ) (qK : h.1 89 2 = q) (f : Int32) (fZ : Int) (fE : f.toInt = fZ) (fK : h.1 89 3 = f) (u : Int32) (uZ : Int) (uE : u.toInt = uZ) (uK : h.1 89 4 = u) (hy0 : TP h 90 sZ b) (hy1 : 0 ≤ fZ ∧ fZ ≤ uZ ∧ uZ ≤ sZ ∧ sZ ≤ 160) : Ct y_Tape_isName b_Tape_isName 4 (some .boolean) 4 85 [.ref 89, .ref (135 + 6)] h (q_Tape_isNameX_6 h b s sZ q qZ f fZ u uZ) := by
  refine ct_ow R_Tape [some (.ref 89), some (.ref (135 + 6)), none, none] rfl (by decide) rfl (Nat.le_of_ble_eq_true rfl) ?_
  have f0 : fr [] h h := fr_rf
  have g1 : 0 ≤ sZ ∧ sZ ≤ 160 := inv_at hI sE sK.symm rfl
  have g2 : 0 ≤ fZ ∧ fZ ≤ 160 := inv_at hI fE fK.symm rfl
  have g3 : 0 ≤ uZ ∧ uZ ≤ 160 := inv_at hI uE uK.symm rfl
  have sH : 6 < 14 := by decide
  refine V_aload_n 1 d_Tape_isName_0 rfl rfl ?_
  refine N_callVSI [] [] cv_Tape_41 sH rfl d_Tape_isName_1 rfl (Nat.le_of_ble_eq_true rfl) (by decide) (by decide) (c_Str_length h 6 sH) (fun z4 h5 z4Z z4E p6 => ?_)
  obtain ⟨eh5, p6⟩ := p6
  subst eh5
  rw [z4E] at p6
  obtain rfl : z4 = 4 := (ti_eq z4E (show (4 : Int32).toInt = 4 from rfl)).mpr (p6.trans rfl)
  refine V_istore_n 2 [some (.ref 89), some (.ref (135 + 6)), some (.int 4), none] d_Tape_isName_4 rfl (by decide) rfl rfl ?_
  refine V_aload_n 0 d_Tape_isName_5 rfl rfl ?_
  refine N_getK fa_Tape_25 sk_89 rfl d_Tape_isName_6 qK ?_
  refine V_iconst 1 d_Tape_isName_9 (by decide) ?_
  refine V_icmp_ne 26 qE tc_1 d_Tape_isName_10 (by decide) (fun c7 => ?_) (fun c7 => ?_)
  ·
    refine V_iconst 0 d_Tape_isName_26 (by decide) ?_
    exact V_zret rfl (by decide) d_Tape_isName_27 ⟨0, rfl, ⟨rfl, (if q : qZ = 1 then Or.inr ⟨q, tc_0.trans (x_nmn6 (b := b) (f := fZ) (e := uZ) (by (first | decide +kernel | omega))).symm⟩ else Or.inl ⟨q, rfl⟩)⟩⟩
  ·
    refine V_aload_n 0 d_Tape_isName_13 rfl rfl ?_
    refine N_getK fa_Tape_15 sk_89 rfl d_Tape_isName_14 uK ?_
    refine V_aload_n 0 d_Tape_isName_17 rfl rfl ?_
    refine N_getK fa_Tape_19 sk_89 rfl d_Tape_isName_18 fK ?_
    refine V_isub uE fE (by (first | decide +kernel | omega)) d_Tape_isName_21 (fun z8 z8e z8E => ?_)
    refine V_iload_n 2 d_Tape_isName_22 rfl rfl ?_
    refine V_icmp_eq 28 z8E tc_4 d_Tape_isName_23 (by decide) (fun c9 => ?_) (fun c9 => ?_)
    ·
      refine V_iconst 0 d_Tape_isName_28 (by decide) ?_
      refine V_istore_n 3 [some (.ref 89), some (.ref (135 + 6)), some (.int 4), some (.int 0)] d_Tape_isName_29 rfl (by decide) rfl rfl ?_
      refine V_iload_n 3 d_Tape_isName_30 rfl rfl ?_
      refine V_iload_n 2 d_Tape_isName_31 rfl rfl ?_
      refine V_icmp_ge 62 tc_0 tc_4 d_Tape_isName_32 (by decide) (fun c10 => ?_) (fun c10 => ?_)
      ·
        exact absurd c10 (by decide)
      ·
        refine V_aload_n 0 d_Tape_isName_35 rfl rfl ?_
        refine V_getR fa_Tape_9 sk_89 rfl d_Tape_isName_36 ?_
        refine V_aload_n 0 d_Tape_isName_39 rfl rfl ?_
        refine N_getK fa_Tape_19 sk_89 rfl d_Tape_isName_40 fK ?_
        refine V_iload_n 3 d_Tape_isName_43 rfl rfl ?_
        refine V_iadd fE tc_0 (by (first | decide +kernel | omega)) d_Tape_isName_44 (fun z11 z11e z11E => ?_)
        refine N_bald sk_90 z11E (by (first | decide +kernel | omega)) d_Tape_isName_45 (fun z12 z12Z z12E z12e => ?_)
        have g13 : z12Z = b (fZ + 0) := TP_rd (TP_fr f0 (fun _ => rfl) hy0) (by (first | decide +kernel | omega)) z12E z12e
        refine V_aload_n 1 d_Tape_isName_46 rfl rfl ?_
        refine V_iload_n 3 d_Tape_isName_47 rfl rfl ?_
        refine N_callVSI [.int 0] [.int z12] cv_Tape_47 sH rfl d_Tape_isName_48 rfl (Nat.le_of_ble_eq_true rfl) (by decide) (by decide) (c_Str_charAt h 6 sH 0 0 tc_0 (by decide)) (fun z14 h15 z14Z z14E p16 => ?_)
        obtain ⟨eh15, p16⟩ := p16
        subst eh15
        obtain rfl : z14 = 99 := p16.trans rfl
        refine V_icmp_eq 56 z12E tc_99 d_Tape_isName_51 (by decide) (fun c17 => ?_) (fun c17 => ?_)
        ·
          refine V_iinc (v := 1) 3 [some (.ref 89), some (.ref (135 + 6)), some (.int 4), some (.int 1)] d_Tape_isName_56 rfl (by decide) (by decide) rfl rfl ?_
          refine V_goto 30 d_Tape_isName_59 (by decide) ?_
          refine V_iload_n 3 d_Tape_isName_30 rfl rfl ?_
          refine V_iload_n 2 d_Tape_isName_31 rfl rfl ?_
          refine V_icmp_ge 62 tc_1 tc_4 d_Tape_isName_32 (by decide) (fun c19 => ?_) (fun c19 => ?_)
          ·
            exact absurd c19 (by decide)
          ·
            refine V_aload_n 0 d_Tape_isName_35 rfl rfl ?_
            refine V_getR fa_Tape_9 sk_89 rfl d_Tape_isName_36 ?_
            refine V_aload_n 0 d_Tape_isName_39 rfl rfl ?_
            refine N_getK fa_Tape_19 sk_89 rfl d_Tape_isName_40 fK ?_
            refine V_iload_n 3 d_Tape_isName_43 rfl rfl ?_
            refine V_iadd fE tc_1 (by (first | decide +kernel | omega)) d_Tape_isName_44 (fun z20 z20e z20E => ?_)
            refine N_bald sk_90 z20E (by (first | decide +kernel | omega)) d_Tape_isName_45 (fun z21 z21Z z21E z21e => ?_)
            have g22 : z21Z = b (fZ + 1) := TP_rd (TP_fr f0 (fun _ => rfl) hy0) (by (first | decide +kernel | omega)) z21E z21e
            refine V_aload_n 1 d_Tape_isName_46 rfl rfl ?_
            refine V_iload_n 3 d_Tape_isName_47 rfl rfl ?_
            refine N_callVSI [.int 1] [.int z21] cv_Tape_47 sH rfl d_Tape_isName_48 rfl (Nat.le_of_ble_eq_true rfl) (by decide) (by decide) (c_Str_charAt h 6 sH 1 1 tc_1 (by decide)) (fun z23 h24 z23Z z23E p25 => ?_)
            obtain ⟨eh24, p25⟩ := p25
            subst eh24
            obtain rfl : z23 = 111 := p25.trans rfl
            refine V_icmp_eq 56 z21E tc_111 d_Tape_isName_51 (by decide) (fun c26 => ?_) (fun c26 => ?_)
            ·
              refine V_iinc (v := 2) 3 [some (.ref 89), some (.ref (135 + 6)), some (.int 4), some (.int 2)] d_Tape_isName_56 rfl (by decide) (by decide) rfl rfl ?_
              refine V_goto 30 d_Tape_isName_59 (by decide) ?_
              refine V_iload_n 3 d_Tape_isName_30 rfl rfl ?_
              refine V_iload_n 2 d_Tape_isName_31 rfl rfl ?_
              refine V_icmp_ge 62 tc_2 tc_4 d_Tape_isName_32 (by decide) (fun c28 => ?_) (fun c28 => ?_)
              ·
                exact absurd c28 (by decide)
              ·
                refine V_aload_n 0 d_Tape_isName_35 rfl rfl ?_
                refine V_getR fa_Tape_9 sk_89 rfl d_Tape_isName_36 ?_
                refine V_aload_n 0 d_Tape_isName_39 rfl rfl ?_
                refine N_getK fa_Tape_19 sk_89 rfl d_Tape_isName_40 fK ?_
                refine V_iload_n 3 d_Tape_isName_43 rfl rfl ?_
                refine V_iadd fE tc_2 (by (first | decide +kernel | omega)) d_Tape_isName_44 (fun z29 z29e z29E => ?_)
                refine N_bald sk_90 z29E (by (first | decide +kernel | omega)) d_Tape_isName_45 (fun z30 z30Z z30E z30e => ?_)
                have g31 : z30Z = b (fZ + 2) := TP_rd (TP_fr f0 (fun _ => rfl) hy0) (by (first | decide +kernel | omega)) z30E z30e
                refine V_aload_n 1 d_Tape_isName_46 rfl rfl ?_
                refine V_iload_n 3 d_Tape_isName_47 rfl rfl ?_
                refine N_callVSI [.int 2] [.int z30] cv_Tape_47 sH rfl d_Tape_isName_48 rfl (Nat.le_of_ble_eq_true rfl) (by decide) (by decide) (c_Str_charAt h 6 sH 2 2 tc_2 (by decide)) (fun z32 h33 z32Z z32E p34 => ?_)
                obtain ⟨eh33, p34⟩ := p34
                subst eh33
                obtain rfl : z32 = 115 := p34.trans rfl
                refine V_icmp_eq 56 z30E tc_115 d_Tape_isName_51 (by decide) (fun c35 => ?_) (fun c35 => ?_)
                ·
                  refine V_iinc (v := 3) 3 [some (.ref 89), some (.ref (135 + 6)), some (.int 4), some (.int 3)] d_Tape_isName_56 rfl (by decide) (by decide) rfl rfl ?_
                  refine V_goto 30 d_Tape_isName_59 (by decide) ?_
                  refine V_iload_n 3 d_Tape_isName_30 rfl rfl ?_
                  refine V_iload_n 2 d_Tape_isName_31 rfl rfl ?_
                  refine V_icmp_ge 62 tc_3 tc_4 d_Tape_isName_32 (by decide) (fun c37 => ?_) (fun c37 => ?_)
                  ·
                    exact absurd c37 (by decide)
                  ·
                    refine V_aload_n 0 d_Tape_isName_35 rfl rfl ?_
                    refine V_getR fa_Tape_9 sk_89 rfl d_Tape_isName_36 ?_
                    refine V_aload_n 0 d_Tape_isName_39 rfl rfl ?_
                    refine N_getK fa_Tape_19 sk_89 rfl d_Tape_isName_40 fK ?_
                    refine V_iload_n 3 d_Tape_isName_43 rfl rfl ?_
                    refine V_iadd fE tc_3 (by (first | decide +kernel | omega)) d_Tape_isName_44 (fun z38 z38e z38E => ?_)
                    refine N_bald sk_90 z38E (by (first | decide +kernel | omega)) d_Tape_isName_45 (fun z39 z39Z z39E z39e => ?_)
                    have g40 : z39Z = b (fZ + 3) := TP_rd (TP_fr f0 (fun _ => rfl) hy0) (by (first | decide +kernel | omega)) z39E z39e
                    refine V_aload_n 1 d_Tape_isName_46 rfl rfl ?_
                    refine V_iload_n 3 d_Tape_isName_47 rfl rfl ?_
                    refine N_callVSI [.int 3] [.int z39] cv_Tape_47 sH rfl d_Tape_isName_48 rfl (Nat.le_of_ble_eq_true rfl) (by decide) (by decide) (c_Str_charAt h 6 sH 3 3 tc_3 (by decide)) (fun z41 h42 z41Z z41E p43 => ?_)
                    obtain ⟨eh42, p43⟩ := p43
                    subst eh42
                    obtain rfl : z41 = 116 := p43.trans rfl
                    refine V_icmp_eq 56 z39E tc_116 d_Tape_isName_51 (by decide) (fun c44 => ?_) (fun c44 => ?_)
                    ·
                      refine V_iinc (v := 4) 3 [some (.ref 89), some (.ref (135 + 6)), some (.int 4), some (.int 4)] d_Tape_isName_56 rfl (by decide) (by decide) rfl rfl ?_
                      refine V_goto 30 d_Tape_isName_59 (by decide) ?_
                      refine V_iload_n 3 d_Tape_isName_30 rfl rfl ?_
                      refine V_iload_n 2 d_Tape_isName_31 rfl rfl ?_
                      refine V_icmp_ge 62 tc_4 tc_4 d_Tape_isName_32 (by decide) (fun c46 => ?_) (fun c46 => ?_)
                      ·
                        refine V_iconst 1 d_Tape_isName_62 (by decide) ?_
                        exact V_zret rfl (by decide) d_Tape_isName_63 ⟨1, rfl, ⟨rfl, (Or.inr ⟨by (first | decide +kernel | omega), tc_1.trans (x_nmy6 (b := b) (f := fZ) (e := uZ) (by (first | decide +kernel | omega))).symm⟩)⟩⟩
                      ·
                        exact absurd c46 (by decide)
                    ·
                      refine V_iconst 0 d_Tape_isName_54 (by decide) ?_
                      exact V_zret rfl (by decide) d_Tape_isName_55 ⟨0, rfl, ⟨rfl, (Or.inr ⟨by (first | decide +kernel | omega), tc_0.trans (x_nmn6 (b := b) (f := fZ) (e := uZ) (by (first | decide +kernel | omega))).symm⟩)⟩⟩
                ·
                  refine V_iconst 0 d_Tape_isName_54 (by decide) ?_
                  exact V_zret rfl (by decide) d_Tape_isName_55 ⟨0, rfl, ⟨rfl, (Or.inr ⟨by (first | decide +kernel | omega), tc_0.trans (x_nmn6 (b := b) (f := fZ) (e := uZ) (by (first | decide +kernel | omega))).symm⟩)⟩⟩
            ·
              refine V_iconst 0 d_Tape_isName_54 (by decide) ?_
              exact V_zret rfl (by decide) d_Tape_isName_55 ⟨0, rfl, ⟨rfl, (Or.inr ⟨by (first | decide +kernel | omega), tc_0.trans (x_nmn6 (b := b) (f := fZ) (e := uZ) (by (first | decide +kernel | omega))).symm⟩)⟩⟩
        ·
          refine V_iconst 0 d_Tape_isName_54 (by decide) ?_
          exact V_zret rfl (by decide) d_Tape_isName_55 ⟨0, rfl, ⟨rfl, (Or.inr ⟨by (first | decide +kernel | omega), tc_0.trans (x_nmn6 (b := b) (f := fZ) (e := uZ) (by (first | decide +kernel | omega))).symm⟩)⟩⟩
    ·
      refine V_iconst 0 d_Tape_isName_26 (by decide) ?_
      exact V_zret rfl (by decide) d_Tape_isName_27 ⟨0, rfl, ⟨rfl, (if q : qZ = 1 then Or.inr ⟨q, tc_0.trans (x_nmn6 (b := b) (f := fZ) (e := uZ) (by (first | decide +kernel | omega))).symm⟩ else Or.inl ⟨q, rfl⟩)⟩⟩
abbrev q_Tape_isNameX_7 (h : Hp) (b : Int → Int) (s : Int32) (sZ : Int) (q : Int32) (qZ : Int) (f : Int32) (fZ : Int) (u : Int32) (uZ : Int) : Option Value → Hp → Prop := pInt (fun r h' => h = h' ∧ (qZ ≠ 1 ∧ r.toInt = 0 ∨ qZ = 1 ∧ r.toInt = x_nm7 b fZ uZ))
set_option maxRecDepth 100000 in
theorem c_Tape_isNameX_7 (h : Hp) (b : Int → Int) (hI : Inv h) (s : Int32) (sZ : Int) (sE : s.toInt = sZ) (sK : h.1 89 1 = s) (q : Int32) (qZ : Int) (qE : q.toInt = qZ) (qK : h.1 89 2 = q) (f : Int32) (fZ : Int) (fE : f.toInt = fZ) (fK : h.1 89 3 = f) (u : Int32) (uZ : Int) (uE : u.toInt = uZ) (uK : h.1 89 4 = u) (hy0 : TP h 90 sZ b) (hy1 : 0 ≤ fZ ∧ fZ ≤ uZ ∧ uZ ≤ sZ ∧ sZ ≤ 160) : Ct y_Tape_isName b_Tape_isName 4 (some .boolean) 4 85 [.ref 89, .ref (135 + 7)] h (q_Tape_isNameX_7 h b s sZ q qZ f fZ u uZ) := by
  refine ct_ow R_Tape [some (.ref 89), some (.ref (135 + 7)), none, none] rfl (by decide) rfl (Nat.le_of_ble_eq_true rfl) ?_
  have f0 : fr [] h h := fr_rf
  have g1 : 0 ≤ sZ ∧ sZ ≤ 160 := inv_at hI sE sK.symm rfl
  have g2 : 0 ≤ fZ ∧ fZ ≤ 160 := inv_at hI fE fK.symm rfl
  have g3 : 0 ≤ uZ ∧ uZ ≤ 160 := inv_at hI uE uK.symm rfl
  have sH : 7 < 14 := by decide
  refine V_aload_n 1 d_Tape_isName_0 rfl rfl ?_
  refine N_callVSI [] [] cv_Tape_41 sH rfl d_Tape_isName_1 rfl (Nat.le_of_ble_eq_true rfl) (by decide) (by decide) (c_Str_length h 7 sH) (fun z4 h5 z4Z z4E p6 => ?_)
  obtain ⟨eh5, p6⟩ := p6
  subst eh5
  rw [z4E] at p6
  obtain rfl : z4 = 5 := (ti_eq z4E (show (5 : Int32).toInt = 5 from rfl)).mpr (p6.trans rfl)
  refine V_istore_n 2 [some (.ref 89), some (.ref (135 + 7)), some (.int 5), none] d_Tape_isName_4 rfl (by decide) rfl rfl ?_
  refine V_aload_n 0 d_Tape_isName_5 rfl rfl ?_
  refine N_getK fa_Tape_25 sk_89 rfl d_Tape_isName_6 qK ?_
  refine V_iconst 1 d_Tape_isName_9 (by decide) ?_
  refine V_icmp_ne 26 qE tc_1 d_Tape_isName_10 (by decide) (fun c7 => ?_) (fun c7 => ?_)
  ·
    refine V_iconst 0 d_Tape_isName_26 (by decide) ?_
    exact V_zret rfl (by decide) d_Tape_isName_27 ⟨0, rfl, ⟨rfl, (if q : qZ = 1 then Or.inr ⟨q, tc_0.trans (x_nmn7 (b := b) (f := fZ) (e := uZ) (by (first | decide +kernel | omega))).symm⟩ else Or.inl ⟨q, rfl⟩)⟩⟩
  ·
    refine V_aload_n 0 d_Tape_isName_13 rfl rfl ?_
    refine N_getK fa_Tape_15 sk_89 rfl d_Tape_isName_14 uK ?_
    refine V_aload_n 0 d_Tape_isName_17 rfl rfl ?_
    refine N_getK fa_Tape_19 sk_89 rfl d_Tape_isName_18 fK ?_
    refine V_isub uE fE (by (first | decide +kernel | omega)) d_Tape_isName_21 (fun z8 z8e z8E => ?_)
    refine V_iload_n 2 d_Tape_isName_22 rfl rfl ?_
    refine V_icmp_eq 28 z8E tc_5 d_Tape_isName_23 (by decide) (fun c9 => ?_) (fun c9 => ?_)
    ·
      refine V_iconst 0 d_Tape_isName_28 (by decide) ?_
      refine V_istore_n 3 [some (.ref 89), some (.ref (135 + 7)), some (.int 5), some (.int 0)] d_Tape_isName_29 rfl (by decide) rfl rfl ?_
      refine V_iload_n 3 d_Tape_isName_30 rfl rfl ?_
      refine V_iload_n 2 d_Tape_isName_31 rfl rfl ?_
      refine V_icmp_ge 62 tc_0 tc_5 d_Tape_isName_32 (by decide) (fun c10 => ?_) (fun c10 => ?_)
      ·
        exact absurd c10 (by decide)
      ·
        refine V_aload_n 0 d_Tape_isName_35 rfl rfl ?_
        refine V_getR fa_Tape_9 sk_89 rfl d_Tape_isName_36 ?_
        refine V_aload_n 0 d_Tape_isName_39 rfl rfl ?_
        refine N_getK fa_Tape_19 sk_89 rfl d_Tape_isName_40 fK ?_
        refine V_iload_n 3 d_Tape_isName_43 rfl rfl ?_
        refine V_iadd fE tc_0 (by (first | decide +kernel | omega)) d_Tape_isName_44 (fun z11 z11e z11E => ?_)
        refine N_bald sk_90 z11E (by (first | decide +kernel | omega)) d_Tape_isName_45 (fun z12 z12Z z12E z12e => ?_)
        have g13 : z12Z = b (fZ + 0) := TP_rd (TP_fr f0 (fun _ => rfl) hy0) (by (first | decide +kernel | omega)) z12E z12e
        refine V_aload_n 1 d_Tape_isName_46 rfl rfl ?_
        refine V_iload_n 3 d_Tape_isName_47 rfl rfl ?_
        refine N_callVSI [.int 0] [.int z12] cv_Tape_47 sH rfl d_Tape_isName_48 rfl (Nat.le_of_ble_eq_true rfl) (by decide) (by decide) (c_Str_charAt h 7 sH 0 0 tc_0 (by decide)) (fun z14 h15 z14Z z14E p16 => ?_)
        obtain ⟨eh15, p16⟩ := p16
        subst eh15
        obtain rfl : z14 = 112 := p16.trans rfl
        refine V_icmp_eq 56 z12E tc_112 d_Tape_isName_51 (by decide) (fun c17 => ?_) (fun c17 => ?_)
        ·
          refine V_iinc (v := 1) 3 [some (.ref 89), some (.ref (135 + 7)), some (.int 5), some (.int 1)] d_Tape_isName_56 rfl (by decide) (by decide) rfl rfl ?_
          refine V_goto 30 d_Tape_isName_59 (by decide) ?_
          refine V_iload_n 3 d_Tape_isName_30 rfl rfl ?_
          refine V_iload_n 2 d_Tape_isName_31 rfl rfl ?_
          refine V_icmp_ge 62 tc_1 tc_5 d_Tape_isName_32 (by decide) (fun c19 => ?_) (fun c19 => ?_)
          ·
            exact absurd c19 (by decide)
          ·
            refine V_aload_n 0 d_Tape_isName_35 rfl rfl ?_
            refine V_getR fa_Tape_9 sk_89 rfl d_Tape_isName_36 ?_
            refine V_aload_n 0 d_Tape_isName_39 rfl rfl ?_
            refine N_getK fa_Tape_19 sk_89 rfl d_Tape_isName_40 fK ?_
            refine V_iload_n 3 d_Tape_isName_43 rfl rfl ?_
            refine V_iadd fE tc_1 (by (first | decide +kernel | omega)) d_Tape_isName_44 (fun z20 z20e z20E => ?_)
            refine N_bald sk_90 z20E (by (first | decide +kernel | omega)) d_Tape_isName_45 (fun z21 z21Z z21E z21e => ?_)
            have g22 : z21Z = b (fZ + 1) := TP_rd (TP_fr f0 (fun _ => rfl) hy0) (by (first | decide +kernel | omega)) z21E z21e
            refine V_aload_n 1 d_Tape_isName_46 rfl rfl ?_
            refine V_iload_n 3 d_Tape_isName_47 rfl rfl ?_
            refine N_callVSI [.int 1] [.int z21] cv_Tape_47 sH rfl d_Tape_isName_48 rfl (Nat.le_of_ble_eq_true rfl) (by decide) (by decide) (c_Str_charAt h 7 sH 1 1 tc_1 (by decide)) (fun z23 h24 z23Z z23E p25 => ?_)
            obtain ⟨eh24, p25⟩ := p25
            subst eh24
            obtain rfl : z23 = 114 := p25.trans rfl
            refine V_icmp_eq 56 z21E tc_114 d_Tape_isName_51 (by decide) (fun c26 => ?_) (fun c26 => ?_)
            ·
              refine V_iinc (v := 2) 3 [some (.ref 89), some (.ref (135 + 7)), some (.int 5), some (.int 2)] d_Tape_isName_56 rfl (by decide) (by decide) rfl rfl ?_
              refine V_goto 30 d_Tape_isName_59 (by decide) ?_
              refine V_iload_n 3 d_Tape_isName_30 rfl rfl ?_
              refine V_iload_n 2 d_Tape_isName_31 rfl rfl ?_
              refine V_icmp_ge 62 tc_2 tc_5 d_Tape_isName_32 (by decide) (fun c28 => ?_) (fun c28 => ?_)
              ·
                exact absurd c28 (by decide)
              ·
                refine V_aload_n 0 d_Tape_isName_35 rfl rfl ?_
                refine V_getR fa_Tape_9 sk_89 rfl d_Tape_isName_36 ?_
                refine V_aload_n 0 d_Tape_isName_39 rfl rfl ?_
                refine N_getK fa_Tape_19 sk_89 rfl d_Tape_isName_40 fK ?_
                refine V_iload_n 3 d_Tape_isName_43 rfl rfl ?_
                refine V_iadd fE tc_2 (by (first | decide +kernel | omega)) d_Tape_isName_44 (fun z29 z29e z29E => ?_)
                refine N_bald sk_90 z29E (by (first | decide +kernel | omega)) d_Tape_isName_45 (fun z30 z30Z z30E z30e => ?_)
                have g31 : z30Z = b (fZ + 2) := TP_rd (TP_fr f0 (fun _ => rfl) hy0) (by (first | decide +kernel | omega)) z30E z30e
                refine V_aload_n 1 d_Tape_isName_46 rfl rfl ?_
                refine V_iload_n 3 d_Tape_isName_47 rfl rfl ?_
                refine N_callVSI [.int 2] [.int z30] cv_Tape_47 sH rfl d_Tape_isName_48 rfl (Nat.le_of_ble_eq_true rfl) (by decide) (by decide) (c_Str_charAt h 7 sH 2 2 tc_2 (by decide)) (fun z32 h33 z32Z z32E p34 => ?_)
                obtain ⟨eh33, p34⟩ := p34
                subst eh33
                obtain rfl : z32 = 105 := p34.trans rfl
                refine V_icmp_eq 56 z30E tc_105 d_Tape_isName_51 (by decide) (fun c35 => ?_) (fun c35 => ?_)
                ·
                  refine V_iinc (v := 3) 3 [some (.ref 89), some (.ref (135 + 7)), some (.int 5), some (.int 3)] d_Tape_isName_56 rfl (by decide) (by decide) rfl rfl ?_
                  refine V_goto 30 d_Tape_isName_59 (by decide) ?_
                  refine V_iload_n 3 d_Tape_isName_30 rfl rfl ?_
                  refine V_iload_n 2 d_Tape_isName_31 rfl rfl ?_
                  refine V_icmp_ge 62 tc_3 tc_5 d_Tape_isName_32 (by decide) (fun c37 => ?_) (fun c37 => ?_)
                  ·
                    exact absurd c37 (by decide)
                  ·
                    refine V_aload_n 0 d_Tape_isName_35 rfl rfl ?_
                    refine V_getR fa_Tape_9 sk_89 rfl d_Tape_isName_36 ?_
                    refine V_aload_n 0 d_Tape_isName_39 rfl rfl ?_
                    refine N_getK fa_Tape_19 sk_89 rfl d_Tape_isName_40 fK ?_
                    refine V_iload_n 3 d_Tape_isName_43 rfl rfl ?_
                    refine V_iadd fE tc_3 (by (first | decide +kernel | omega)) d_Tape_isName_44 (fun z38 z38e z38E => ?_)
                    refine N_bald sk_90 z38E (by (first | decide +kernel | omega)) d_Tape_isName_45 (fun z39 z39Z z39E z39e => ?_)
                    have g40 : z39Z = b (fZ + 3) := TP_rd (TP_fr f0 (fun _ => rfl) hy0) (by (first | decide +kernel | omega)) z39E z39e
                    refine V_aload_n 1 d_Tape_isName_46 rfl rfl ?_
                    refine V_iload_n 3 d_Tape_isName_47 rfl rfl ?_
                    refine N_callVSI [.int 3] [.int z39] cv_Tape_47 sH rfl d_Tape_isName_48 rfl (Nat.le_of_ble_eq_true rfl) (by decide) (by decide) (c_Str_charAt h 7 sH 3 3 tc_3 (by decide)) (fun z41 h42 z41Z z41E p43 => ?_)
                    obtain ⟨eh42, p43⟩ := p43
                    subst eh42
                    obtain rfl : z41 = 99 := p43.trans rfl
                    refine V_icmp_eq 56 z39E tc_99 d_Tape_isName_51 (by decide) (fun c44 => ?_) (fun c44 => ?_)
                    ·
                      refine V_iinc (v := 4) 3 [some (.ref 89), some (.ref (135 + 7)), some (.int 5), some (.int 4)] d_Tape_isName_56 rfl (by decide) (by decide) rfl rfl ?_
                      refine V_goto 30 d_Tape_isName_59 (by decide) ?_
                      refine V_iload_n 3 d_Tape_isName_30 rfl rfl ?_
                      refine V_iload_n 2 d_Tape_isName_31 rfl rfl ?_
                      refine V_icmp_ge 62 tc_4 tc_5 d_Tape_isName_32 (by decide) (fun c46 => ?_) (fun c46 => ?_)
                      ·
                        exact absurd c46 (by decide)
                      ·
                        refine V_aload_n 0 d_Tape_isName_35 rfl rfl ?_
                        refine V_getR fa_Tape_9 sk_89 rfl d_Tape_isName_36 ?_
                        refine V_aload_n 0 d_Tape_isName_39 rfl rfl ?_
                        refine N_getK fa_Tape_19 sk_89 rfl d_Tape_isName_40 fK ?_
                        refine V_iload_n 3 d_Tape_isName_43 rfl rfl ?_
                        refine V_iadd fE tc_4 (by (first | decide +kernel | omega)) d_Tape_isName_44 (fun z47 z47e z47E => ?_)
                        refine N_bald sk_90 z47E (by (first | decide +kernel | omega)) d_Tape_isName_45 (fun z48 z48Z z48E z48e => ?_)
                        have g49 : z48Z = b (fZ + 4) := TP_rd (TP_fr f0 (fun _ => rfl) hy0) (by (first | decide +kernel | omega)) z48E z48e
                        refine V_aload_n 1 d_Tape_isName_46 rfl rfl ?_
                        refine V_iload_n 3 d_Tape_isName_47 rfl rfl ?_
                        refine N_callVSI [.int 4] [.int z48] cv_Tape_47 sH rfl d_Tape_isName_48 rfl (Nat.le_of_ble_eq_true rfl) (by decide) (by decide) (c_Str_charAt h 7 sH 4 4 tc_4 (by decide)) (fun z50 h51 z50Z z50E p52 => ?_)
                        obtain ⟨eh51, p52⟩ := p52
                        subst eh51
                        obtain rfl : z50 = 101 := p52.trans rfl
                        refine V_icmp_eq 56 z48E tc_101 d_Tape_isName_51 (by decide) (fun c53 => ?_) (fun c53 => ?_)
                        ·
                          refine V_iinc (v := 5) 3 [some (.ref 89), some (.ref (135 + 7)), some (.int 5), some (.int 5)] d_Tape_isName_56 rfl (by decide) (by decide) rfl rfl ?_
                          refine V_goto 30 d_Tape_isName_59 (by decide) ?_
                          refine V_iload_n 3 d_Tape_isName_30 rfl rfl ?_
                          refine V_iload_n 2 d_Tape_isName_31 rfl rfl ?_
                          refine V_icmp_ge 62 tc_5 tc_5 d_Tape_isName_32 (by decide) (fun c55 => ?_) (fun c55 => ?_)
                          ·
                            refine V_iconst 1 d_Tape_isName_62 (by decide) ?_
                            exact V_zret rfl (by decide) d_Tape_isName_63 ⟨1, rfl, ⟨rfl, (Or.inr ⟨by (first | decide +kernel | omega), tc_1.trans (x_nmy7 (b := b) (f := fZ) (e := uZ) (by (first | decide +kernel | omega))).symm⟩)⟩⟩
                          ·
                            exact absurd c55 (by decide)
                        ·
                          refine V_iconst 0 d_Tape_isName_54 (by decide) ?_
                          exact V_zret rfl (by decide) d_Tape_isName_55 ⟨0, rfl, ⟨rfl, (Or.inr ⟨by (first | decide +kernel | omega), tc_0.trans (x_nmn7 (b := b) (f := fZ) (e := uZ) (by (first | decide +kernel | omega))).symm⟩)⟩⟩
                    ·
                      refine V_iconst 0 d_Tape_isName_54 (by decide) ?_
                      exact V_zret rfl (by decide) d_Tape_isName_55 ⟨0, rfl, ⟨rfl, (Or.inr ⟨by (first | decide +kernel | omega), tc_0.trans (x_nmn7 (b := b) (f := fZ) (e := uZ) (by (first | decide +kernel | omega))).symm⟩)⟩⟩
                ·
                  refine V_iconst 0 d_Tape_isName_54 (by decide) ?_
                  exact V_zret rfl (by decide) d_Tape_isName_55 ⟨0, rfl, ⟨rfl, (Or.inr ⟨by (first | decide +kernel | omega), tc_0.trans (x_nmn7 (b := b) (f := fZ) (e := uZ) (by (first | decide +kernel | omega))).symm⟩)⟩⟩
            ·
              refine V_iconst 0 d_Tape_isName_54 (by decide) ?_
              exact V_zret rfl (by decide) d_Tape_isName_55 ⟨0, rfl, ⟨rfl, (Or.inr ⟨by (first | decide +kernel | omega), tc_0.trans (x_nmn7 (b := b) (f := fZ) (e := uZ) (by (first | decide +kernel | omega))).symm⟩)⟩⟩
        ·
          refine V_iconst 0 d_Tape_isName_54 (by decide) ?_
          exact V_zret rfl (by decide) d_Tape_isName_55 ⟨0, rfl, ⟨rfl, (Or.inr ⟨by (first | decide +kernel | omega), tc_0.trans (x_nmn7 (b := b) (f := fZ) (e := uZ) (by (first | decide +kernel | omega))).symm⟩)⟩⟩
    ·
      refine V_iconst 0 d_Tape_isName_26 (by decide) ?_
      exact V_zret rfl (by decide) d_Tape_isName_27 ⟨0, rfl, ⟨rfl, (if q : qZ = 1 then Or.inr ⟨q, tc_0.trans (x_nmn7 (b := b) (f := fZ) (e := uZ) (by (first | decide +kernel | omega))).symm⟩ else Or.inl ⟨q, rfl⟩)⟩⟩
abbrev q_Tape_isNameX_8 (h : Hp) (b : Int → Int) (s : Int32) (sZ : Int) (q : Int32) (qZ : Int) (f : Int32) (fZ : Int) (u : Int32) (uZ : Int) : Option Value → Hp → Prop := pInt (fun r h' => h = h' ∧ (qZ ≠ 1 ∧ r.toInt = 0 ∨ qZ = 1 ∧ r.toInt = x_nm8 b fZ uZ))
set_option maxRecDepth 100000 in
theorem c_Tape_isNameX_8 (h : Hp) (b : Int → Int) (hI : Inv h) (s : Int32) (sZ : Int) (sE : s.toInt = sZ) (sK : h.1 89 1 = s) (q : Int32) (qZ : Int) (qE : q.toInt = qZ) (qK : h.1 89 2 = q) (f : Int32) (fZ : Int) (fE : f.toInt = fZ) (fK : h.1 89 3 = f) (u : Int32) (uZ : Int) (uE : u.toInt = uZ) (uK : h.1 89 4 = u) (hy0 : TP h 90 sZ b) (hy1 : 0 ≤ fZ ∧ fZ ≤ uZ ∧ uZ ≤ sZ ∧ sZ ≤ 160) : Ct y_Tape_isName b_Tape_isName 4 (some .boolean) 4 85 [.ref 89, .ref (135 + 8)] h (q_Tape_isNameX_8 h b s sZ q qZ f fZ u uZ) := by
  refine ct_ow R_Tape [some (.ref 89), some (.ref (135 + 8)), none, none] rfl (by decide) rfl (Nat.le_of_ble_eq_true rfl) ?_
  have f0 : fr [] h h := fr_rf
  have g1 : 0 ≤ sZ ∧ sZ ≤ 160 := inv_at hI sE sK.symm rfl
  have g2 : 0 ≤ fZ ∧ fZ ≤ 160 := inv_at hI fE fK.symm rfl
  have g3 : 0 ≤ uZ ∧ uZ ≤ 160 := inv_at hI uE uK.symm rfl
  have sH : 8 < 14 := by decide
  refine V_aload_n 1 d_Tape_isName_0 rfl rfl ?_
  refine N_callVSI [] [] cv_Tape_41 sH rfl d_Tape_isName_1 rfl (Nat.le_of_ble_eq_true rfl) (by decide) (by decide) (c_Str_length h 8 sH) (fun z4 h5 z4Z z4E p6 => ?_)
  obtain ⟨eh5, p6⟩ := p6
  subst eh5
  rw [z4E] at p6
  obtain rfl : z4 = 3 := (ti_eq z4E (show (3 : Int32).toInt = 3 from rfl)).mpr (p6.trans rfl)
  refine V_istore_n 2 [some (.ref 89), some (.ref (135 + 8)), some (.int 3), none] d_Tape_isName_4 rfl (by decide) rfl rfl ?_
  refine V_aload_n 0 d_Tape_isName_5 rfl rfl ?_
  refine N_getK fa_Tape_25 sk_89 rfl d_Tape_isName_6 qK ?_
  refine V_iconst 1 d_Tape_isName_9 (by decide) ?_
  refine V_icmp_ne 26 qE tc_1 d_Tape_isName_10 (by decide) (fun c7 => ?_) (fun c7 => ?_)
  ·
    refine V_iconst 0 d_Tape_isName_26 (by decide) ?_
    exact V_zret rfl (by decide) d_Tape_isName_27 ⟨0, rfl, ⟨rfl, (if q : qZ = 1 then Or.inr ⟨q, tc_0.trans (x_nmn8 (b := b) (f := fZ) (e := uZ) (by (first | decide +kernel | omega))).symm⟩ else Or.inl ⟨q, rfl⟩)⟩⟩
  ·
    refine V_aload_n 0 d_Tape_isName_13 rfl rfl ?_
    refine N_getK fa_Tape_15 sk_89 rfl d_Tape_isName_14 uK ?_
    refine V_aload_n 0 d_Tape_isName_17 rfl rfl ?_
    refine N_getK fa_Tape_19 sk_89 rfl d_Tape_isName_18 fK ?_
    refine V_isub uE fE (by (first | decide +kernel | omega)) d_Tape_isName_21 (fun z8 z8e z8E => ?_)
    refine V_iload_n 2 d_Tape_isName_22 rfl rfl ?_
    refine V_icmp_eq 28 z8E tc_3 d_Tape_isName_23 (by decide) (fun c9 => ?_) (fun c9 => ?_)
    ·
      refine V_iconst 0 d_Tape_isName_28 (by decide) ?_
      refine V_istore_n 3 [some (.ref 89), some (.ref (135 + 8)), some (.int 3), some (.int 0)] d_Tape_isName_29 rfl (by decide) rfl rfl ?_
      refine V_iload_n 3 d_Tape_isName_30 rfl rfl ?_
      refine V_iload_n 2 d_Tape_isName_31 rfl rfl ?_
      refine V_icmp_ge 62 tc_0 tc_3 d_Tape_isName_32 (by decide) (fun c10 => ?_) (fun c10 => ?_)
      ·
        exact absurd c10 (by decide)
      ·
        refine V_aload_n 0 d_Tape_isName_35 rfl rfl ?_
        refine V_getR fa_Tape_9 sk_89 rfl d_Tape_isName_36 ?_
        refine V_aload_n 0 d_Tape_isName_39 rfl rfl ?_
        refine N_getK fa_Tape_19 sk_89 rfl d_Tape_isName_40 fK ?_
        refine V_iload_n 3 d_Tape_isName_43 rfl rfl ?_
        refine V_iadd fE tc_0 (by (first | decide +kernel | omega)) d_Tape_isName_44 (fun z11 z11e z11E => ?_)
        refine N_bald sk_90 z11E (by (first | decide +kernel | omega)) d_Tape_isName_45 (fun z12 z12Z z12E z12e => ?_)
        have g13 : z12Z = b (fZ + 0) := TP_rd (TP_fr f0 (fun _ => rfl) hy0) (by (first | decide +kernel | omega)) z12E z12e
        refine V_aload_n 1 d_Tape_isName_46 rfl rfl ?_
        refine V_iload_n 3 d_Tape_isName_47 rfl rfl ?_
        refine N_callVSI [.int 0] [.int z12] cv_Tape_47 sH rfl d_Tape_isName_48 rfl (Nat.le_of_ble_eq_true rfl) (by decide) (by decide) (c_Str_charAt h 8 sH 0 0 tc_0 (by decide)) (fun z14 h15 z14Z z14E p16 => ?_)
        obtain ⟨eh15, p16⟩ := p16
        subst eh15
        obtain rfl : z14 = 114 := p16.trans rfl
        refine V_icmp_eq 56 z12E tc_114 d_Tape_isName_51 (by decide) (fun c17 => ?_) (fun c17 => ?_)
        ·
          refine V_iinc (v := 1) 3 [some (.ref 89), some (.ref (135 + 8)), some (.int 3), some (.int 1)] d_Tape_isName_56 rfl (by decide) (by decide) rfl rfl ?_
          refine V_goto 30 d_Tape_isName_59 (by decide) ?_
          refine V_iload_n 3 d_Tape_isName_30 rfl rfl ?_
          refine V_iload_n 2 d_Tape_isName_31 rfl rfl ?_
          refine V_icmp_ge 62 tc_1 tc_3 d_Tape_isName_32 (by decide) (fun c19 => ?_) (fun c19 => ?_)
          ·
            exact absurd c19 (by decide)
          ·
            refine V_aload_n 0 d_Tape_isName_35 rfl rfl ?_
            refine V_getR fa_Tape_9 sk_89 rfl d_Tape_isName_36 ?_
            refine V_aload_n 0 d_Tape_isName_39 rfl rfl ?_
            refine N_getK fa_Tape_19 sk_89 rfl d_Tape_isName_40 fK ?_
            refine V_iload_n 3 d_Tape_isName_43 rfl rfl ?_
            refine V_iadd fE tc_1 (by (first | decide +kernel | omega)) d_Tape_isName_44 (fun z20 z20e z20E => ?_)
            refine N_bald sk_90 z20E (by (first | decide +kernel | omega)) d_Tape_isName_45 (fun z21 z21Z z21E z21e => ?_)
            have g22 : z21Z = b (fZ + 1) := TP_rd (TP_fr f0 (fun _ => rfl) hy0) (by (first | decide +kernel | omega)) z21E z21e
            refine V_aload_n 1 d_Tape_isName_46 rfl rfl ?_
            refine V_iload_n 3 d_Tape_isName_47 rfl rfl ?_
            refine N_callVSI [.int 1] [.int z21] cv_Tape_47 sH rfl d_Tape_isName_48 rfl (Nat.le_of_ble_eq_true rfl) (by decide) (by decide) (c_Str_charAt h 8 sH 1 1 tc_1 (by decide)) (fun z23 h24 z23Z z23E p25 => ?_)
            obtain ⟨eh24, p25⟩ := p25
            subst eh24
            obtain rfl : z23 = 111 := p25.trans rfl
            refine V_icmp_eq 56 z21E tc_111 d_Tape_isName_51 (by decide) (fun c26 => ?_) (fun c26 => ?_)
            ·
              refine V_iinc (v := 2) 3 [some (.ref 89), some (.ref (135 + 8)), some (.int 3), some (.int 2)] d_Tape_isName_56 rfl (by decide) (by decide) rfl rfl ?_
              refine V_goto 30 d_Tape_isName_59 (by decide) ?_
              refine V_iload_n 3 d_Tape_isName_30 rfl rfl ?_
              refine V_iload_n 2 d_Tape_isName_31 rfl rfl ?_
              refine V_icmp_ge 62 tc_2 tc_3 d_Tape_isName_32 (by decide) (fun c28 => ?_) (fun c28 => ?_)
              ·
                exact absurd c28 (by decide)
              ·
                refine V_aload_n 0 d_Tape_isName_35 rfl rfl ?_
                refine V_getR fa_Tape_9 sk_89 rfl d_Tape_isName_36 ?_
                refine V_aload_n 0 d_Tape_isName_39 rfl rfl ?_
                refine N_getK fa_Tape_19 sk_89 rfl d_Tape_isName_40 fK ?_
                refine V_iload_n 3 d_Tape_isName_43 rfl rfl ?_
                refine V_iadd fE tc_2 (by (first | decide +kernel | omega)) d_Tape_isName_44 (fun z29 z29e z29E => ?_)
                refine N_bald sk_90 z29E (by (first | decide +kernel | omega)) d_Tape_isName_45 (fun z30 z30Z z30E z30e => ?_)
                have g31 : z30Z = b (fZ + 2) := TP_rd (TP_fr f0 (fun _ => rfl) hy0) (by (first | decide +kernel | omega)) z30E z30e
                refine V_aload_n 1 d_Tape_isName_46 rfl rfl ?_
                refine V_iload_n 3 d_Tape_isName_47 rfl rfl ?_
                refine N_callVSI [.int 2] [.int z30] cv_Tape_47 sH rfl d_Tape_isName_48 rfl (Nat.le_of_ble_eq_true rfl) (by decide) (by decide) (c_Str_charAt h 8 sH 2 2 tc_2 (by decide)) (fun z32 h33 z32Z z32E p34 => ?_)
                obtain ⟨eh33, p34⟩ := p34
                subst eh33
                obtain rfl : z32 = 100 := p34.trans rfl
                refine V_icmp_eq 56 z30E tc_100 d_Tape_isName_51 (by decide) (fun c35 => ?_) (fun c35 => ?_)
                ·
                  refine V_iinc (v := 3) 3 [some (.ref 89), some (.ref (135 + 8)), some (.int 3), some (.int 3)] d_Tape_isName_56 rfl (by decide) (by decide) rfl rfl ?_
                  refine V_goto 30 d_Tape_isName_59 (by decide) ?_
                  refine V_iload_n 3 d_Tape_isName_30 rfl rfl ?_
                  refine V_iload_n 2 d_Tape_isName_31 rfl rfl ?_
                  refine V_icmp_ge 62 tc_3 tc_3 d_Tape_isName_32 (by decide) (fun c37 => ?_) (fun c37 => ?_)
                  ·
                    refine V_iconst 1 d_Tape_isName_62 (by decide) ?_
                    exact V_zret rfl (by decide) d_Tape_isName_63 ⟨1, rfl, ⟨rfl, (Or.inr ⟨by (first | decide +kernel | omega), tc_1.trans (x_nmy8 (b := b) (f := fZ) (e := uZ) (by (first | decide +kernel | omega))).symm⟩)⟩⟩
                  ·
                    exact absurd c37 (by decide)
                ·
                  refine V_iconst 0 d_Tape_isName_54 (by decide) ?_
                  exact V_zret rfl (by decide) d_Tape_isName_55 ⟨0, rfl, ⟨rfl, (Or.inr ⟨by (first | decide +kernel | omega), tc_0.trans (x_nmn8 (b := b) (f := fZ) (e := uZ) (by (first | decide +kernel | omega))).symm⟩)⟩⟩
            ·
              refine V_iconst 0 d_Tape_isName_54 (by decide) ?_
              exact V_zret rfl (by decide) d_Tape_isName_55 ⟨0, rfl, ⟨rfl, (Or.inr ⟨by (first | decide +kernel | omega), tc_0.trans (x_nmn8 (b := b) (f := fZ) (e := uZ) (by (first | decide +kernel | omega))).symm⟩)⟩⟩
        ·
          refine V_iconst 0 d_Tape_isName_54 (by decide) ?_
          exact V_zret rfl (by decide) d_Tape_isName_55 ⟨0, rfl, ⟨rfl, (Or.inr ⟨by (first | decide +kernel | omega), tc_0.trans (x_nmn8 (b := b) (f := fZ) (e := uZ) (by (first | decide +kernel | omega))).symm⟩)⟩⟩
    ·
      refine V_iconst 0 d_Tape_isName_26 (by decide) ?_
      exact V_zret rfl (by decide) d_Tape_isName_27 ⟨0, rfl, ⟨rfl, (if q : qZ = 1 then Or.inr ⟨q, tc_0.trans (x_nmn8 (b := b) (f := fZ) (e := uZ) (by (first | decide +kernel | omega))).symm⟩ else Or.inl ⟨q, rfl⟩)⟩⟩
abbrev q_Tape_isNameX_9 (h : Hp) (b : Int → Int) (s : Int32) (sZ : Int) (q : Int32) (qZ : Int) (f : Int32) (fZ : Int) (u : Int32) (uZ : Int) : Option Value → Hp → Prop := pInt (fun r h' => h = h' ∧ (qZ ≠ 1 ∧ r.toInt = 0 ∨ qZ = 1 ∧ r.toInt = x_nm9 b fZ uZ))
set_option maxRecDepth 100000 in
theorem c_Tape_isNameX_9 (h : Hp) (b : Int → Int) (hI : Inv h) (s : Int32) (sZ : Int) (sE : s.toInt = sZ) (sK : h.1 89 1 = s) (q : Int32) (qZ : Int) (qE : q.toInt = qZ) (qK : h.1 89 2 = q) (f : Int32) (fZ : Int) (fE : f.toInt = fZ) (fK : h.1 89 3 = f) (u : Int32) (uZ : Int) (uE : u.toInt = uZ) (uK : h.1 89 4 = u) (hy0 : TP h 90 sZ b) (hy1 : 0 ≤ fZ ∧ fZ ≤ uZ ∧ uZ ≤ sZ ∧ sZ ≤ 160) : Ct y_Tape_isName b_Tape_isName 4 (some .boolean) 4 85 [.ref 89, .ref (135 + 9)] h (q_Tape_isNameX_9 h b s sZ q qZ f fZ u uZ) := by
  refine ct_ow R_Tape [some (.ref 89), some (.ref (135 + 9)), none, none] rfl (by decide) rfl (Nat.le_of_ble_eq_true rfl) ?_
  have f0 : fr [] h h := fr_rf
  have g1 : 0 ≤ sZ ∧ sZ ≤ 160 := inv_at hI sE sK.symm rfl
  have g2 : 0 ≤ fZ ∧ fZ ≤ 160 := inv_at hI fE fK.symm rfl
  have g3 : 0 ≤ uZ ∧ uZ ≤ 160 := inv_at hI uE uK.symm rfl
  have sH : 9 < 14 := by decide
  refine V_aload_n 1 d_Tape_isName_0 rfl rfl ?_
  refine N_callVSI [] [] cv_Tape_41 sH rfl d_Tape_isName_1 rfl (Nat.le_of_ble_eq_true rfl) (by decide) (by decide) (c_Str_length h 9 sH) (fun z4 h5 z4Z z4E p6 => ?_)
  obtain ⟨eh5, p6⟩ := p6
  subst eh5
  rw [z4E] at p6
  obtain rfl : z4 = 3 := (ti_eq z4E (show (3 : Int32).toInt = 3 from rfl)).mpr (p6.trans rfl)
  refine V_istore_n 2 [some (.ref 89), some (.ref (135 + 9)), some (.int 3), none] d_Tape_isName_4 rfl (by decide) rfl rfl ?_
  refine V_aload_n 0 d_Tape_isName_5 rfl rfl ?_
  refine N_getK fa_Tape_25 sk_89 rfl d_Tape_isName_6 qK ?_
  refine V_iconst 1 d_Tape_isName_9 (by decide) ?_
  refine V_icmp_ne 26 qE tc_1 d_Tape_isName_10 (by decide) (fun c7 => ?_) (fun c7 => ?_)
  ·
    refine V_iconst 0 d_Tape_isName_26 (by decide) ?_
    exact V_zret rfl (by decide) d_Tape_isName_27 ⟨0, rfl, ⟨rfl, (if q : qZ = 1 then Or.inr ⟨q, tc_0.trans (x_nmn9 (b := b) (f := fZ) (e := uZ) (by (first | decide +kernel | omega))).symm⟩ else Or.inl ⟨q, rfl⟩)⟩⟩
  ·
    refine V_aload_n 0 d_Tape_isName_13 rfl rfl ?_
    refine N_getK fa_Tape_15 sk_89 rfl d_Tape_isName_14 uK ?_
    refine V_aload_n 0 d_Tape_isName_17 rfl rfl ?_
    refine N_getK fa_Tape_19 sk_89 rfl d_Tape_isName_18 fK ?_
    refine V_isub uE fE (by (first | decide +kernel | omega)) d_Tape_isName_21 (fun z8 z8e z8E => ?_)
    refine V_iload_n 2 d_Tape_isName_22 rfl rfl ?_
    refine V_icmp_eq 28 z8E tc_3 d_Tape_isName_23 (by decide) (fun c9 => ?_) (fun c9 => ?_)
    ·
      refine V_iconst 0 d_Tape_isName_28 (by decide) ?_
      refine V_istore_n 3 [some (.ref 89), some (.ref (135 + 9)), some (.int 3), some (.int 0)] d_Tape_isName_29 rfl (by decide) rfl rfl ?_
      refine V_iload_n 3 d_Tape_isName_30 rfl rfl ?_
      refine V_iload_n 2 d_Tape_isName_31 rfl rfl ?_
      refine V_icmp_ge 62 tc_0 tc_3 d_Tape_isName_32 (by decide) (fun c10 => ?_) (fun c10 => ?_)
      ·
        exact absurd c10 (by decide)
      ·
        refine V_aload_n 0 d_Tape_isName_35 rfl rfl ?_
        refine V_getR fa_Tape_9 sk_89 rfl d_Tape_isName_36 ?_
        refine V_aload_n 0 d_Tape_isName_39 rfl rfl ?_
        refine N_getK fa_Tape_19 sk_89 rfl d_Tape_isName_40 fK ?_
        refine V_iload_n 3 d_Tape_isName_43 rfl rfl ?_
        refine V_iadd fE tc_0 (by (first | decide +kernel | omega)) d_Tape_isName_44 (fun z11 z11e z11E => ?_)
        refine N_bald sk_90 z11E (by (first | decide +kernel | omega)) d_Tape_isName_45 (fun z12 z12Z z12E z12e => ?_)
        have g13 : z12Z = b (fZ + 0) := TP_rd (TP_fr f0 (fun _ => rfl) hy0) (by (first | decide +kernel | omega)) z12E z12e
        refine V_aload_n 1 d_Tape_isName_46 rfl rfl ?_
        refine V_iload_n 3 d_Tape_isName_47 rfl rfl ?_
        refine N_callVSI [.int 0] [.int z12] cv_Tape_47 sH rfl d_Tape_isName_48 rfl (Nat.le_of_ble_eq_true rfl) (by decide) (by decide) (c_Str_charAt h 9 sH 0 0 tc_0 (by decide)) (fun z14 h15 z14Z z14E p16 => ?_)
        obtain ⟨eh15, p16⟩ := p16
        subst eh15
        obtain rfl : z14 = 111 := p16.trans rfl
        refine V_icmp_eq 56 z12E tc_111 d_Tape_isName_51 (by decide) (fun c17 => ?_) (fun c17 => ?_)
        ·
          refine V_iinc (v := 1) 3 [some (.ref 89), some (.ref (135 + 9)), some (.int 3), some (.int 1)] d_Tape_isName_56 rfl (by decide) (by decide) rfl rfl ?_
          refine V_goto 30 d_Tape_isName_59 (by decide) ?_
          refine V_iload_n 3 d_Tape_isName_30 rfl rfl ?_
          refine V_iload_n 2 d_Tape_isName_31 rfl rfl ?_
          refine V_icmp_ge 62 tc_1 tc_3 d_Tape_isName_32 (by decide) (fun c19 => ?_) (fun c19 => ?_)
          ·
            exact absurd c19 (by decide)
          ·
            refine V_aload_n 0 d_Tape_isName_35 rfl rfl ?_
            refine V_getR fa_Tape_9 sk_89 rfl d_Tape_isName_36 ?_
            refine V_aload_n 0 d_Tape_isName_39 rfl rfl ?_
            refine N_getK fa_Tape_19 sk_89 rfl d_Tape_isName_40 fK ?_
            refine V_iload_n 3 d_Tape_isName_43 rfl rfl ?_
            refine V_iadd fE tc_1 (by (first | decide +kernel | omega)) d_Tape_isName_44 (fun z20 z20e z20E => ?_)
            refine N_bald sk_90 z20E (by (first | decide +kernel | omega)) d_Tape_isName_45 (fun z21 z21Z z21E z21e => ?_)
            have g22 : z21Z = b (fZ + 1) := TP_rd (TP_fr f0 (fun _ => rfl) hy0) (by (first | decide +kernel | omega)) z21E z21e
            refine V_aload_n 1 d_Tape_isName_46 rfl rfl ?_
            refine V_iload_n 3 d_Tape_isName_47 rfl rfl ?_
            refine N_callVSI [.int 1] [.int z21] cv_Tape_47 sH rfl d_Tape_isName_48 rfl (Nat.le_of_ble_eq_true rfl) (by decide) (by decide) (c_Str_charAt h 9 sH 1 1 tc_1 (by decide)) (fun z23 h24 z23Z z23E p25 => ?_)
            obtain ⟨eh24, p25⟩ := p25
            subst eh24
            obtain rfl : z23 = 119 := p25.trans rfl
            refine V_icmp_eq 56 z21E tc_119 d_Tape_isName_51 (by decide) (fun c26 => ?_) (fun c26 => ?_)
            ·
              refine V_iinc (v := 2) 3 [some (.ref 89), some (.ref (135 + 9)), some (.int 3), some (.int 2)] d_Tape_isName_56 rfl (by decide) (by decide) rfl rfl ?_
              refine V_goto 30 d_Tape_isName_59 (by decide) ?_
              refine V_iload_n 3 d_Tape_isName_30 rfl rfl ?_
              refine V_iload_n 2 d_Tape_isName_31 rfl rfl ?_
              refine V_icmp_ge 62 tc_2 tc_3 d_Tape_isName_32 (by decide) (fun c28 => ?_) (fun c28 => ?_)
              ·
                exact absurd c28 (by decide)
              ·
                refine V_aload_n 0 d_Tape_isName_35 rfl rfl ?_
                refine V_getR fa_Tape_9 sk_89 rfl d_Tape_isName_36 ?_
                refine V_aload_n 0 d_Tape_isName_39 rfl rfl ?_
                refine N_getK fa_Tape_19 sk_89 rfl d_Tape_isName_40 fK ?_
                refine V_iload_n 3 d_Tape_isName_43 rfl rfl ?_
                refine V_iadd fE tc_2 (by (first | decide +kernel | omega)) d_Tape_isName_44 (fun z29 z29e z29E => ?_)
                refine N_bald sk_90 z29E (by (first | decide +kernel | omega)) d_Tape_isName_45 (fun z30 z30Z z30E z30e => ?_)
                have g31 : z30Z = b (fZ + 2) := TP_rd (TP_fr f0 (fun _ => rfl) hy0) (by (first | decide +kernel | omega)) z30E z30e
                refine V_aload_n 1 d_Tape_isName_46 rfl rfl ?_
                refine V_iload_n 3 d_Tape_isName_47 rfl rfl ?_
                refine N_callVSI [.int 2] [.int z30] cv_Tape_47 sH rfl d_Tape_isName_48 rfl (Nat.le_of_ble_eq_true rfl) (by decide) (by decide) (c_Str_charAt h 9 sH 2 2 tc_2 (by decide)) (fun z32 h33 z32Z z32E p34 => ?_)
                obtain ⟨eh33, p34⟩ := p34
                subst eh33
                obtain rfl : z32 = 101 := p34.trans rfl
                refine V_icmp_eq 56 z30E tc_101 d_Tape_isName_51 (by decide) (fun c35 => ?_) (fun c35 => ?_)
                ·
                  refine V_iinc (v := 3) 3 [some (.ref 89), some (.ref (135 + 9)), some (.int 3), some (.int 3)] d_Tape_isName_56 rfl (by decide) (by decide) rfl rfl ?_
                  refine V_goto 30 d_Tape_isName_59 (by decide) ?_
                  refine V_iload_n 3 d_Tape_isName_30 rfl rfl ?_
                  refine V_iload_n 2 d_Tape_isName_31 rfl rfl ?_
                  refine V_icmp_ge 62 tc_3 tc_3 d_Tape_isName_32 (by decide) (fun c37 => ?_) (fun c37 => ?_)
                  ·
                    refine V_iconst 1 d_Tape_isName_62 (by decide) ?_
                    exact V_zret rfl (by decide) d_Tape_isName_63 ⟨1, rfl, ⟨rfl, (Or.inr ⟨by (first | decide +kernel | omega), tc_1.trans (x_nmy9 (b := b) (f := fZ) (e := uZ) (by (first | decide +kernel | omega))).symm⟩)⟩⟩
                  ·
                    exact absurd c37 (by decide)
                ·
                  refine V_iconst 0 d_Tape_isName_54 (by decide) ?_
                  exact V_zret rfl (by decide) d_Tape_isName_55 ⟨0, rfl, ⟨rfl, (Or.inr ⟨by (first | decide +kernel | omega), tc_0.trans (x_nmn9 (b := b) (f := fZ) (e := uZ) (by (first | decide +kernel | omega))).symm⟩)⟩⟩
            ·
              refine V_iconst 0 d_Tape_isName_54 (by decide) ?_
              exact V_zret rfl (by decide) d_Tape_isName_55 ⟨0, rfl, ⟨rfl, (Or.inr ⟨by (first | decide +kernel | omega), tc_0.trans (x_nmn9 (b := b) (f := fZ) (e := uZ) (by (first | decide +kernel | omega))).symm⟩)⟩⟩
        ·
          refine V_iconst 0 d_Tape_isName_54 (by decide) ?_
          exact V_zret rfl (by decide) d_Tape_isName_55 ⟨0, rfl, ⟨rfl, (Or.inr ⟨by (first | decide +kernel | omega), tc_0.trans (x_nmn9 (b := b) (f := fZ) (e := uZ) (by (first | decide +kernel | omega))).symm⟩)⟩⟩
    ·
      refine V_iconst 0 d_Tape_isName_26 (by decide) ?_
      exact V_zret rfl (by decide) d_Tape_isName_27 ⟨0, rfl, ⟨rfl, (if q : qZ = 1 then Or.inr ⟨q, tc_0.trans (x_nmn9 (b := b) (f := fZ) (e := uZ) (by (first | decide +kernel | omega))).symm⟩ else Or.inl ⟨q, rfl⟩)⟩⟩
abbrev q_Tape_isNameX_10 (h : Hp) (b : Int → Int) (s : Int32) (sZ : Int) (q : Int32) (qZ : Int) (f : Int32) (fZ : Int) (u : Int32) (uZ : Int) : Option Value → Hp → Prop := pInt (fun r h' => h = h' ∧ (qZ ≠ 1 ∧ r.toInt = 0 ∨ qZ = 1 ∧ r.toInt = x_nm10 b fZ uZ))
set_option maxRecDepth 100000 in
theorem c_Tape_isNameX_10 (h : Hp) (b : Int → Int) (hI : Inv h) (s : Int32) (sZ : Int) (sE : s.toInt = sZ) (sK : h.1 89 1 = s) (q : Int32) (qZ : Int) (qE : q.toInt = qZ) (qK : h.1 89 2 = q) (f : Int32) (fZ : Int) (fE : f.toInt = fZ) (fK : h.1 89 3 = f) (u : Int32) (uZ : Int) (uE : u.toInt = uZ) (uK : h.1 89 4 = u) (hy0 : TP h 90 sZ b) (hy1 : 0 ≤ fZ ∧ fZ ≤ uZ ∧ uZ ≤ sZ ∧ sZ ≤ 160) : Ct y_Tape_isName b_Tape_isName 4 (some .boolean) 4 85 [.ref 89, .ref (135 + 10)] h (q_Tape_isNameX_10 h b s sZ q qZ f fZ u uZ) := by
  refine ct_ow R_Tape [some (.ref 89), some (.ref (135 + 10)), none, none] rfl (by decide) rfl (Nat.le_of_ble_eq_true rfl) ?_
  have f0 : fr [] h h := fr_rf
  have g1 : 0 ≤ sZ ∧ sZ ≤ 160 := inv_at hI sE sK.symm rfl
  have g2 : 0 ≤ fZ ∧ fZ ≤ 160 := inv_at hI fE fK.symm rfl
  have g3 : 0 ≤ uZ ∧ uZ ≤ 160 := inv_at hI uE uK.symm rfl
  have sH : 10 < 14 := by decide
  refine V_aload_n 1 d_Tape_isName_0 rfl rfl ?_
  refine N_callVSI [] [] cv_Tape_41 sH rfl d_Tape_isName_1 rfl (Nat.le_of_ble_eq_true rfl) (by decide) (by decide) (c_Str_length h 10 sH) (fun z4 h5 z4Z z4E p6 => ?_)
  obtain ⟨eh5, p6⟩ := p6
  subst eh5
  rw [z4E] at p6
  obtain rfl : z4 = 5 := (ti_eq z4E (show (5 : Int32).toInt = 5 from rfl)).mpr (p6.trans rfl)
  refine V_istore_n 2 [some (.ref 89), some (.ref (135 + 10)), some (.int 5), none] d_Tape_isName_4 rfl (by decide) rfl rfl ?_
  refine V_aload_n 0 d_Tape_isName_5 rfl rfl ?_
  refine N_getK fa_Tape_25 sk_89 rfl d_Tape_isName_6 qK ?_
  refine V_iconst 1 d_Tape_isName_9 (by decide) ?_
  refine V_icmp_ne 26 qE tc_1 d_Tape_isName_10 (by decide) (fun c7 => ?_) (fun c7 => ?_)
  ·
    refine V_iconst 0 d_Tape_isName_26 (by decide) ?_
    exact V_zret rfl (by decide) d_Tape_isName_27 ⟨0, rfl, ⟨rfl, (if q : qZ = 1 then Or.inr ⟨q, tc_0.trans (x_nmn10 (b := b) (f := fZ) (e := uZ) (by (first | decide +kernel | omega))).symm⟩ else Or.inl ⟨q, rfl⟩)⟩⟩
  ·
    refine V_aload_n 0 d_Tape_isName_13 rfl rfl ?_
    refine N_getK fa_Tape_15 sk_89 rfl d_Tape_isName_14 uK ?_
    refine V_aload_n 0 d_Tape_isName_17 rfl rfl ?_
    refine N_getK fa_Tape_19 sk_89 rfl d_Tape_isName_18 fK ?_
    refine V_isub uE fE (by (first | decide +kernel | omega)) d_Tape_isName_21 (fun z8 z8e z8E => ?_)
    refine V_iload_n 2 d_Tape_isName_22 rfl rfl ?_
    refine V_icmp_eq 28 z8E tc_5 d_Tape_isName_23 (by decide) (fun c9 => ?_) (fun c9 => ?_)
    ·
      refine V_iconst 0 d_Tape_isName_28 (by decide) ?_
      refine V_istore_n 3 [some (.ref 89), some (.ref (135 + 10)), some (.int 5), some (.int 0)] d_Tape_isName_29 rfl (by decide) rfl rfl ?_
      refine V_iload_n 3 d_Tape_isName_30 rfl rfl ?_
      refine V_iload_n 2 d_Tape_isName_31 rfl rfl ?_
      refine V_icmp_ge 62 tc_0 tc_5 d_Tape_isName_32 (by decide) (fun c10 => ?_) (fun c10 => ?_)
      ·
        exact absurd c10 (by decide)
      ·
        refine V_aload_n 0 d_Tape_isName_35 rfl rfl ?_
        refine V_getR fa_Tape_9 sk_89 rfl d_Tape_isName_36 ?_
        refine V_aload_n 0 d_Tape_isName_39 rfl rfl ?_
        refine N_getK fa_Tape_19 sk_89 rfl d_Tape_isName_40 fK ?_
        refine V_iload_n 3 d_Tape_isName_43 rfl rfl ?_
        refine V_iadd fE tc_0 (by (first | decide +kernel | omega)) d_Tape_isName_44 (fun z11 z11e z11E => ?_)
        refine N_bald sk_90 z11E (by (first | decide +kernel | omega)) d_Tape_isName_45 (fun z12 z12Z z12E z12e => ?_)
        have g13 : z12Z = b (fZ + 0) := TP_rd (TP_fr f0 (fun _ => rfl) hy0) (by (first | decide +kernel | omega)) z12E z12e
        refine V_aload_n 1 d_Tape_isName_46 rfl rfl ?_
        refine V_iload_n 3 d_Tape_isName_47 rfl rfl ?_
        refine N_callVSI [.int 0] [.int z12] cv_Tape_47 sH rfl d_Tape_isName_48 rfl (Nat.le_of_ble_eq_true rfl) (by decide) (by decide) (c_Str_charAt h 10 sH 0 0 tc_0 (by decide)) (fun z14 h15 z14Z z14E p16 => ?_)
        obtain ⟨eh15, p16⟩ := p16
        subst eh15
        obtain rfl : z14 = 119 := p16.trans rfl
        refine V_icmp_eq 56 z12E tc_119 d_Tape_isName_51 (by decide) (fun c17 => ?_) (fun c17 => ?_)
        ·
          refine V_iinc (v := 1) 3 [some (.ref 89), some (.ref (135 + 10)), some (.int 5), some (.int 1)] d_Tape_isName_56 rfl (by decide) (by decide) rfl rfl ?_
          refine V_goto 30 d_Tape_isName_59 (by decide) ?_
          refine V_iload_n 3 d_Tape_isName_30 rfl rfl ?_
          refine V_iload_n 2 d_Tape_isName_31 rfl rfl ?_
          refine V_icmp_ge 62 tc_1 tc_5 d_Tape_isName_32 (by decide) (fun c19 => ?_) (fun c19 => ?_)
          ·
            exact absurd c19 (by decide)
          ·
            refine V_aload_n 0 d_Tape_isName_35 rfl rfl ?_
            refine V_getR fa_Tape_9 sk_89 rfl d_Tape_isName_36 ?_
            refine V_aload_n 0 d_Tape_isName_39 rfl rfl ?_
            refine N_getK fa_Tape_19 sk_89 rfl d_Tape_isName_40 fK ?_
            refine V_iload_n 3 d_Tape_isName_43 rfl rfl ?_
            refine V_iadd fE tc_1 (by (first | decide +kernel | omega)) d_Tape_isName_44 (fun z20 z20e z20E => ?_)
            refine N_bald sk_90 z20E (by (first | decide +kernel | omega)) d_Tape_isName_45 (fun z21 z21Z z21E z21e => ?_)
            have g22 : z21Z = b (fZ + 1) := TP_rd (TP_fr f0 (fun _ => rfl) hy0) (by (first | decide +kernel | omega)) z21E z21e
            refine V_aload_n 1 d_Tape_isName_46 rfl rfl ?_
            refine V_iload_n 3 d_Tape_isName_47 rfl rfl ?_
            refine N_callVSI [.int 1] [.int z21] cv_Tape_47 sH rfl d_Tape_isName_48 rfl (Nat.le_of_ble_eq_true rfl) (by decide) (by decide) (c_Str_charAt h 10 sH 1 1 tc_1 (by decide)) (fun z23 h24 z23Z z23E p25 => ?_)
            obtain ⟨eh24, p25⟩ := p25
            subst eh24
            obtain rfl : z23 = 97 := p25.trans rfl
            refine V_icmp_eq 56 z21E tc_97 d_Tape_isName_51 (by decide) (fun c26 => ?_) (fun c26 => ?_)
            ·
              refine V_iinc (v := 2) 3 [some (.ref 89), some (.ref (135 + 10)), some (.int 5), some (.int 2)] d_Tape_isName_56 rfl (by decide) (by decide) rfl rfl ?_
              refine V_goto 30 d_Tape_isName_59 (by decide) ?_
              refine V_iload_n 3 d_Tape_isName_30 rfl rfl ?_
              refine V_iload_n 2 d_Tape_isName_31 rfl rfl ?_
              refine V_icmp_ge 62 tc_2 tc_5 d_Tape_isName_32 (by decide) (fun c28 => ?_) (fun c28 => ?_)
              ·
                exact absurd c28 (by decide)
              ·
                refine V_aload_n 0 d_Tape_isName_35 rfl rfl ?_
                refine V_getR fa_Tape_9 sk_89 rfl d_Tape_isName_36 ?_
                refine V_aload_n 0 d_Tape_isName_39 rfl rfl ?_
                refine N_getK fa_Tape_19 sk_89 rfl d_Tape_isName_40 fK ?_
                refine V_iload_n 3 d_Tape_isName_43 rfl rfl ?_
                refine V_iadd fE tc_2 (by (first | decide +kernel | omega)) d_Tape_isName_44 (fun z29 z29e z29E => ?_)
                refine N_bald sk_90 z29E (by (first | decide +kernel | omega)) d_Tape_isName_45 (fun z30 z30Z z30E z30e => ?_)
                have g31 : z30Z = b (fZ + 2) := TP_rd (TP_fr f0 (fun _ => rfl) hy0) (by (first | decide +kernel | omega)) z30E z30e
                refine V_aload_n 1 d_Tape_isName_46 rfl rfl ?_
                refine V_iload_n 3 d_Tape_isName_47 rfl rfl ?_
                refine N_callVSI [.int 2] [.int z30] cv_Tape_47 sH rfl d_Tape_isName_48 rfl (Nat.le_of_ble_eq_true rfl) (by decide) (by decide) (c_Str_charAt h 10 sH 2 2 tc_2 (by decide)) (fun z32 h33 z32Z z32E p34 => ?_)
                obtain ⟨eh33, p34⟩ := p34
                subst eh33
                obtain rfl : z32 = 116 := p34.trans rfl
                refine V_icmp_eq 56 z30E tc_116 d_Tape_isName_51 (by decide) (fun c35 => ?_) (fun c35 => ?_)
                ·
                  refine V_iinc (v := 3) 3 [some (.ref 89), some (.ref (135 + 10)), some (.int 5), some (.int 3)] d_Tape_isName_56 rfl (by decide) (by decide) rfl rfl ?_
                  refine V_goto 30 d_Tape_isName_59 (by decide) ?_
                  refine V_iload_n 3 d_Tape_isName_30 rfl rfl ?_
                  refine V_iload_n 2 d_Tape_isName_31 rfl rfl ?_
                  refine V_icmp_ge 62 tc_3 tc_5 d_Tape_isName_32 (by decide) (fun c37 => ?_) (fun c37 => ?_)
                  ·
                    exact absurd c37 (by decide)
                  ·
                    refine V_aload_n 0 d_Tape_isName_35 rfl rfl ?_
                    refine V_getR fa_Tape_9 sk_89 rfl d_Tape_isName_36 ?_
                    refine V_aload_n 0 d_Tape_isName_39 rfl rfl ?_
                    refine N_getK fa_Tape_19 sk_89 rfl d_Tape_isName_40 fK ?_
                    refine V_iload_n 3 d_Tape_isName_43 rfl rfl ?_
                    refine V_iadd fE tc_3 (by (first | decide +kernel | omega)) d_Tape_isName_44 (fun z38 z38e z38E => ?_)
                    refine N_bald sk_90 z38E (by (first | decide +kernel | omega)) d_Tape_isName_45 (fun z39 z39Z z39E z39e => ?_)
                    have g40 : z39Z = b (fZ + 3) := TP_rd (TP_fr f0 (fun _ => rfl) hy0) (by (first | decide +kernel | omega)) z39E z39e
                    refine V_aload_n 1 d_Tape_isName_46 rfl rfl ?_
                    refine V_iload_n 3 d_Tape_isName_47 rfl rfl ?_
                    refine N_callVSI [.int 3] [.int z39] cv_Tape_47 sH rfl d_Tape_isName_48 rfl (Nat.le_of_ble_eq_true rfl) (by decide) (by decide) (c_Str_charAt h 10 sH 3 3 tc_3 (by decide)) (fun z41 h42 z41Z z41E p43 => ?_)
                    obtain ⟨eh42, p43⟩ := p43
                    subst eh42
                    obtain rfl : z41 = 101 := p43.trans rfl
                    refine V_icmp_eq 56 z39E tc_101 d_Tape_isName_51 (by decide) (fun c44 => ?_) (fun c44 => ?_)
                    ·
                      refine V_iinc (v := 4) 3 [some (.ref 89), some (.ref (135 + 10)), some (.int 5), some (.int 4)] d_Tape_isName_56 rfl (by decide) (by decide) rfl rfl ?_
                      refine V_goto 30 d_Tape_isName_59 (by decide) ?_
                      refine V_iload_n 3 d_Tape_isName_30 rfl rfl ?_
                      refine V_iload_n 2 d_Tape_isName_31 rfl rfl ?_
                      refine V_icmp_ge 62 tc_4 tc_5 d_Tape_isName_32 (by decide) (fun c46 => ?_) (fun c46 => ?_)
                      ·
                        exact absurd c46 (by decide)
                      ·
                        refine V_aload_n 0 d_Tape_isName_35 rfl rfl ?_
                        refine V_getR fa_Tape_9 sk_89 rfl d_Tape_isName_36 ?_
                        refine V_aload_n 0 d_Tape_isName_39 rfl rfl ?_
                        refine N_getK fa_Tape_19 sk_89 rfl d_Tape_isName_40 fK ?_
                        refine V_iload_n 3 d_Tape_isName_43 rfl rfl ?_
                        refine V_iadd fE tc_4 (by (first | decide +kernel | omega)) d_Tape_isName_44 (fun z47 z47e z47E => ?_)
                        refine N_bald sk_90 z47E (by (first | decide +kernel | omega)) d_Tape_isName_45 (fun z48 z48Z z48E z48e => ?_)
                        have g49 : z48Z = b (fZ + 4) := TP_rd (TP_fr f0 (fun _ => rfl) hy0) (by (first | decide +kernel | omega)) z48E z48e
                        refine V_aload_n 1 d_Tape_isName_46 rfl rfl ?_
                        refine V_iload_n 3 d_Tape_isName_47 rfl rfl ?_
                        refine N_callVSI [.int 4] [.int z48] cv_Tape_47 sH rfl d_Tape_isName_48 rfl (Nat.le_of_ble_eq_true rfl) (by decide) (by decide) (c_Str_charAt h 10 sH 4 4 tc_4 (by decide)) (fun z50 h51 z50Z z50E p52 => ?_)
                        obtain ⟨eh51, p52⟩ := p52
                        subst eh51
                        obtain rfl : z50 = 114 := p52.trans rfl
                        refine V_icmp_eq 56 z48E tc_114 d_Tape_isName_51 (by decide) (fun c53 => ?_) (fun c53 => ?_)
                        ·
                          refine V_iinc (v := 5) 3 [some (.ref 89), some (.ref (135 + 10)), some (.int 5), some (.int 5)] d_Tape_isName_56 rfl (by decide) (by decide) rfl rfl ?_
                          refine V_goto 30 d_Tape_isName_59 (by decide) ?_
                          refine V_iload_n 3 d_Tape_isName_30 rfl rfl ?_
                          refine V_iload_n 2 d_Tape_isName_31 rfl rfl ?_
                          refine V_icmp_ge 62 tc_5 tc_5 d_Tape_isName_32 (by decide) (fun c55 => ?_) (fun c55 => ?_)
                          ·
                            refine V_iconst 1 d_Tape_isName_62 (by decide) ?_
                            exact V_zret rfl (by decide) d_Tape_isName_63 ⟨1, rfl, ⟨rfl, (Or.inr ⟨by (first | decide +kernel | omega), tc_1.trans (x_nmy10 (b := b) (f := fZ) (e := uZ) (by (first | decide +kernel | omega))).symm⟩)⟩⟩
                          ·
                            exact absurd c55 (by decide)
                        ·
                          refine V_iconst 0 d_Tape_isName_54 (by decide) ?_
                          exact V_zret rfl (by decide) d_Tape_isName_55 ⟨0, rfl, ⟨rfl, (Or.inr ⟨by (first | decide +kernel | omega), tc_0.trans (x_nmn10 (b := b) (f := fZ) (e := uZ) (by (first | decide +kernel | omega))).symm⟩)⟩⟩
                    ·
                      refine V_iconst 0 d_Tape_isName_54 (by decide) ?_
                      exact V_zret rfl (by decide) d_Tape_isName_55 ⟨0, rfl, ⟨rfl, (Or.inr ⟨by (first | decide +kernel | omega), tc_0.trans (x_nmn10 (b := b) (f := fZ) (e := uZ) (by (first | decide +kernel | omega))).symm⟩)⟩⟩
                ·
                  refine V_iconst 0 d_Tape_isName_54 (by decide) ?_
                  exact V_zret rfl (by decide) d_Tape_isName_55 ⟨0, rfl, ⟨rfl, (Or.inr ⟨by (first | decide +kernel | omega), tc_0.trans (x_nmn10 (b := b) (f := fZ) (e := uZ) (by (first | decide +kernel | omega))).symm⟩)⟩⟩
            ·
              refine V_iconst 0 d_Tape_isName_54 (by decide) ?_
              exact V_zret rfl (by decide) d_Tape_isName_55 ⟨0, rfl, ⟨rfl, (Or.inr ⟨by (first | decide +kernel | omega), tc_0.trans (x_nmn10 (b := b) (f := fZ) (e := uZ) (by (first | decide +kernel | omega))).symm⟩)⟩⟩
        ·
          refine V_iconst 0 d_Tape_isName_54 (by decide) ?_
          exact V_zret rfl (by decide) d_Tape_isName_55 ⟨0, rfl, ⟨rfl, (Or.inr ⟨by (first | decide +kernel | omega), tc_0.trans (x_nmn10 (b := b) (f := fZ) (e := uZ) (by (first | decide +kernel | omega))).symm⟩)⟩⟩
    ·
      refine V_iconst 0 d_Tape_isName_26 (by decide) ?_
      exact V_zret rfl (by decide) d_Tape_isName_27 ⟨0, rfl, ⟨rfl, (if q : qZ = 1 then Or.inr ⟨q, tc_0.trans (x_nmn10 (b := b) (f := fZ) (e := uZ) (by (first | decide +kernel | omega))).symm⟩ else Or.inl ⟨q, rfl⟩)⟩⟩
abbrev q_Tape_isNameX_11 (h : Hp) (b : Int → Int) (s : Int32) (sZ : Int) (q : Int32) (qZ : Int) (f : Int32) (fZ : Int) (u : Int32) (uZ : Int) : Option Value → Hp → Prop := pInt (fun r h' => h = h' ∧ (qZ ≠ 1 ∧ r.toInt = 0 ∨ qZ = 1 ∧ r.toInt = x_nm11 b fZ uZ))
set_option maxRecDepth 100000 in
theorem c_Tape_isNameX_11 (h : Hp) (b : Int → Int) (hI : Inv h) (s : Int32) (sZ : Int) (sE : s.toInt = sZ) (sK : h.1 89 1 = s) (q : Int32) (qZ : Int) (qE : q.toInt = qZ) (qK : h.1 89 2 = q) (f : Int32) (fZ : Int) (fE : f.toInt = fZ) (fK : h.1 89 3 = f) (u : Int32) (uZ : Int) (uE : u.toInt = uZ) (uK : h.1 89 4 = u) (hy0 : TP h 90 sZ b) (hy1 : 0 ≤ fZ ∧ fZ ≤ uZ ∧ uZ ≤ sZ ∧ sZ ≤ 160) : Ct y_Tape_isName b_Tape_isName 4 (some .boolean) 4 85 [.ref 89, .ref (135 + 11)] h (q_Tape_isNameX_11 h b s sZ q qZ f fZ u uZ) := by
  refine ct_ow R_Tape [some (.ref 89), some (.ref (135 + 11)), none, none] rfl (by decide) rfl (Nat.le_of_ble_eq_true rfl) ?_
  have f0 : fr [] h h := fr_rf
  have g1 : 0 ≤ sZ ∧ sZ ≤ 160 := inv_at hI sE sK.symm rfl
  have g2 : 0 ≤ fZ ∧ fZ ≤ 160 := inv_at hI fE fK.symm rfl
  have g3 : 0 ≤ uZ ∧ uZ ≤ 160 := inv_at hI uE uK.symm rfl
  have sH : 11 < 14 := by decide
  refine V_aload_n 1 d_Tape_isName_0 rfl rfl ?_
  refine N_callVSI [] [] cv_Tape_41 sH rfl d_Tape_isName_1 rfl (Nat.le_of_ble_eq_true rfl) (by decide) (by decide) (c_Str_length h 11 sH) (fun z4 h5 z4Z z4E p6 => ?_)
  obtain ⟨eh5, p6⟩ := p6
  subst eh5
  rw [z4E] at p6
  obtain rfl : z4 = 5 := (ti_eq z4E (show (5 : Int32).toInt = 5 from rfl)).mpr (p6.trans rfl)
  refine V_istore_n 2 [some (.ref 89), some (.ref (135 + 11)), some (.int 5), none] d_Tape_isName_4 rfl (by decide) rfl rfl ?_
  refine V_aload_n 0 d_Tape_isName_5 rfl rfl ?_
  refine N_getK fa_Tape_25 sk_89 rfl d_Tape_isName_6 qK ?_
  refine V_iconst 1 d_Tape_isName_9 (by decide) ?_
  refine V_icmp_ne 26 qE tc_1 d_Tape_isName_10 (by decide) (fun c7 => ?_) (fun c7 => ?_)
  ·
    refine V_iconst 0 d_Tape_isName_26 (by decide) ?_
    exact V_zret rfl (by decide) d_Tape_isName_27 ⟨0, rfl, ⟨rfl, (if q : qZ = 1 then Or.inr ⟨q, tc_0.trans (x_nmn11 (b := b) (f := fZ) (e := uZ) (by (first | decide +kernel | omega))).symm⟩ else Or.inl ⟨q, rfl⟩)⟩⟩
  ·
    refine V_aload_n 0 d_Tape_isName_13 rfl rfl ?_
    refine N_getK fa_Tape_15 sk_89 rfl d_Tape_isName_14 uK ?_
    refine V_aload_n 0 d_Tape_isName_17 rfl rfl ?_
    refine N_getK fa_Tape_19 sk_89 rfl d_Tape_isName_18 fK ?_
    refine V_isub uE fE (by (first | decide +kernel | omega)) d_Tape_isName_21 (fun z8 z8e z8E => ?_)
    refine V_iload_n 2 d_Tape_isName_22 rfl rfl ?_
    refine V_icmp_eq 28 z8E tc_5 d_Tape_isName_23 (by decide) (fun c9 => ?_) (fun c9 => ?_)
    ·
      refine V_iconst 0 d_Tape_isName_28 (by decide) ?_
      refine V_istore_n 3 [some (.ref 89), some (.ref (135 + 11)), some (.int 5), some (.int 0)] d_Tape_isName_29 rfl (by decide) rfl rfl ?_
      refine V_iload_n 3 d_Tape_isName_30 rfl rfl ?_
      refine V_iload_n 2 d_Tape_isName_31 rfl rfl ?_
      refine V_icmp_ge 62 tc_0 tc_5 d_Tape_isName_32 (by decide) (fun c10 => ?_) (fun c10 => ?_)
      ·
        exact absurd c10 (by decide)
      ·
        refine V_aload_n 0 d_Tape_isName_35 rfl rfl ?_
        refine V_getR fa_Tape_9 sk_89 rfl d_Tape_isName_36 ?_
        refine V_aload_n 0 d_Tape_isName_39 rfl rfl ?_
        refine N_getK fa_Tape_19 sk_89 rfl d_Tape_isName_40 fK ?_
        refine V_iload_n 3 d_Tape_isName_43 rfl rfl ?_
        refine V_iadd fE tc_0 (by (first | decide +kernel | omega)) d_Tape_isName_44 (fun z11 z11e z11E => ?_)
        refine N_bald sk_90 z11E (by (first | decide +kernel | omega)) d_Tape_isName_45 (fun z12 z12Z z12E z12e => ?_)
        have g13 : z12Z = b (fZ + 0) := TP_rd (TP_fr f0 (fun _ => rfl) hy0) (by (first | decide +kernel | omega)) z12E z12e
        refine V_aload_n 1 d_Tape_isName_46 rfl rfl ?_
        refine V_iload_n 3 d_Tape_isName_47 rfl rfl ?_
        refine N_callVSI [.int 0] [.int z12] cv_Tape_47 sH rfl d_Tape_isName_48 rfl (Nat.le_of_ble_eq_true rfl) (by decide) (by decide) (c_Str_charAt h 11 sH 0 0 tc_0 (by decide)) (fun z14 h15 z14Z z14E p16 => ?_)
        obtain ⟨eh15, p16⟩ := p16
        subst eh15
        obtain rfl : z14 = 115 := p16.trans rfl
        refine V_icmp_eq 56 z12E tc_115 d_Tape_isName_51 (by decide) (fun c17 => ?_) (fun c17 => ?_)
        ·
          refine V_iinc (v := 1) 3 [some (.ref 89), some (.ref (135 + 11)), some (.int 5), some (.int 1)] d_Tape_isName_56 rfl (by decide) (by decide) rfl rfl ?_
          refine V_goto 30 d_Tape_isName_59 (by decide) ?_
          refine V_iload_n 3 d_Tape_isName_30 rfl rfl ?_
          refine V_iload_n 2 d_Tape_isName_31 rfl rfl ?_
          refine V_icmp_ge 62 tc_1 tc_5 d_Tape_isName_32 (by decide) (fun c19 => ?_) (fun c19 => ?_)
          ·
            exact absurd c19 (by decide)
          ·
            refine V_aload_n 0 d_Tape_isName_35 rfl rfl ?_
            refine V_getR fa_Tape_9 sk_89 rfl d_Tape_isName_36 ?_
            refine V_aload_n 0 d_Tape_isName_39 rfl rfl ?_
            refine N_getK fa_Tape_19 sk_89 rfl d_Tape_isName_40 fK ?_
            refine V_iload_n 3 d_Tape_isName_43 rfl rfl ?_
            refine V_iadd fE tc_1 (by (first | decide +kernel | omega)) d_Tape_isName_44 (fun z20 z20e z20E => ?_)
            refine N_bald sk_90 z20E (by (first | decide +kernel | omega)) d_Tape_isName_45 (fun z21 z21Z z21E z21e => ?_)
            have g22 : z21Z = b (fZ + 1) := TP_rd (TP_fr f0 (fun _ => rfl) hy0) (by (first | decide +kernel | omega)) z21E z21e
            refine V_aload_n 1 d_Tape_isName_46 rfl rfl ?_
            refine V_iload_n 3 d_Tape_isName_47 rfl rfl ?_
            refine N_callVSI [.int 1] [.int z21] cv_Tape_47 sH rfl d_Tape_isName_48 rfl (Nat.le_of_ble_eq_true rfl) (by decide) (by decide) (c_Str_charAt h 11 sH 1 1 tc_1 (by decide)) (fun z23 h24 z23Z z23E p25 => ?_)
            obtain ⟨eh24, p25⟩ := p25
            subst eh24
            obtain rfl : z23 = 116 := p25.trans rfl
            refine V_icmp_eq 56 z21E tc_116 d_Tape_isName_51 (by decide) (fun c26 => ?_) (fun c26 => ?_)
            ·
              refine V_iinc (v := 2) 3 [some (.ref 89), some (.ref (135 + 11)), some (.int 5), some (.int 2)] d_Tape_isName_56 rfl (by decide) (by decide) rfl rfl ?_
              refine V_goto 30 d_Tape_isName_59 (by decide) ?_
              refine V_iload_n 3 d_Tape_isName_30 rfl rfl ?_
              refine V_iload_n 2 d_Tape_isName_31 rfl rfl ?_
              refine V_icmp_ge 62 tc_2 tc_5 d_Tape_isName_32 (by decide) (fun c28 => ?_) (fun c28 => ?_)
              ·
                exact absurd c28 (by decide)
              ·
                refine V_aload_n 0 d_Tape_isName_35 rfl rfl ?_
                refine V_getR fa_Tape_9 sk_89 rfl d_Tape_isName_36 ?_
                refine V_aload_n 0 d_Tape_isName_39 rfl rfl ?_
                refine N_getK fa_Tape_19 sk_89 rfl d_Tape_isName_40 fK ?_
                refine V_iload_n 3 d_Tape_isName_43 rfl rfl ?_
                refine V_iadd fE tc_2 (by (first | decide +kernel | omega)) d_Tape_isName_44 (fun z29 z29e z29E => ?_)
                refine N_bald sk_90 z29E (by (first | decide +kernel | omega)) d_Tape_isName_45 (fun z30 z30Z z30E z30e => ?_)
                have g31 : z30Z = b (fZ + 2) := TP_rd (TP_fr f0 (fun _ => rfl) hy0) (by (first | decide +kernel | omega)) z30E z30e
                refine V_aload_n 1 d_Tape_isName_46 rfl rfl ?_
                refine V_iload_n 3 d_Tape_isName_47 rfl rfl ?_
                refine N_callVSI [.int 2] [.int z30] cv_Tape_47 sH rfl d_Tape_isName_48 rfl (Nat.le_of_ble_eq_true rfl) (by decide) (by decide) (c_Str_charAt h 11 sH 2 2 tc_2 (by decide)) (fun z32 h33 z32Z z32E p34 => ?_)
                obtain ⟨eh33, p34⟩ := p34
                subst eh33
                obtain rfl : z32 = 101 := p34.trans rfl
                refine V_icmp_eq 56 z30E tc_101 d_Tape_isName_51 (by decide) (fun c35 => ?_) (fun c35 => ?_)
                ·
                  refine V_iinc (v := 3) 3 [some (.ref 89), some (.ref (135 + 11)), some (.int 5), some (.int 3)] d_Tape_isName_56 rfl (by decide) (by decide) rfl rfl ?_
                  refine V_goto 30 d_Tape_isName_59 (by decide) ?_
                  refine V_iload_n 3 d_Tape_isName_30 rfl rfl ?_
                  refine V_iload_n 2 d_Tape_isName_31 rfl rfl ?_
                  refine V_icmp_ge 62 tc_3 tc_5 d_Tape_isName_32 (by decide) (fun c37 => ?_) (fun c37 => ?_)
                  ·
                    exact absurd c37 (by decide)
                  ·
                    refine V_aload_n 0 d_Tape_isName_35 rfl rfl ?_
                    refine V_getR fa_Tape_9 sk_89 rfl d_Tape_isName_36 ?_
                    refine V_aload_n 0 d_Tape_isName_39 rfl rfl ?_
                    refine N_getK fa_Tape_19 sk_89 rfl d_Tape_isName_40 fK ?_
                    refine V_iload_n 3 d_Tape_isName_43 rfl rfl ?_
                    refine V_iadd fE tc_3 (by (first | decide +kernel | omega)) d_Tape_isName_44 (fun z38 z38e z38E => ?_)
                    refine N_bald sk_90 z38E (by (first | decide +kernel | omega)) d_Tape_isName_45 (fun z39 z39Z z39E z39e => ?_)
                    have g40 : z39Z = b (fZ + 3) := TP_rd (TP_fr f0 (fun _ => rfl) hy0) (by (first | decide +kernel | omega)) z39E z39e
                    refine V_aload_n 1 d_Tape_isName_46 rfl rfl ?_
                    refine V_iload_n 3 d_Tape_isName_47 rfl rfl ?_
                    refine N_callVSI [.int 3] [.int z39] cv_Tape_47 sH rfl d_Tape_isName_48 rfl (Nat.le_of_ble_eq_true rfl) (by decide) (by decide) (c_Str_charAt h 11 sH 3 3 tc_3 (by decide)) (fun z41 h42 z41Z z41E p43 => ?_)
                    obtain ⟨eh42, p43⟩ := p43
                    subst eh42
                    obtain rfl : z41 = 112 := p43.trans rfl
                    refine V_icmp_eq 56 z39E tc_112 d_Tape_isName_51 (by decide) (fun c44 => ?_) (fun c44 => ?_)
                    ·
                      refine V_iinc (v := 4) 3 [some (.ref 89), some (.ref (135 + 11)), some (.int 5), some (.int 4)] d_Tape_isName_56 rfl (by decide) (by decide) rfl rfl ?_
                      refine V_goto 30 d_Tape_isName_59 (by decide) ?_
                      refine V_iload_n 3 d_Tape_isName_30 rfl rfl ?_
                      refine V_iload_n 2 d_Tape_isName_31 rfl rfl ?_
                      refine V_icmp_ge 62 tc_4 tc_5 d_Tape_isName_32 (by decide) (fun c46 => ?_) (fun c46 => ?_)
                      ·
                        exact absurd c46 (by decide)
                      ·
                        refine V_aload_n 0 d_Tape_isName_35 rfl rfl ?_
                        refine V_getR fa_Tape_9 sk_89 rfl d_Tape_isName_36 ?_
                        refine V_aload_n 0 d_Tape_isName_39 rfl rfl ?_
                        refine N_getK fa_Tape_19 sk_89 rfl d_Tape_isName_40 fK ?_
                        refine V_iload_n 3 d_Tape_isName_43 rfl rfl ?_
                        refine V_iadd fE tc_4 (by (first | decide +kernel | omega)) d_Tape_isName_44 (fun z47 z47e z47E => ?_)
                        refine N_bald sk_90 z47E (by (first | decide +kernel | omega)) d_Tape_isName_45 (fun z48 z48Z z48E z48e => ?_)
                        have g49 : z48Z = b (fZ + 4) := TP_rd (TP_fr f0 (fun _ => rfl) hy0) (by (first | decide +kernel | omega)) z48E z48e
                        refine V_aload_n 1 d_Tape_isName_46 rfl rfl ?_
                        refine V_iload_n 3 d_Tape_isName_47 rfl rfl ?_
                        refine N_callVSI [.int 4] [.int z48] cv_Tape_47 sH rfl d_Tape_isName_48 rfl (Nat.le_of_ble_eq_true rfl) (by decide) (by decide) (c_Str_charAt h 11 sH 4 4 tc_4 (by decide)) (fun z50 h51 z50Z z50E p52 => ?_)
                        obtain ⟨eh51, p52⟩ := p52
                        subst eh51
                        obtain rfl : z50 = 115 := p52.trans rfl
                        refine V_icmp_eq 56 z48E tc_115 d_Tape_isName_51 (by decide) (fun c53 => ?_) (fun c53 => ?_)
                        ·
                          refine V_iinc (v := 5) 3 [some (.ref 89), some (.ref (135 + 11)), some (.int 5), some (.int 5)] d_Tape_isName_56 rfl (by decide) (by decide) rfl rfl ?_
                          refine V_goto 30 d_Tape_isName_59 (by decide) ?_
                          refine V_iload_n 3 d_Tape_isName_30 rfl rfl ?_
                          refine V_iload_n 2 d_Tape_isName_31 rfl rfl ?_
                          refine V_icmp_ge 62 tc_5 tc_5 d_Tape_isName_32 (by decide) (fun c55 => ?_) (fun c55 => ?_)
                          ·
                            refine V_iconst 1 d_Tape_isName_62 (by decide) ?_
                            exact V_zret rfl (by decide) d_Tape_isName_63 ⟨1, rfl, ⟨rfl, (Or.inr ⟨by (first | decide +kernel | omega), tc_1.trans (x_nmy11 (b := b) (f := fZ) (e := uZ) (by (first | decide +kernel | omega))).symm⟩)⟩⟩
                          ·
                            exact absurd c55 (by decide)
                        ·
                          refine V_iconst 0 d_Tape_isName_54 (by decide) ?_
                          exact V_zret rfl (by decide) d_Tape_isName_55 ⟨0, rfl, ⟨rfl, (Or.inr ⟨by (first | decide +kernel | omega), tc_0.trans (x_nmn11 (b := b) (f := fZ) (e := uZ) (by (first | decide +kernel | omega))).symm⟩)⟩⟩
                    ·
                      refine V_iconst 0 d_Tape_isName_54 (by decide) ?_
                      exact V_zret rfl (by decide) d_Tape_isName_55 ⟨0, rfl, ⟨rfl, (Or.inr ⟨by (first | decide +kernel | omega), tc_0.trans (x_nmn11 (b := b) (f := fZ) (e := uZ) (by (first | decide +kernel | omega))).symm⟩)⟩⟩
                ·
                  refine V_iconst 0 d_Tape_isName_54 (by decide) ?_
                  exact V_zret rfl (by decide) d_Tape_isName_55 ⟨0, rfl, ⟨rfl, (Or.inr ⟨by (first | decide +kernel | omega), tc_0.trans (x_nmn11 (b := b) (f := fZ) (e := uZ) (by (first | decide +kernel | omega))).symm⟩)⟩⟩
            ·
              refine V_iconst 0 d_Tape_isName_54 (by decide) ?_
              exact V_zret rfl (by decide) d_Tape_isName_55 ⟨0, rfl, ⟨rfl, (Or.inr ⟨by (first | decide +kernel | omega), tc_0.trans (x_nmn11 (b := b) (f := fZ) (e := uZ) (by (first | decide +kernel | omega))).symm⟩)⟩⟩
        ·
          refine V_iconst 0 d_Tape_isName_54 (by decide) ?_
          exact V_zret rfl (by decide) d_Tape_isName_55 ⟨0, rfl, ⟨rfl, (Or.inr ⟨by (first | decide +kernel | omega), tc_0.trans (x_nmn11 (b := b) (f := fZ) (e := uZ) (by (first | decide +kernel | omega))).symm⟩)⟩⟩
    ·
      refine V_iconst 0 d_Tape_isName_26 (by decide) ?_
      exact V_zret rfl (by decide) d_Tape_isName_27 ⟨0, rfl, ⟨rfl, (if q : qZ = 1 then Or.inr ⟨q, tc_0.trans (x_nmn11 (b := b) (f := fZ) (e := uZ) (by (first | decide +kernel | omega))).symm⟩ else Or.inl ⟨q, rfl⟩)⟩⟩
abbrev q_Tape_isNameX_12 (h : Hp) (b : Int → Int) (s : Int32) (sZ : Int) (q : Int32) (qZ : Int) (f : Int32) (fZ : Int) (u : Int32) (uZ : Int) : Option Value → Hp → Prop := pInt (fun r h' => h = h' ∧ (qZ ≠ 1 ∧ r.toInt = 0 ∨ qZ = 1 ∧ r.toInt = x_nm12 b fZ uZ))
set_option maxRecDepth 100000 in
theorem c_Tape_isNameX_12 (h : Hp) (b : Int → Int) (hI : Inv h) (s : Int32) (sZ : Int) (sE : s.toInt = sZ) (sK : h.1 89 1 = s) (q : Int32) (qZ : Int) (qE : q.toInt = qZ) (qK : h.1 89 2 = q) (f : Int32) (fZ : Int) (fE : f.toInt = fZ) (fK : h.1 89 3 = f) (u : Int32) (uZ : Int) (uE : u.toInt = uZ) (uK : h.1 89 4 = u) (hy0 : TP h 90 sZ b) (hy1 : 0 ≤ fZ ∧ fZ ≤ uZ ∧ uZ ≤ sZ ∧ sZ ≤ 160) : Ct y_Tape_isName b_Tape_isName 4 (some .boolean) 4 85 [.ref 89, .ref (135 + 12)] h (q_Tape_isNameX_12 h b s sZ q qZ f fZ u uZ) := by
  refine ct_ow R_Tape [some (.ref 89), some (.ref (135 + 12)), none, none] rfl (by decide) rfl (Nat.le_of_ble_eq_true rfl) ?_
  have f0 : fr [] h h := fr_rf
  have g1 : 0 ≤ sZ ∧ sZ ≤ 160 := inv_at hI sE sK.symm rfl
  have g2 : 0 ≤ fZ ∧ fZ ≤ 160 := inv_at hI fE fK.symm rfl
  have g3 : 0 ≤ uZ ∧ uZ ≤ 160 := inv_at hI uE uK.symm rfl
  have sH : 12 < 14 := by decide
  refine V_aload_n 1 d_Tape_isName_0 rfl rfl ?_
  refine N_callVSI [] [] cv_Tape_41 sH rfl d_Tape_isName_1 rfl (Nat.le_of_ble_eq_true rfl) (by decide) (by decide) (c_Str_length h 12 sH) (fun z4 h5 z4Z z4E p6 => ?_)
  obtain ⟨eh5, p6⟩ := p6
  subst eh5
  rw [z4E] at p6
  obtain rfl : z4 = 6 := (ti_eq z4E (show (6 : Int32).toInt = 6 from rfl)).mpr (p6.trans rfl)
  refine V_istore_n 2 [some (.ref 89), some (.ref (135 + 12)), some (.int 6), none] d_Tape_isName_4 rfl (by decide) rfl rfl ?_
  refine V_aload_n 0 d_Tape_isName_5 rfl rfl ?_
  refine N_getK fa_Tape_25 sk_89 rfl d_Tape_isName_6 qK ?_
  refine V_iconst 1 d_Tape_isName_9 (by decide) ?_
  refine V_icmp_ne 26 qE tc_1 d_Tape_isName_10 (by decide) (fun c7 => ?_) (fun c7 => ?_)
  ·
    refine V_iconst 0 d_Tape_isName_26 (by decide) ?_
    exact V_zret rfl (by decide) d_Tape_isName_27 ⟨0, rfl, ⟨rfl, (if q : qZ = 1 then Or.inr ⟨q, tc_0.trans (x_nmn12 (b := b) (f := fZ) (e := uZ) (by (first | decide +kernel | omega))).symm⟩ else Or.inl ⟨q, rfl⟩)⟩⟩
  ·
    refine V_aload_n 0 d_Tape_isName_13 rfl rfl ?_
    refine N_getK fa_Tape_15 sk_89 rfl d_Tape_isName_14 uK ?_
    refine V_aload_n 0 d_Tape_isName_17 rfl rfl ?_
    refine N_getK fa_Tape_19 sk_89 rfl d_Tape_isName_18 fK ?_
    refine V_isub uE fE (by (first | decide +kernel | omega)) d_Tape_isName_21 (fun z8 z8e z8E => ?_)
    refine V_iload_n 2 d_Tape_isName_22 rfl rfl ?_
    refine V_icmp_eq 28 z8E tc_6 d_Tape_isName_23 (by decide) (fun c9 => ?_) (fun c9 => ?_)
    ·
      refine V_iconst 0 d_Tape_isName_28 (by decide) ?_
      refine V_istore_n 3 [some (.ref 89), some (.ref (135 + 12)), some (.int 6), some (.int 0)] d_Tape_isName_29 rfl (by decide) rfl rfl ?_
      refine V_iload_n 3 d_Tape_isName_30 rfl rfl ?_
      refine V_iload_n 2 d_Tape_isName_31 rfl rfl ?_
      refine V_icmp_ge 62 tc_0 tc_6 d_Tape_isName_32 (by decide) (fun c10 => ?_) (fun c10 => ?_)
      ·
        exact absurd c10 (by decide)
      ·
        refine V_aload_n 0 d_Tape_isName_35 rfl rfl ?_
        refine V_getR fa_Tape_9 sk_89 rfl d_Tape_isName_36 ?_
        refine V_aload_n 0 d_Tape_isName_39 rfl rfl ?_
        refine N_getK fa_Tape_19 sk_89 rfl d_Tape_isName_40 fK ?_
        refine V_iload_n 3 d_Tape_isName_43 rfl rfl ?_
        refine V_iadd fE tc_0 (by (first | decide +kernel | omega)) d_Tape_isName_44 (fun z11 z11e z11E => ?_)
        refine N_bald sk_90 z11E (by (first | decide +kernel | omega)) d_Tape_isName_45 (fun z12 z12Z z12E z12e => ?_)
        have g13 : z12Z = b (fZ + 0) := TP_rd (TP_fr f0 (fun _ => rfl) hy0) (by (first | decide +kernel | omega)) z12E z12e
        refine V_aload_n 1 d_Tape_isName_46 rfl rfl ?_
        refine V_iload_n 3 d_Tape_isName_47 rfl rfl ?_
        refine N_callVSI [.int 0] [.int z12] cv_Tape_47 sH rfl d_Tape_isName_48 rfl (Nat.le_of_ble_eq_true rfl) (by decide) (by decide) (c_Str_charAt h 12 sH 0 0 tc_0 (by decide)) (fun z14 h15 z14Z z14E p16 => ?_)
        obtain ⟨eh15, p16⟩ := p16
        subst eh15
        obtain rfl : z14 = 119 := p16.trans rfl
        refine V_icmp_eq 56 z12E tc_119 d_Tape_isName_51 (by decide) (fun c17 => ?_) (fun c17 => ?_)
        ·
          refine V_iinc (v := 1) 3 [some (.ref 89), some (.ref (135 + 12)), some (.int 6), some (.int 1)] d_Tape_isName_56 rfl (by decide) (by decide) rfl rfl ?_
          refine V_goto 30 d_Tape_isName_59 (by decide) ?_
          refine V_iload_n 3 d_Tape_isName_30 rfl rfl ?_
          refine V_iload_n 2 d_Tape_isName_31 rfl rfl ?_
          refine V_icmp_ge 62 tc_1 tc_6 d_Tape_isName_32 (by decide) (fun c19 => ?_) (fun c19 => ?_)
          ·
            exact absurd c19 (by decide)
          ·
            refine V_aload_n 0 d_Tape_isName_35 rfl rfl ?_
            refine V_getR fa_Tape_9 sk_89 rfl d_Tape_isName_36 ?_
            refine V_aload_n 0 d_Tape_isName_39 rfl rfl ?_
            refine N_getK fa_Tape_19 sk_89 rfl d_Tape_isName_40 fK ?_
            refine V_iload_n 3 d_Tape_isName_43 rfl rfl ?_
            refine V_iadd fE tc_1 (by (first | decide +kernel | omega)) d_Tape_isName_44 (fun z20 z20e z20E => ?_)
            refine N_bald sk_90 z20E (by (first | decide +kernel | omega)) d_Tape_isName_45 (fun z21 z21Z z21E z21e => ?_)
            have g22 : z21Z = b (fZ + 1) := TP_rd (TP_fr f0 (fun _ => rfl) hy0) (by (first | decide +kernel | omega)) z21E z21e
            refine V_aload_n 1 d_Tape_isName_46 rfl rfl ?_
            refine V_iload_n 3 d_Tape_isName_47 rfl rfl ?_
            refine N_callVSI [.int 1] [.int z21] cv_Tape_47 sH rfl d_Tape_isName_48 rfl (Nat.le_of_ble_eq_true rfl) (by decide) (by decide) (c_Str_charAt h 12 sH 1 1 tc_1 (by decide)) (fun z23 h24 z23Z z23E p25 => ?_)
            obtain ⟨eh24, p25⟩ := p25
            subst eh24
            obtain rfl : z23 = 105 := p25.trans rfl
            refine V_icmp_eq 56 z21E tc_105 d_Tape_isName_51 (by decide) (fun c26 => ?_) (fun c26 => ?_)
            ·
              refine V_iinc (v := 2) 3 [some (.ref 89), some (.ref (135 + 12)), some (.int 6), some (.int 2)] d_Tape_isName_56 rfl (by decide) (by decide) rfl rfl ?_
              refine V_goto 30 d_Tape_isName_59 (by decide) ?_
              refine V_iload_n 3 d_Tape_isName_30 rfl rfl ?_
              refine V_iload_n 2 d_Tape_isName_31 rfl rfl ?_
              refine V_icmp_ge 62 tc_2 tc_6 d_Tape_isName_32 (by decide) (fun c28 => ?_) (fun c28 => ?_)
              ·
                exact absurd c28 (by decide)
              ·
                refine V_aload_n 0 d_Tape_isName_35 rfl rfl ?_
                refine V_getR fa_Tape_9 sk_89 rfl d_Tape_isName_36 ?_
                refine V_aload_n 0 d_Tape_isName_39 rfl rfl ?_
                refine N_getK fa_Tape_19 sk_89 rfl d_Tape_isName_40 fK ?_
                refine V_iload_n 3 d_Tape_isName_43 rfl rfl ?_
                refine V_iadd fE tc_2 (by (first | decide +kernel | omega)) d_Tape_isName_44 (fun z29 z29e z29E => ?_)
                refine N_bald sk_90 z29E (by (first | decide +kernel | omega)) d_Tape_isName_45 (fun z30 z30Z z30E z30e => ?_)
                have g31 : z30Z = b (fZ + 2) := TP_rd (TP_fr f0 (fun _ => rfl) hy0) (by (first | decide +kernel | omega)) z30E z30e
                refine V_aload_n 1 d_Tape_isName_46 rfl rfl ?_
                refine V_iload_n 3 d_Tape_isName_47 rfl rfl ?_
                refine N_callVSI [.int 2] [.int z30] cv_Tape_47 sH rfl d_Tape_isName_48 rfl (Nat.le_of_ble_eq_true rfl) (by decide) (by decide) (c_Str_charAt h 12 sH 2 2 tc_2 (by decide)) (fun z32 h33 z32Z z32E p34 => ?_)
                obtain ⟨eh33, p34⟩ := p34
                subst eh33
                obtain rfl : z32 = 115 := p34.trans rfl
                refine V_icmp_eq 56 z30E tc_115 d_Tape_isName_51 (by decide) (fun c35 => ?_) (fun c35 => ?_)
                ·
                  refine V_iinc (v := 3) 3 [some (.ref 89), some (.ref (135 + 12)), some (.int 6), some (.int 3)] d_Tape_isName_56 rfl (by decide) (by decide) rfl rfl ?_
                  refine V_goto 30 d_Tape_isName_59 (by decide) ?_
                  refine V_iload_n 3 d_Tape_isName_30 rfl rfl ?_
                  refine V_iload_n 2 d_Tape_isName_31 rfl rfl ?_
                  refine V_icmp_ge 62 tc_3 tc_6 d_Tape_isName_32 (by decide) (fun c37 => ?_) (fun c37 => ?_)
                  ·
                    exact absurd c37 (by decide)
                  ·
                    refine V_aload_n 0 d_Tape_isName_35 rfl rfl ?_
                    refine V_getR fa_Tape_9 sk_89 rfl d_Tape_isName_36 ?_
                    refine V_aload_n 0 d_Tape_isName_39 rfl rfl ?_
                    refine N_getK fa_Tape_19 sk_89 rfl d_Tape_isName_40 fK ?_
                    refine V_iload_n 3 d_Tape_isName_43 rfl rfl ?_
                    refine V_iadd fE tc_3 (by (first | decide +kernel | omega)) d_Tape_isName_44 (fun z38 z38e z38E => ?_)
                    refine N_bald sk_90 z38E (by (first | decide +kernel | omega)) d_Tape_isName_45 (fun z39 z39Z z39E z39e => ?_)
                    have g40 : z39Z = b (fZ + 3) := TP_rd (TP_fr f0 (fun _ => rfl) hy0) (by (first | decide +kernel | omega)) z39E z39e
                    refine V_aload_n 1 d_Tape_isName_46 rfl rfl ?_
                    refine V_iload_n 3 d_Tape_isName_47 rfl rfl ?_
                    refine N_callVSI [.int 3] [.int z39] cv_Tape_47 sH rfl d_Tape_isName_48 rfl (Nat.le_of_ble_eq_true rfl) (by decide) (by decide) (c_Str_charAt h 12 sH 3 3 tc_3 (by decide)) (fun z41 h42 z41Z z41E p43 => ?_)
                    obtain ⟨eh42, p43⟩ := p43
                    subst eh42
                    obtain rfl : z41 = 104 := p43.trans rfl
                    refine V_icmp_eq 56 z39E tc_104 d_Tape_isName_51 (by decide) (fun c44 => ?_) (fun c44 => ?_)
                    ·
                      refine V_iinc (v := 4) 3 [some (.ref 89), some (.ref (135 + 12)), some (.int 6), some (.int 4)] d_Tape_isName_56 rfl (by decide) (by decide) rfl rfl ?_
                      refine V_goto 30 d_Tape_isName_59 (by decide) ?_
                      refine V_iload_n 3 d_Tape_isName_30 rfl rfl ?_
                      refine V_iload_n 2 d_Tape_isName_31 rfl rfl ?_
                      refine V_icmp_ge 62 tc_4 tc_6 d_Tape_isName_32 (by decide) (fun c46 => ?_) (fun c46 => ?_)
                      ·
                        exact absurd c46 (by decide)
                      ·
                        refine V_aload_n 0 d_Tape_isName_35 rfl rfl ?_
                        refine V_getR fa_Tape_9 sk_89 rfl d_Tape_isName_36 ?_
                        refine V_aload_n 0 d_Tape_isName_39 rfl rfl ?_
                        refine N_getK fa_Tape_19 sk_89 rfl d_Tape_isName_40 fK ?_
                        refine V_iload_n 3 d_Tape_isName_43 rfl rfl ?_
                        refine V_iadd fE tc_4 (by (first | decide +kernel | omega)) d_Tape_isName_44 (fun z47 z47e z47E => ?_)
                        refine N_bald sk_90 z47E (by (first | decide +kernel | omega)) d_Tape_isName_45 (fun z48 z48Z z48E z48e => ?_)
                        have g49 : z48Z = b (fZ + 4) := TP_rd (TP_fr f0 (fun _ => rfl) hy0) (by (first | decide +kernel | omega)) z48E z48e
                        refine V_aload_n 1 d_Tape_isName_46 rfl rfl ?_
                        refine V_iload_n 3 d_Tape_isName_47 rfl rfl ?_
                        refine N_callVSI [.int 4] [.int z48] cv_Tape_47 sH rfl d_Tape_isName_48 rfl (Nat.le_of_ble_eq_true rfl) (by decide) (by decide) (c_Str_charAt h 12 sH 4 4 tc_4 (by decide)) (fun z50 h51 z50Z z50E p52 => ?_)
                        obtain ⟨eh51, p52⟩ := p52
                        subst eh51
                        obtain rfl : z50 = 101 := p52.trans rfl
                        refine V_icmp_eq 56 z48E tc_101 d_Tape_isName_51 (by decide) (fun c53 => ?_) (fun c53 => ?_)
                        ·
                          refine V_iinc (v := 5) 3 [some (.ref 89), some (.ref (135 + 12)), some (.int 6), some (.int 5)] d_Tape_isName_56 rfl (by decide) (by decide) rfl rfl ?_
                          refine V_goto 30 d_Tape_isName_59 (by decide) ?_
                          refine V_iload_n 3 d_Tape_isName_30 rfl rfl ?_
                          refine V_iload_n 2 d_Tape_isName_31 rfl rfl ?_
                          refine V_icmp_ge 62 tc_5 tc_6 d_Tape_isName_32 (by decide) (fun c55 => ?_) (fun c55 => ?_)
                          ·
                            exact absurd c55 (by decide)
                          ·
                            refine V_aload_n 0 d_Tape_isName_35 rfl rfl ?_
                            refine V_getR fa_Tape_9 sk_89 rfl d_Tape_isName_36 ?_
                            refine V_aload_n 0 d_Tape_isName_39 rfl rfl ?_
                            refine N_getK fa_Tape_19 sk_89 rfl d_Tape_isName_40 fK ?_
                            refine V_iload_n 3 d_Tape_isName_43 rfl rfl ?_
                            refine V_iadd fE tc_5 (by (first | decide +kernel | omega)) d_Tape_isName_44 (fun z56 z56e z56E => ?_)
                            refine N_bald sk_90 z56E (by (first | decide +kernel | omega)) d_Tape_isName_45 (fun z57 z57Z z57E z57e => ?_)
                            have g58 : z57Z = b (fZ + 5) := TP_rd (TP_fr f0 (fun _ => rfl) hy0) (by (first | decide +kernel | omega)) z57E z57e
                            refine V_aload_n 1 d_Tape_isName_46 rfl rfl ?_
                            refine V_iload_n 3 d_Tape_isName_47 rfl rfl ?_
                            refine N_callVSI [.int 5] [.int z57] cv_Tape_47 sH rfl d_Tape_isName_48 rfl (Nat.le_of_ble_eq_true rfl) (by decide) (by decide) (c_Str_charAt h 12 sH 5 5 tc_5 (by decide)) (fun z59 h60 z59Z z59E p61 => ?_)
                            obtain ⟨eh60, p61⟩ := p61
                            subst eh60
                            obtain rfl : z59 = 115 := p61.trans rfl
                            refine V_icmp_eq 56 z57E tc_115 d_Tape_isName_51 (by decide) (fun c62 => ?_) (fun c62 => ?_)
                            ·
                              refine V_iinc (v := 6) 3 [some (.ref 89), some (.ref (135 + 12)), some (.int 6), some (.int 6)] d_Tape_isName_56 rfl (by decide) (by decide) rfl rfl ?_
                              refine V_goto 30 d_Tape_isName_59 (by decide) ?_
                              refine V_iload_n 3 d_Tape_isName_30 rfl rfl ?_
                              refine V_iload_n 2 d_Tape_isName_31 rfl rfl ?_
                              refine V_icmp_ge 62 tc_6 tc_6 d_Tape_isName_32 (by decide) (fun c64 => ?_) (fun c64 => ?_)
                              ·
                                refine V_iconst 1 d_Tape_isName_62 (by decide) ?_
                                exact V_zret rfl (by decide) d_Tape_isName_63 ⟨1, rfl, ⟨rfl, (Or.inr ⟨by (first | decide +kernel | omega), tc_1.trans (x_nmy12 (b := b) (f := fZ) (e := uZ) (by (first | decide +kernel | omega))).symm⟩)⟩⟩
                              ·
                                exact absurd c64 (by decide)
                            ·
                              refine V_iconst 0 d_Tape_isName_54 (by decide) ?_
                              exact V_zret rfl (by decide) d_Tape_isName_55 ⟨0, rfl, ⟨rfl, (Or.inr ⟨by (first | decide +kernel | omega), tc_0.trans (x_nmn12 (b := b) (f := fZ) (e := uZ) (by (first | decide +kernel | omega))).symm⟩)⟩⟩
                        ·
                          refine V_iconst 0 d_Tape_isName_54 (by decide) ?_
                          exact V_zret rfl (by decide) d_Tape_isName_55 ⟨0, rfl, ⟨rfl, (Or.inr ⟨by (first | decide +kernel | omega), tc_0.trans (x_nmn12 (b := b) (f := fZ) (e := uZ) (by (first | decide +kernel | omega))).symm⟩)⟩⟩
                    ·
                      refine V_iconst 0 d_Tape_isName_54 (by decide) ?_
                      exact V_zret rfl (by decide) d_Tape_isName_55 ⟨0, rfl, ⟨rfl, (Or.inr ⟨by (first | decide +kernel | omega), tc_0.trans (x_nmn12 (b := b) (f := fZ) (e := uZ) (by (first | decide +kernel | omega))).symm⟩)⟩⟩
                ·
                  refine V_iconst 0 d_Tape_isName_54 (by decide) ?_
                  exact V_zret rfl (by decide) d_Tape_isName_55 ⟨0, rfl, ⟨rfl, (Or.inr ⟨by (first | decide +kernel | omega), tc_0.trans (x_nmn12 (b := b) (f := fZ) (e := uZ) (by (first | decide +kernel | omega))).symm⟩)⟩⟩
            ·
              refine V_iconst 0 d_Tape_isName_54 (by decide) ?_
              exact V_zret rfl (by decide) d_Tape_isName_55 ⟨0, rfl, ⟨rfl, (Or.inr ⟨by (first | decide +kernel | omega), tc_0.trans (x_nmn12 (b := b) (f := fZ) (e := uZ) (by (first | decide +kernel | omega))).symm⟩)⟩⟩
        ·
          refine V_iconst 0 d_Tape_isName_54 (by decide) ?_
          exact V_zret rfl (by decide) d_Tape_isName_55 ⟨0, rfl, ⟨rfl, (Or.inr ⟨by (first | decide +kernel | omega), tc_0.trans (x_nmn12 (b := b) (f := fZ) (e := uZ) (by (first | decide +kernel | omega))).symm⟩)⟩⟩
    ·
      refine V_iconst 0 d_Tape_isName_26 (by decide) ?_
      exact V_zret rfl (by decide) d_Tape_isName_27 ⟨0, rfl, ⟨rfl, (if q : qZ = 1 then Or.inr ⟨q, tc_0.trans (x_nmn12 (b := b) (f := fZ) (e := uZ) (by (first | decide +kernel | omega))).symm⟩ else Or.inl ⟨q, rfl⟩)⟩⟩
abbrev q_Tape_isNameX_13 (h : Hp) (b : Int → Int) (s : Int32) (sZ : Int) (q : Int32) (qZ : Int) (f : Int32) (fZ : Int) (u : Int32) (uZ : Int) : Option Value → Hp → Prop := pInt (fun r h' => h = h' ∧ (qZ ≠ 1 ∧ r.toInt = 0 ∨ qZ = 1 ∧ r.toInt = x_nm13 b fZ uZ))
set_option maxRecDepth 100000 in
theorem c_Tape_isNameX_13 (h : Hp) (b : Int → Int) (hI : Inv h) (s : Int32) (sZ : Int) (sE : s.toInt = sZ) (sK : h.1 89 1 = s) (q : Int32) (qZ : Int) (qE : q.toInt = qZ) (qK : h.1 89 2 = q) (f : Int32) (fZ : Int) (fE : f.toInt = fZ) (fK : h.1 89 3 = f) (u : Int32) (uZ : Int) (uE : u.toInt = uZ) (uK : h.1 89 4 = u) (hy0 : TP h 90 sZ b) (hy1 : 0 ≤ fZ ∧ fZ ≤ uZ ∧ uZ ≤ sZ ∧ sZ ≤ 160) : Ct y_Tape_isName b_Tape_isName 4 (some .boolean) 4 85 [.ref 89, .ref (135 + 13)] h (q_Tape_isNameX_13 h b s sZ q qZ f fZ u uZ) := by
  refine ct_ow R_Tape [some (.ref 89), some (.ref (135 + 13)), none, none] rfl (by decide) rfl (Nat.le_of_ble_eq_true rfl) ?_
  have f0 : fr [] h h := fr_rf
  have g1 : 0 ≤ sZ ∧ sZ ≤ 160 := inv_at hI sE sK.symm rfl
  have g2 : 0 ≤ fZ ∧ fZ ≤ 160 := inv_at hI fE fK.symm rfl
  have g3 : 0 ≤ uZ ∧ uZ ≤ 160 := inv_at hI uE uK.symm rfl
  have sH : 13 < 14 := by decide
  refine V_aload_n 1 d_Tape_isName_0 rfl rfl ?_
  refine N_callVSI [] [] cv_Tape_41 sH rfl d_Tape_isName_1 rfl (Nat.le_of_ble_eq_true rfl) (by decide) (by decide) (c_Str_length h 13 sH) (fun z4 h5 z4Z z4E p6 => ?_)
  obtain ⟨eh5, p6⟩ := p6
  subst eh5
  rw [z4E] at p6
  obtain rfl : z4 = 4 := (ti_eq z4E (show (4 : Int32).toInt = 4 from rfl)).mpr (p6.trans rfl)
  refine V_istore_n 2 [some (.ref 89), some (.ref (135 + 13)), some (.int 4), none] d_Tape_isName_4 rfl (by decide) rfl rfl ?_
  refine V_aload_n 0 d_Tape_isName_5 rfl rfl ?_
  refine N_getK fa_Tape_25 sk_89 rfl d_Tape_isName_6 qK ?_
  refine V_iconst 1 d_Tape_isName_9 (by decide) ?_
  refine V_icmp_ne 26 qE tc_1 d_Tape_isName_10 (by decide) (fun c7 => ?_) (fun c7 => ?_)
  ·
    refine V_iconst 0 d_Tape_isName_26 (by decide) ?_
    exact V_zret rfl (by decide) d_Tape_isName_27 ⟨0, rfl, ⟨rfl, (if q : qZ = 1 then Or.inr ⟨q, tc_0.trans (x_nmn13 (b := b) (f := fZ) (e := uZ) (by (first | decide +kernel | omega))).symm⟩ else Or.inl ⟨q, rfl⟩)⟩⟩
  ·
    refine V_aload_n 0 d_Tape_isName_13 rfl rfl ?_
    refine N_getK fa_Tape_15 sk_89 rfl d_Tape_isName_14 uK ?_
    refine V_aload_n 0 d_Tape_isName_17 rfl rfl ?_
    refine N_getK fa_Tape_19 sk_89 rfl d_Tape_isName_18 fK ?_
    refine V_isub uE fE (by (first | decide +kernel | omega)) d_Tape_isName_21 (fun z8 z8e z8E => ?_)
    refine V_iload_n 2 d_Tape_isName_22 rfl rfl ?_
    refine V_icmp_eq 28 z8E tc_4 d_Tape_isName_23 (by decide) (fun c9 => ?_) (fun c9 => ?_)
    ·
      refine V_iconst 0 d_Tape_isName_28 (by decide) ?_
      refine V_istore_n 3 [some (.ref 89), some (.ref (135 + 13)), some (.int 4), some (.int 0)] d_Tape_isName_29 rfl (by decide) rfl rfl ?_
      refine V_iload_n 3 d_Tape_isName_30 rfl rfl ?_
      refine V_iload_n 2 d_Tape_isName_31 rfl rfl ?_
      refine V_icmp_ge 62 tc_0 tc_4 d_Tape_isName_32 (by decide) (fun c10 => ?_) (fun c10 => ?_)
      ·
        exact absurd c10 (by decide)
      ·
        refine V_aload_n 0 d_Tape_isName_35 rfl rfl ?_
        refine V_getR fa_Tape_9 sk_89 rfl d_Tape_isName_36 ?_
        refine V_aload_n 0 d_Tape_isName_39 rfl rfl ?_
        refine N_getK fa_Tape_19 sk_89 rfl d_Tape_isName_40 fK ?_
        refine V_iload_n 3 d_Tape_isName_43 rfl rfl ?_
        refine V_iadd fE tc_0 (by (first | decide +kernel | omega)) d_Tape_isName_44 (fun z11 z11e z11E => ?_)
        refine N_bald sk_90 z11E (by (first | decide +kernel | omega)) d_Tape_isName_45 (fun z12 z12Z z12E z12e => ?_)
        have g13 : z12Z = b (fZ + 0) := TP_rd (TP_fr f0 (fun _ => rfl) hy0) (by (first | decide +kernel | omega)) z12E z12e
        refine V_aload_n 1 d_Tape_isName_46 rfl rfl ?_
        refine V_iload_n 3 d_Tape_isName_47 rfl rfl ?_
        refine N_callVSI [.int 0] [.int z12] cv_Tape_47 sH rfl d_Tape_isName_48 rfl (Nat.le_of_ble_eq_true rfl) (by decide) (by decide) (c_Str_charAt h 13 sH 0 0 tc_0 (by decide)) (fun z14 h15 z14Z z14E p16 => ?_)
        obtain ⟨eh15, p16⟩ := p16
        subst eh15
        obtain rfl : z14 = 98 := p16.trans rfl
        refine V_icmp_eq 56 z12E tc_98 d_Tape_isName_51 (by decide) (fun c17 => ?_) (fun c17 => ?_)
        ·
          refine V_iinc (v := 1) 3 [some (.ref 89), some (.ref (135 + 13)), some (.int 4), some (.int 1)] d_Tape_isName_56 rfl (by decide) (by decide) rfl rfl ?_
          refine V_goto 30 d_Tape_isName_59 (by decide) ?_
          refine V_iload_n 3 d_Tape_isName_30 rfl rfl ?_
          refine V_iload_n 2 d_Tape_isName_31 rfl rfl ?_
          refine V_icmp_ge 62 tc_1 tc_4 d_Tape_isName_32 (by decide) (fun c19 => ?_) (fun c19 => ?_)
          ·
            exact absurd c19 (by decide)
          ·
            refine V_aload_n 0 d_Tape_isName_35 rfl rfl ?_
            refine V_getR fa_Tape_9 sk_89 rfl d_Tape_isName_36 ?_
            refine V_aload_n 0 d_Tape_isName_39 rfl rfl ?_
            refine N_getK fa_Tape_19 sk_89 rfl d_Tape_isName_40 fK ?_
            refine V_iload_n 3 d_Tape_isName_43 rfl rfl ?_
            refine V_iadd fE tc_1 (by (first | decide +kernel | omega)) d_Tape_isName_44 (fun z20 z20e z20E => ?_)
            refine N_bald sk_90 z20E (by (first | decide +kernel | omega)) d_Tape_isName_45 (fun z21 z21Z z21E z21e => ?_)
            have g22 : z21Z = b (fZ + 1) := TP_rd (TP_fr f0 (fun _ => rfl) hy0) (by (first | decide +kernel | omega)) z21E z21e
            refine V_aload_n 1 d_Tape_isName_46 rfl rfl ?_
            refine V_iload_n 3 d_Tape_isName_47 rfl rfl ?_
            refine N_callVSI [.int 1] [.int z21] cv_Tape_47 sH rfl d_Tape_isName_48 rfl (Nat.le_of_ble_eq_true rfl) (by decide) (by decide) (c_Str_charAt h 13 sH 1 1 tc_1 (by decide)) (fun z23 h24 z23Z z23E p25 => ?_)
            obtain ⟨eh24, p25⟩ := p25
            subst eh24
            obtain rfl : z23 = 111 := p25.trans rfl
            refine V_icmp_eq 56 z21E tc_111 d_Tape_isName_51 (by decide) (fun c26 => ?_) (fun c26 => ?_)
            ·
              refine V_iinc (v := 2) 3 [some (.ref 89), some (.ref (135 + 13)), some (.int 4), some (.int 2)] d_Tape_isName_56 rfl (by decide) (by decide) rfl rfl ?_
              refine V_goto 30 d_Tape_isName_59 (by decide) ?_
              refine V_iload_n 3 d_Tape_isName_30 rfl rfl ?_
              refine V_iload_n 2 d_Tape_isName_31 rfl rfl ?_
              refine V_icmp_ge 62 tc_2 tc_4 d_Tape_isName_32 (by decide) (fun c28 => ?_) (fun c28 => ?_)
              ·
                exact absurd c28 (by decide)
              ·
                refine V_aload_n 0 d_Tape_isName_35 rfl rfl ?_
                refine V_getR fa_Tape_9 sk_89 rfl d_Tape_isName_36 ?_
                refine V_aload_n 0 d_Tape_isName_39 rfl rfl ?_
                refine N_getK fa_Tape_19 sk_89 rfl d_Tape_isName_40 fK ?_
                refine V_iload_n 3 d_Tape_isName_43 rfl rfl ?_
                refine V_iadd fE tc_2 (by (first | decide +kernel | omega)) d_Tape_isName_44 (fun z29 z29e z29E => ?_)
                refine N_bald sk_90 z29E (by (first | decide +kernel | omega)) d_Tape_isName_45 (fun z30 z30Z z30E z30e => ?_)
                have g31 : z30Z = b (fZ + 2) := TP_rd (TP_fr f0 (fun _ => rfl) hy0) (by (first | decide +kernel | omega)) z30E z30e
                refine V_aload_n 1 d_Tape_isName_46 rfl rfl ?_
                refine V_iload_n 3 d_Tape_isName_47 rfl rfl ?_
                refine N_callVSI [.int 2] [.int z30] cv_Tape_47 sH rfl d_Tape_isName_48 rfl (Nat.le_of_ble_eq_true rfl) (by decide) (by decide) (c_Str_charAt h 13 sH 2 2 tc_2 (by decide)) (fun z32 h33 z32Z z32E p34 => ?_)
                obtain ⟨eh33, p34⟩ := p34
                subst eh33
                obtain rfl : z32 = 116 := p34.trans rfl
                refine V_icmp_eq 56 z30E tc_116 d_Tape_isName_51 (by decide) (fun c35 => ?_) (fun c35 => ?_)
                ·
                  refine V_iinc (v := 3) 3 [some (.ref 89), some (.ref (135 + 13)), some (.int 4), some (.int 3)] d_Tape_isName_56 rfl (by decide) (by decide) rfl rfl ?_
                  refine V_goto 30 d_Tape_isName_59 (by decide) ?_
                  refine V_iload_n 3 d_Tape_isName_30 rfl rfl ?_
                  refine V_iload_n 2 d_Tape_isName_31 rfl rfl ?_
                  refine V_icmp_ge 62 tc_3 tc_4 d_Tape_isName_32 (by decide) (fun c37 => ?_) (fun c37 => ?_)
                  ·
                    exact absurd c37 (by decide)
                  ·
                    refine V_aload_n 0 d_Tape_isName_35 rfl rfl ?_
                    refine V_getR fa_Tape_9 sk_89 rfl d_Tape_isName_36 ?_
                    refine V_aload_n 0 d_Tape_isName_39 rfl rfl ?_
                    refine N_getK fa_Tape_19 sk_89 rfl d_Tape_isName_40 fK ?_
                    refine V_iload_n 3 d_Tape_isName_43 rfl rfl ?_
                    refine V_iadd fE tc_3 (by (first | decide +kernel | omega)) d_Tape_isName_44 (fun z38 z38e z38E => ?_)
                    refine N_bald sk_90 z38E (by (first | decide +kernel | omega)) d_Tape_isName_45 (fun z39 z39Z z39E z39e => ?_)
                    have g40 : z39Z = b (fZ + 3) := TP_rd (TP_fr f0 (fun _ => rfl) hy0) (by (first | decide +kernel | omega)) z39E z39e
                    refine V_aload_n 1 d_Tape_isName_46 rfl rfl ?_
                    refine V_iload_n 3 d_Tape_isName_47 rfl rfl ?_
                    refine N_callVSI [.int 3] [.int z39] cv_Tape_47 sH rfl d_Tape_isName_48 rfl (Nat.le_of_ble_eq_true rfl) (by decide) (by decide) (c_Str_charAt h 13 sH 3 3 tc_3 (by decide)) (fun z41 h42 z41Z z41E p43 => ?_)
                    obtain ⟨eh42, p43⟩ := p43
                    subst eh42
                    obtain rfl : z41 = 104 := p43.trans rfl
                    refine V_icmp_eq 56 z39E tc_104 d_Tape_isName_51 (by decide) (fun c44 => ?_) (fun c44 => ?_)
                    ·
                      refine V_iinc (v := 4) 3 [some (.ref 89), some (.ref (135 + 13)), some (.int 4), some (.int 4)] d_Tape_isName_56 rfl (by decide) (by decide) rfl rfl ?_
                      refine V_goto 30 d_Tape_isName_59 (by decide) ?_
                      refine V_iload_n 3 d_Tape_isName_30 rfl rfl ?_
                      refine V_iload_n 2 d_Tape_isName_31 rfl rfl ?_
                      refine V_icmp_ge 62 tc_4 tc_4 d_Tape_isName_32 (by decide) (fun c46 => ?_) (fun c46 => ?_)
                      ·
                        refine V_iconst 1 d_Tape_isName_62 (by decide) ?_
                        exact V_zret rfl (by decide) d_Tape_isName_63 ⟨1, rfl, ⟨rfl, (Or.inr ⟨by (first | decide +kernel | omega), tc_1.trans (x_nmy13 (b := b) (f := fZ) (e := uZ) (by (first | decide +kernel | omega))).symm⟩)⟩⟩
                      ·
                        exact absurd c46 (by decide)
                    ·
                      refine V_iconst 0 d_Tape_isName_54 (by decide) ?_
                      exact V_zret rfl (by decide) d_Tape_isName_55 ⟨0, rfl, ⟨rfl, (Or.inr ⟨by (first | decide +kernel | omega), tc_0.trans (x_nmn13 (b := b) (f := fZ) (e := uZ) (by (first | decide +kernel | omega))).symm⟩)⟩⟩
                ·
                  refine V_iconst 0 d_Tape_isName_54 (by decide) ?_
                  exact V_zret rfl (by decide) d_Tape_isName_55 ⟨0, rfl, ⟨rfl, (Or.inr ⟨by (first | decide +kernel | omega), tc_0.trans (x_nmn13 (b := b) (f := fZ) (e := uZ) (by (first | decide +kernel | omega))).symm⟩)⟩⟩
            ·
              refine V_iconst 0 d_Tape_isName_54 (by decide) ?_
              exact V_zret rfl (by decide) d_Tape_isName_55 ⟨0, rfl, ⟨rfl, (Or.inr ⟨by (first | decide +kernel | omega), tc_0.trans (x_nmn13 (b := b) (f := fZ) (e := uZ) (by (first | decide +kernel | omega))).symm⟩)⟩⟩
        ·
          refine V_iconst 0 d_Tape_isName_54 (by decide) ?_
          exact V_zret rfl (by decide) d_Tape_isName_55 ⟨0, rfl, ⟨rfl, (Or.inr ⟨by (first | decide +kernel | omega), tc_0.trans (x_nmn13 (b := b) (f := fZ) (e := uZ) (by (first | decide +kernel | omega))).symm⟩)⟩⟩
    ·
      refine V_iconst 0 d_Tape_isName_26 (by decide) ?_
      exact V_zret rfl (by decide) d_Tape_isName_27 ⟨0, rfl, ⟨rfl, (if q : qZ = 1 then Or.inr ⟨q, tc_0.trans (x_nmn13 (b := b) (f := fZ) (e := uZ) (by (first | decide +kernel | omega))).symm⟩ else Or.inl ⟨q, rfl⟩)⟩⟩
abbrev q_Reader_lineNameX_0 (h : Hp)  : Option Value → Hp → Prop := pRef (fun r h' => h = h' ∧ r = 135 + 0)
set_option maxRecDepth 100000 in
theorem c_Reader_lineNameX_0 (h : Hp) : Ct y_Reader_lineName b_Reader_lineName 1 (some (.object "java/lang/String")) 0 0 [.int 0] h (q_Reader_lineNameX_0 h ) := by
  refine ct_ow R_Reader [some (.int 0)] rfl (by decide) rfl (Nat.le_of_ble_eq_true rfl) ?_
  have f0 : fr [] h h := fr_rf
  refine V_iload_n 0 d_Reader_lineName_0 rfl rfl ?_
  refine V_tabIn 52 tc_0 d_Reader_lineName_1 (by decide) (by decide) rfl (by decide) ?_
  refine V_ldcS (i := 0) (by decide) rfl rfl d_Reader_lineName_52 ?_
  exact V_aret rfl d_Reader_lineName_54 ⟨(135 + 0), rfl, ⟨rfl, rfl⟩⟩
abbrev q_Reader_lineNameX_1 (h : Hp)  : Option Value → Hp → Prop := pRef (fun r h' => h = h' ∧ r = 135 + 1)
set_option maxRecDepth 100000 in
theorem c_Reader_lineNameX_1 (h : Hp) : Ct y_Reader_lineName b_Reader_lineName 1 (some (.object "java/lang/String")) 0 0 [.int 1] h (q_Reader_lineNameX_1 h ) := by
  refine ct_ow R_Reader [some (.int 1)] rfl (by decide) rfl (Nat.le_of_ble_eq_true rfl) ?_
  have f0 : fr [] h h := fr_rf
  refine V_iload_n 0 d_Reader_lineName_0 rfl rfl ?_
  refine V_tabIn 55 tc_1 d_Reader_lineName_1 (by decide) (by decide) rfl (by decide) ?_
  refine V_ldcS (i := 1) (by decide) rfl rfl d_Reader_lineName_55 ?_
  exact V_aret rfl d_Reader_lineName_57 ⟨(135 + 1), rfl, ⟨rfl, rfl⟩⟩
abbrev q_Reader_lineNameX_2 (h : Hp)  : Option Value → Hp → Prop := pRef (fun r h' => h = h' ∧ r = 135 + 2)
set_option maxRecDepth 100000 in
theorem c_Reader_lineNameX_2 (h : Hp) : Ct y_Reader_lineName b_Reader_lineName 1 (some (.object "java/lang/String")) 0 0 [.int 2] h (q_Reader_lineNameX_2 h ) := by
  refine ct_ow R_Reader [some (.int 2)] rfl (by decide) rfl (Nat.le_of_ble_eq_true rfl) ?_
  have f0 : fr [] h h := fr_rf
  refine V_iload_n 0 d_Reader_lineName_0 rfl rfl ?_
  refine V_tabIn 58 tc_2 d_Reader_lineName_1 (by decide) (by decide) rfl (by decide) ?_
  refine V_ldcS (i := 2) (by decide) rfl rfl d_Reader_lineName_58 ?_
  exact V_aret rfl d_Reader_lineName_60 ⟨(135 + 2), rfl, ⟨rfl, rfl⟩⟩
abbrev q_Reader_lineNameX_3 (h : Hp)  : Option Value → Hp → Prop := pRef (fun r h' => h = h' ∧ r = 135 + 3)
set_option maxRecDepth 100000 in
theorem c_Reader_lineNameX_3 (h : Hp) : Ct y_Reader_lineName b_Reader_lineName 1 (some (.object "java/lang/String")) 0 0 [.int 3] h (q_Reader_lineNameX_3 h ) := by
  refine ct_ow R_Reader [some (.int 3)] rfl (by decide) rfl (Nat.le_of_ble_eq_true rfl) ?_
  have f0 : fr [] h h := fr_rf
  refine V_iload_n 0 d_Reader_lineName_0 rfl rfl ?_
  refine V_tabIn 61 tc_3 d_Reader_lineName_1 (by decide) (by decide) rfl (by decide) ?_
  refine V_ldcS (i := 3) (by decide) rfl rfl d_Reader_lineName_61 ?_
  exact V_aret rfl d_Reader_lineName_63 ⟨(135 + 3), rfl, ⟨rfl, rfl⟩⟩
abbrev q_Reader_lineNameX_4 (h : Hp)  : Option Value → Hp → Prop := pRef (fun r h' => h = h' ∧ r = 135 + 4)
set_option maxRecDepth 100000 in
theorem c_Reader_lineNameX_4 (h : Hp) : Ct y_Reader_lineName b_Reader_lineName 1 (some (.object "java/lang/String")) 0 0 [.int 4] h (q_Reader_lineNameX_4 h ) := by
  refine ct_ow R_Reader [some (.int 4)] rfl (by decide) rfl (Nat.le_of_ble_eq_true rfl) ?_
  have f0 : fr [] h h := fr_rf
  refine V_iload_n 0 d_Reader_lineName_0 rfl rfl ?_
  refine V_tabIn 64 tc_4 d_Reader_lineName_1 (by decide) (by decide) rfl (by decide) ?_
  refine V_ldcS (i := 4) (by decide) rfl rfl d_Reader_lineName_64 ?_
  exact V_aret rfl d_Reader_lineName_66 ⟨(135 + 4), rfl, ⟨rfl, rfl⟩⟩
abbrev q_Reader_lineNameX_5 (h : Hp)  : Option Value → Hp → Prop := pRef (fun r h' => h = h' ∧ r = 135 + 5)
set_option maxRecDepth 100000 in
theorem c_Reader_lineNameX_5 (h : Hp) : Ct y_Reader_lineName b_Reader_lineName 1 (some (.object "java/lang/String")) 0 0 [.int 5] h (q_Reader_lineNameX_5 h ) := by
  refine ct_ow R_Reader [some (.int 5)] rfl (by decide) rfl (Nat.le_of_ble_eq_true rfl) ?_
  have f0 : fr [] h h := fr_rf
  refine V_iload_n 0 d_Reader_lineName_0 rfl rfl ?_
  refine V_tabIn 67 tc_5 d_Reader_lineName_1 (by decide) (by decide) rfl (by decide) ?_
  refine V_ldcS (i := 5) (by decide) rfl rfl d_Reader_lineName_67 ?_
  exact V_aret rfl d_Reader_lineName_69 ⟨(135 + 5), rfl, ⟨rfl, rfl⟩⟩
abbrev q_Reader_lineNameX_6 (h : Hp)  : Option Value → Hp → Prop := pRef (fun r h' => h = h' ∧ r = 135 + 6)
set_option maxRecDepth 100000 in
theorem c_Reader_lineNameX_6 (h : Hp) : Ct y_Reader_lineName b_Reader_lineName 1 (some (.object "java/lang/String")) 0 0 [.int 6] h (q_Reader_lineNameX_6 h ) := by
  refine ct_ow R_Reader [some (.int 6)] rfl (by decide) rfl (Nat.le_of_ble_eq_true rfl) ?_
  have f0 : fr [] h h := fr_rf
  refine V_iload_n 0 d_Reader_lineName_0 rfl rfl ?_
  refine V_tabIn 70 tc_6 d_Reader_lineName_1 (by decide) (by decide) rfl (by decide) ?_
  refine V_ldcS (i := 6) (by decide) rfl rfl d_Reader_lineName_70 ?_
  exact V_aret rfl d_Reader_lineName_72 ⟨(135 + 6), rfl, ⟨rfl, rfl⟩⟩
abbrev q_Reader_lineNameX_7 (h : Hp)  : Option Value → Hp → Prop := pRef (fun r h' => h = h' ∧ r = 135 + 7)
set_option maxRecDepth 100000 in
theorem c_Reader_lineNameX_7 (h : Hp) : Ct y_Reader_lineName b_Reader_lineName 1 (some (.object "java/lang/String")) 0 0 [.int 7] h (q_Reader_lineNameX_7 h ) := by
  refine ct_ow R_Reader [some (.int 7)] rfl (by decide) rfl (Nat.le_of_ble_eq_true rfl) ?_
  have f0 : fr [] h h := fr_rf
  refine V_iload_n 0 d_Reader_lineName_0 rfl rfl ?_
  refine V_tabIn 73 tc_7 d_Reader_lineName_1 (by decide) (by decide) rfl (by decide) ?_
  refine V_ldcS (i := 7) (by decide) rfl rfl d_Reader_lineName_73 ?_
  exact V_aret rfl d_Reader_lineName_75 ⟨(135 + 7), rfl, ⟨rfl, rfl⟩⟩
abbrev q_Reader_lineNameX_8 (h : Hp)  : Option Value → Hp → Prop := pRef (fun r h' => h = h' ∧ r = 135 + 8)
set_option maxRecDepth 100000 in
theorem c_Reader_lineNameX_8 (h : Hp) : Ct y_Reader_lineName b_Reader_lineName 1 (some (.object "java/lang/String")) 0 0 [.int 8] h (q_Reader_lineNameX_8 h ) := by
  refine ct_ow R_Reader [some (.int 8)] rfl (by decide) rfl (Nat.le_of_ble_eq_true rfl) ?_
  have f0 : fr [] h h := fr_rf
  refine V_iload_n 0 d_Reader_lineName_0 rfl rfl ?_
  refine V_tabIn 76 tc_8 d_Reader_lineName_1 (by decide) (by decide) rfl (by decide) ?_
  refine V_ldcS (i := 8) (by decide) rfl rfl d_Reader_lineName_76 ?_
  exact V_aret rfl d_Reader_lineName_78 ⟨(135 + 8), rfl, ⟨rfl, rfl⟩⟩
abbrev q_Reader_lineNameX_9 (h : Hp)  : Option Value → Hp → Prop := pRef (fun r h' => h = h' ∧ r = 135 + 9)
set_option maxRecDepth 100000 in
theorem c_Reader_lineNameX_9 (h : Hp) : Ct y_Reader_lineName b_Reader_lineName 1 (some (.object "java/lang/String")) 0 0 [.int 9] h (q_Reader_lineNameX_9 h ) := by
  refine ct_ow R_Reader [some (.int 9)] rfl (by decide) rfl (Nat.le_of_ble_eq_true rfl) ?_
  have f0 : fr [] h h := fr_rf
  refine V_iload_n 0 d_Reader_lineName_0 rfl rfl ?_
  refine V_tabOut 79 tc_9 d_Reader_lineName_1 (by decide) (by decide) ?_
  refine V_ldcS (i := 9) (by decide) rfl rfl d_Reader_lineName_79 ?_
  exact V_aret rfl d_Reader_lineName_81 ⟨(135 + 9), rfl, ⟨rfl, rfl⟩⟩
abbrev q_Reader_natureNameX_0 (h : Hp)  : Option Value → Hp → Prop := pRef (fun r h' => h = h' ∧ r = 135 + 10)
set_option maxRecDepth 100000 in
theorem c_Reader_natureNameX_0 (h : Hp) : Ct y_Reader_natureName b_Reader_natureName 1 (some (.object "java/lang/String")) 0 0 [.int 0] h (q_Reader_natureNameX_0 h ) := by
  refine ct_ow R_Reader [some (.int 0)] rfl (by decide) rfl (Nat.le_of_ble_eq_true rfl) ?_
  have f0 : fr [] h h := fr_rf
  refine V_iload_n 0 d_Reader_natureName_0 rfl rfl ?_
  refine V_tabIn 32 tc_0 d_Reader_natureName_1 (by decide) (by decide) rfl (by decide) ?_
  refine V_ldcS (i := 10) (by decide) rfl rfl d_Reader_natureName_32 ?_
  exact V_aret rfl d_Reader_natureName_34 ⟨(135 + 10), rfl, ⟨rfl, rfl⟩⟩
abbrev q_Reader_natureNameX_1 (h : Hp)  : Option Value → Hp → Prop := pRef (fun r h' => h = h' ∧ r = 135 + 2)
set_option maxRecDepth 100000 in
theorem c_Reader_natureNameX_1 (h : Hp) : Ct y_Reader_natureName b_Reader_natureName 1 (some (.object "java/lang/String")) 0 0 [.int 1] h (q_Reader_natureNameX_1 h ) := by
  refine ct_ow R_Reader [some (.int 1)] rfl (by decide) rfl (Nat.le_of_ble_eq_true rfl) ?_
  have f0 : fr [] h h := fr_rf
  refine V_iload_n 0 d_Reader_natureName_0 rfl rfl ?_
  refine V_tabIn 35 tc_1 d_Reader_natureName_1 (by decide) (by decide) rfl (by decide) ?_
  refine V_ldcS (i := 2) (by decide) rfl rfl d_Reader_natureName_35 ?_
  exact V_aret rfl d_Reader_natureName_37 ⟨(135 + 2), rfl, ⟨rfl, rfl⟩⟩
abbrev q_Reader_natureNameX_2 (h : Hp)  : Option Value → Hp → Prop := pRef (fun r h' => h = h' ∧ r = 135 + 11)
set_option maxRecDepth 100000 in
theorem c_Reader_natureNameX_2 (h : Hp) : Ct y_Reader_natureName b_Reader_natureName 1 (some (.object "java/lang/String")) 0 0 [.int 2] h (q_Reader_natureNameX_2 h ) := by
  refine ct_ow R_Reader [some (.int 2)] rfl (by decide) rfl (Nat.le_of_ble_eq_true rfl) ?_
  have f0 : fr [] h h := fr_rf
  refine V_iload_n 0 d_Reader_natureName_0 rfl rfl ?_
  refine V_tabIn 38 tc_2 d_Reader_natureName_1 (by decide) (by decide) rfl (by decide) ?_
  refine V_ldcS (i := 11) (by decide) rfl rfl d_Reader_natureName_38 ?_
  exact V_aret rfl d_Reader_natureName_40 ⟨(135 + 11), rfl, ⟨rfl, rfl⟩⟩
abbrev q_Reader_natureNameX_3 (h : Hp)  : Option Value → Hp → Prop := pRef (fun r h' => h = h' ∧ r = 135 + 12)
set_option maxRecDepth 100000 in
theorem c_Reader_natureNameX_3 (h : Hp) : Ct y_Reader_natureName b_Reader_natureName 1 (some (.object "java/lang/String")) 0 0 [.int 3] h (q_Reader_natureNameX_3 h ) := by
  refine ct_ow R_Reader [some (.int 3)] rfl (by decide) rfl (Nat.le_of_ble_eq_true rfl) ?_
  have f0 : fr [] h h := fr_rf
  refine V_iload_n 0 d_Reader_natureName_0 rfl rfl ?_
  refine V_tabIn 41 tc_3 d_Reader_natureName_1 (by decide) (by decide) rfl (by decide) ?_
  refine V_ldcS (i := 12) (by decide) rfl rfl d_Reader_natureName_41 ?_
  exact V_aret rfl d_Reader_natureName_43 ⟨(135 + 12), rfl, ⟨rfl, rfl⟩⟩
abbrev q_Reader_natureNameX_4 (h : Hp)  : Option Value → Hp → Prop := pRef (fun r h' => h = h' ∧ r = 135 + 13)
set_option maxRecDepth 100000 in
theorem c_Reader_natureNameX_4 (h : Hp) : Ct y_Reader_natureName b_Reader_natureName 1 (some (.object "java/lang/String")) 0 0 [.int 4] h (q_Reader_natureNameX_4 h ) := by
  refine ct_ow R_Reader [some (.int 4)] rfl (by decide) rfl (Nat.le_of_ble_eq_true rfl) ?_
  have f0 : fr [] h h := fr_rf
  refine V_iload_n 0 d_Reader_natureName_0 rfl rfl ?_
  refine V_tabOut 44 tc_4 d_Reader_natureName_1 (by decide) (by decide) ?_
  refine V_ldcS (i := 13) (by decide) rfl rfl d_Reader_natureName_44 ?_
  exact V_aret rfl d_Reader_natureName_46 ⟨(135 + 13), rfl, ⟨rfl, rfl⟩⟩
abbrev q_Reader_lineBegunX (h : Hp) (b : Int → Int) (s : Int32) (sZ : Int) (q : Int32) (qZ : Int) (f : Int32) (fZ : Int) (u : Int32) (uZ : Int) : Option Value → Hp → Prop := pInt (fun r h' => h = h' ∧ (qZ ≠ 1 ∨ r.toInt = x_ln b fZ uZ))
set_option maxRecDepth 100000 in
theorem c_Reader_lineBegunX (h : Hp) (b : Int → Int) (hI : Inv h) (s : Int32) (sZ : Int) (sE : s.toInt = sZ) (sK : h.1 89 1 = s) (q : Int32) (qZ : Int) (qE : q.toInt = qZ) (qK : h.1 89 2 = q) (f : Int32) (fZ : Int) (fE : f.toInt = fZ) (fK : h.1 89 3 = f) (u : Int32) (uZ : Int) (uE : u.toInt = uZ) (uK : h.1 89 4 = u) (hy0 : TP h 90 sZ b) (hy1 : 0 ≤ fZ ∧ fZ ≤ uZ ∧ uZ ≤ sZ ∧ sZ ≤ 160) : Ct y_Reader_lineBegun b_Reader_lineBegun 2 (some .int) 5 108 [.ref 88] h (q_Reader_lineBegunX h b s sZ q qZ f fZ u uZ) := by
  refine ct_ow R_Reader [some (.ref 88), none] rfl (by decide) rfl (Nat.le_of_ble_eq_true rfl) ?_
  have f0 : fr [] h h := fr_rf
  have g1 : 0 ≤ sZ ∧ sZ ≤ 160 := inv_at hI sE sK.symm rfl
  have g2 : 0 ≤ fZ ∧ fZ ≤ 160 := inv_at hI fE fK.symm rfl
  have g3 : 0 ≤ uZ ∧ uZ ≤ 160 := inv_at hI uE uK.symm rfl
  refine V_iconst 0 d_Reader_lineBegun_0 (by decide) ?_
  refine V_istore_n 1 [some (.ref 88), some (.int 0)] d_Reader_lineBegun_1 rfl (by decide) rfl rfl ?_
  refine V_iload_n 1 d_Reader_lineBegun_2 rfl rfl ?_
  refine V_bipush 10 d_Reader_lineBegun_3 (by decide) ?_
  refine V_icmp_ge 30 tc_0 tc_10 d_Reader_lineBegun_5 (by decide) (fun c4 => ?_) (fun c4 => ?_)
  ·
    exact absurd c4 (by decide)
  ·
    refine V_aload_n 0 d_Reader_lineBegun_8 rfl rfl ?_
    refine V_getR fa_Reader_12 sk_88 rfl d_Reader_lineBegun_9 ?_
    refine V_iload_n 1 d_Reader_lineBegun_12 rfl rfl ?_
    refine N_callSR [.int 0] [.ref 89] cs_Reader_171 d_Reader_lineBegun_13 rfl (Nat.le_of_ble_eq_true rfl) (by decide) (by decide) (c_Reader_lineNameX_0 h) (fun z5 h6 p7 => ?_)
    obtain ⟨eh6, rfl⟩ := p7
    subst eh6
    refine N_callVI [.ref (135 + 0)] [] cv_Reader_175 sk_89 rfl d_Reader_lineBegun_16 rfl (Nat.le_of_ble_eq_true rfl) (by decide) (by decide) (c_Tape_isNameX_0 h b hI s sZ sE sK q qZ qE qK f fZ fE fK u uZ uE uK (TP_fr f0 (fun _ => rfl) hy0) (by (first | decide +kernel | omega))) (fun z8 h9 z8Z z8E p10 => ?_)
    obtain ⟨eh9, p10⟩ := p10
    subst eh9
    refine V_if_eq 24 z8E d_Reader_lineBegun_19 (by decide) (fun c11 => ?_) (fun c11 => ?_)
    ·
      refine V_iinc (v := 1) 1 [some (.ref 88), some (.int 1)] d_Reader_lineBegun_24 rfl (by decide) (by decide) rfl rfl ?_
      refine V_goto 2 d_Reader_lineBegun_27 (by decide) ?_
      refine V_iload_n 1 d_Reader_lineBegun_2 rfl rfl ?_
      refine V_bipush 10 d_Reader_lineBegun_3 (by decide) ?_
      refine V_icmp_ge 30 tc_1 tc_10 d_Reader_lineBegun_5 (by decide) (fun c13 => ?_) (fun c13 => ?_)
      ·
        exact absurd c13 (by decide)
      ·
        refine V_aload_n 0 d_Reader_lineBegun_8 rfl rfl ?_
        refine V_getR fa_Reader_12 sk_88 rfl d_Reader_lineBegun_9 ?_
        refine V_iload_n 1 d_Reader_lineBegun_12 rfl rfl ?_
        refine N_callSR [.int 1] [.ref 89] cs_Reader_171 d_Reader_lineBegun_13 rfl (Nat.le_of_ble_eq_true rfl) (by decide) (by decide) (c_Reader_lineNameX_1 h) (fun z14 h15 p16 => ?_)
        obtain ⟨eh15, rfl⟩ := p16
        subst eh15
        refine N_callVI [.ref (135 + 1)] [] cv_Reader_175 sk_89 rfl d_Reader_lineBegun_16 rfl (Nat.le_of_ble_eq_true rfl) (by decide) (by decide) (c_Tape_isNameX_1 h b hI s sZ sE sK q qZ qE qK f fZ fE fK u uZ uE uK (TP_fr f0 (fun _ => rfl) hy0) (by (first | decide +kernel | omega))) (fun z17 h18 z17Z z17E p19 => ?_)
        obtain ⟨eh18, p19⟩ := p19
        subst eh18
        refine V_if_eq 24 z17E d_Reader_lineBegun_19 (by decide) (fun c20 => ?_) (fun c20 => ?_)
        ·
          refine V_iinc (v := 2) 1 [some (.ref 88), some (.int 2)] d_Reader_lineBegun_24 rfl (by decide) (by decide) rfl rfl ?_
          refine V_goto 2 d_Reader_lineBegun_27 (by decide) ?_
          refine V_iload_n 1 d_Reader_lineBegun_2 rfl rfl ?_
          refine V_bipush 10 d_Reader_lineBegun_3 (by decide) ?_
          refine V_icmp_ge 30 tc_2 tc_10 d_Reader_lineBegun_5 (by decide) (fun c22 => ?_) (fun c22 => ?_)
          ·
            exact absurd c22 (by decide)
          ·
            refine V_aload_n 0 d_Reader_lineBegun_8 rfl rfl ?_
            refine V_getR fa_Reader_12 sk_88 rfl d_Reader_lineBegun_9 ?_
            refine V_iload_n 1 d_Reader_lineBegun_12 rfl rfl ?_
            refine N_callSR [.int 2] [.ref 89] cs_Reader_171 d_Reader_lineBegun_13 rfl (Nat.le_of_ble_eq_true rfl) (by decide) (by decide) (c_Reader_lineNameX_2 h) (fun z23 h24 p25 => ?_)
            obtain ⟨eh24, rfl⟩ := p25
            subst eh24
            refine N_callVI [.ref (135 + 2)] [] cv_Reader_175 sk_89 rfl d_Reader_lineBegun_16 rfl (Nat.le_of_ble_eq_true rfl) (by decide) (by decide) (c_Tape_isNameX_2 h b hI s sZ sE sK q qZ qE qK f fZ fE fK u uZ uE uK (TP_fr f0 (fun _ => rfl) hy0) (by (first | decide +kernel | omega))) (fun z26 h27 z26Z z26E p28 => ?_)
            obtain ⟨eh27, p28⟩ := p28
            subst eh27
            refine V_if_eq 24 z26E d_Reader_lineBegun_19 (by decide) (fun c29 => ?_) (fun c29 => ?_)
            ·
              refine V_iinc (v := 3) 1 [some (.ref 88), some (.int 3)] d_Reader_lineBegun_24 rfl (by decide) (by decide) rfl rfl ?_
              refine V_goto 2 d_Reader_lineBegun_27 (by decide) ?_
              refine V_iload_n 1 d_Reader_lineBegun_2 rfl rfl ?_
              refine V_bipush 10 d_Reader_lineBegun_3 (by decide) ?_
              refine V_icmp_ge 30 tc_3 tc_10 d_Reader_lineBegun_5 (by decide) (fun c31 => ?_) (fun c31 => ?_)
              ·
                exact absurd c31 (by decide)
              ·
                refine V_aload_n 0 d_Reader_lineBegun_8 rfl rfl ?_
                refine V_getR fa_Reader_12 sk_88 rfl d_Reader_lineBegun_9 ?_
                refine V_iload_n 1 d_Reader_lineBegun_12 rfl rfl ?_
                refine N_callSR [.int 3] [.ref 89] cs_Reader_171 d_Reader_lineBegun_13 rfl (Nat.le_of_ble_eq_true rfl) (by decide) (by decide) (c_Reader_lineNameX_3 h) (fun z32 h33 p34 => ?_)
                obtain ⟨eh33, rfl⟩ := p34
                subst eh33
                refine N_callVI [.ref (135 + 3)] [] cv_Reader_175 sk_89 rfl d_Reader_lineBegun_16 rfl (Nat.le_of_ble_eq_true rfl) (by decide) (by decide) (c_Tape_isNameX_3 h b hI s sZ sE sK q qZ qE qK f fZ fE fK u uZ uE uK (TP_fr f0 (fun _ => rfl) hy0) (by (first | decide +kernel | omega))) (fun z35 h36 z35Z z35E p37 => ?_)
                obtain ⟨eh36, p37⟩ := p37
                subst eh36
                refine V_if_eq 24 z35E d_Reader_lineBegun_19 (by decide) (fun c38 => ?_) (fun c38 => ?_)
                ·
                  refine V_iinc (v := 4) 1 [some (.ref 88), some (.int 4)] d_Reader_lineBegun_24 rfl (by decide) (by decide) rfl rfl ?_
                  refine V_goto 2 d_Reader_lineBegun_27 (by decide) ?_
                  refine V_iload_n 1 d_Reader_lineBegun_2 rfl rfl ?_
                  refine V_bipush 10 d_Reader_lineBegun_3 (by decide) ?_
                  refine V_icmp_ge 30 tc_4 tc_10 d_Reader_lineBegun_5 (by decide) (fun c40 => ?_) (fun c40 => ?_)
                  ·
                    exact absurd c40 (by decide)
                  ·
                    refine V_aload_n 0 d_Reader_lineBegun_8 rfl rfl ?_
                    refine V_getR fa_Reader_12 sk_88 rfl d_Reader_lineBegun_9 ?_
                    refine V_iload_n 1 d_Reader_lineBegun_12 rfl rfl ?_
                    refine N_callSR [.int 4] [.ref 89] cs_Reader_171 d_Reader_lineBegun_13 rfl (Nat.le_of_ble_eq_true rfl) (by decide) (by decide) (c_Reader_lineNameX_4 h) (fun z41 h42 p43 => ?_)
                    obtain ⟨eh42, rfl⟩ := p43
                    subst eh42
                    refine N_callVI [.ref (135 + 4)] [] cv_Reader_175 sk_89 rfl d_Reader_lineBegun_16 rfl (Nat.le_of_ble_eq_true rfl) (by decide) (by decide) (c_Tape_isNameX_4 h b hI s sZ sE sK q qZ qE qK f fZ fE fK u uZ uE uK (TP_fr f0 (fun _ => rfl) hy0) (by (first | decide +kernel | omega))) (fun z44 h45 z44Z z44E p46 => ?_)
                    obtain ⟨eh45, p46⟩ := p46
                    subst eh45
                    refine V_if_eq 24 z44E d_Reader_lineBegun_19 (by decide) (fun c47 => ?_) (fun c47 => ?_)
                    ·
                      refine V_iinc (v := 5) 1 [some (.ref 88), some (.int 5)] d_Reader_lineBegun_24 rfl (by decide) (by decide) rfl rfl ?_
                      refine V_goto 2 d_Reader_lineBegun_27 (by decide) ?_
                      refine V_iload_n 1 d_Reader_lineBegun_2 rfl rfl ?_
                      refine V_bipush 10 d_Reader_lineBegun_3 (by decide) ?_
                      refine V_icmp_ge 30 tc_5 tc_10 d_Reader_lineBegun_5 (by decide) (fun c49 => ?_) (fun c49 => ?_)
                      ·
                        exact absurd c49 (by decide)
                      ·
                        refine V_aload_n 0 d_Reader_lineBegun_8 rfl rfl ?_
                        refine V_getR fa_Reader_12 sk_88 rfl d_Reader_lineBegun_9 ?_
                        refine V_iload_n 1 d_Reader_lineBegun_12 rfl rfl ?_
                        refine N_callSR [.int 5] [.ref 89] cs_Reader_171 d_Reader_lineBegun_13 rfl (Nat.le_of_ble_eq_true rfl) (by decide) (by decide) (c_Reader_lineNameX_5 h) (fun z50 h51 p52 => ?_)
                        obtain ⟨eh51, rfl⟩ := p52
                        subst eh51
                        refine N_callVI [.ref (135 + 5)] [] cv_Reader_175 sk_89 rfl d_Reader_lineBegun_16 rfl (Nat.le_of_ble_eq_true rfl) (by decide) (by decide) (c_Tape_isNameX_5 h b hI s sZ sE sK q qZ qE qK f fZ fE fK u uZ uE uK (TP_fr f0 (fun _ => rfl) hy0) (by (first | decide +kernel | omega))) (fun z53 h54 z53Z z53E p55 => ?_)
                        obtain ⟨eh54, p55⟩ := p55
                        subst eh54
                        refine V_if_eq 24 z53E d_Reader_lineBegun_19 (by decide) (fun c56 => ?_) (fun c56 => ?_)
                        ·
                          refine V_iinc (v := 6) 1 [some (.ref 88), some (.int 6)] d_Reader_lineBegun_24 rfl (by decide) (by decide) rfl rfl ?_
                          refine V_goto 2 d_Reader_lineBegun_27 (by decide) ?_
                          refine V_iload_n 1 d_Reader_lineBegun_2 rfl rfl ?_
                          refine V_bipush 10 d_Reader_lineBegun_3 (by decide) ?_
                          refine V_icmp_ge 30 tc_6 tc_10 d_Reader_lineBegun_5 (by decide) (fun c58 => ?_) (fun c58 => ?_)
                          ·
                            exact absurd c58 (by decide)
                          ·
                            refine V_aload_n 0 d_Reader_lineBegun_8 rfl rfl ?_
                            refine V_getR fa_Reader_12 sk_88 rfl d_Reader_lineBegun_9 ?_
                            refine V_iload_n 1 d_Reader_lineBegun_12 rfl rfl ?_
                            refine N_callSR [.int 6] [.ref 89] cs_Reader_171 d_Reader_lineBegun_13 rfl (Nat.le_of_ble_eq_true rfl) (by decide) (by decide) (c_Reader_lineNameX_6 h) (fun z59 h60 p61 => ?_)
                            obtain ⟨eh60, rfl⟩ := p61
                            subst eh60
                            refine N_callVI [.ref (135 + 6)] [] cv_Reader_175 sk_89 rfl d_Reader_lineBegun_16 rfl (Nat.le_of_ble_eq_true rfl) (by decide) (by decide) (c_Tape_isNameX_6 h b hI s sZ sE sK q qZ qE qK f fZ fE fK u uZ uE uK (TP_fr f0 (fun _ => rfl) hy0) (by (first | decide +kernel | omega))) (fun z62 h63 z62Z z62E p64 => ?_)
                            obtain ⟨eh63, p64⟩ := p64
                            subst eh63
                            refine V_if_eq 24 z62E d_Reader_lineBegun_19 (by decide) (fun c65 => ?_) (fun c65 => ?_)
                            ·
                              refine V_iinc (v := 7) 1 [some (.ref 88), some (.int 7)] d_Reader_lineBegun_24 rfl (by decide) (by decide) rfl rfl ?_
                              refine V_goto 2 d_Reader_lineBegun_27 (by decide) ?_
                              refine V_iload_n 1 d_Reader_lineBegun_2 rfl rfl ?_
                              refine V_bipush 10 d_Reader_lineBegun_3 (by decide) ?_
                              refine V_icmp_ge 30 tc_7 tc_10 d_Reader_lineBegun_5 (by decide) (fun c67 => ?_) (fun c67 => ?_)
                              ·
                                exact absurd c67 (by decide)
                              ·
                                refine V_aload_n 0 d_Reader_lineBegun_8 rfl rfl ?_
                                refine V_getR fa_Reader_12 sk_88 rfl d_Reader_lineBegun_9 ?_
                                refine V_iload_n 1 d_Reader_lineBegun_12 rfl rfl ?_
                                refine N_callSR [.int 7] [.ref 89] cs_Reader_171 d_Reader_lineBegun_13 rfl (Nat.le_of_ble_eq_true rfl) (by decide) (by decide) (c_Reader_lineNameX_7 h) (fun z68 h69 p70 => ?_)
                                obtain ⟨eh69, rfl⟩ := p70
                                subst eh69
                                refine N_callVI [.ref (135 + 7)] [] cv_Reader_175 sk_89 rfl d_Reader_lineBegun_16 rfl (Nat.le_of_ble_eq_true rfl) (by decide) (by decide) (c_Tape_isNameX_7 h b hI s sZ sE sK q qZ qE qK f fZ fE fK u uZ uE uK (TP_fr f0 (fun _ => rfl) hy0) (by (first | decide +kernel | omega))) (fun z71 h72 z71Z z71E p73 => ?_)
                                obtain ⟨eh72, p73⟩ := p73
                                subst eh72
                                refine V_if_eq 24 z71E d_Reader_lineBegun_19 (by decide) (fun c74 => ?_) (fun c74 => ?_)
                                ·
                                  refine V_iinc (v := 8) 1 [some (.ref 88), some (.int 8)] d_Reader_lineBegun_24 rfl (by decide) (by decide) rfl rfl ?_
                                  refine V_goto 2 d_Reader_lineBegun_27 (by decide) ?_
                                  refine V_iload_n 1 d_Reader_lineBegun_2 rfl rfl ?_
                                  refine V_bipush 10 d_Reader_lineBegun_3 (by decide) ?_
                                  refine V_icmp_ge 30 tc_8 tc_10 d_Reader_lineBegun_5 (by decide) (fun c76 => ?_) (fun c76 => ?_)
                                  ·
                                    exact absurd c76 (by decide)
                                  ·
                                    refine V_aload_n 0 d_Reader_lineBegun_8 rfl rfl ?_
                                    refine V_getR fa_Reader_12 sk_88 rfl d_Reader_lineBegun_9 ?_
                                    refine V_iload_n 1 d_Reader_lineBegun_12 rfl rfl ?_
                                    refine N_callSR [.int 8] [.ref 89] cs_Reader_171 d_Reader_lineBegun_13 rfl (Nat.le_of_ble_eq_true rfl) (by decide) (by decide) (c_Reader_lineNameX_8 h) (fun z77 h78 p79 => ?_)
                                    obtain ⟨eh78, rfl⟩ := p79
                                    subst eh78
                                    refine N_callVI [.ref (135 + 8)] [] cv_Reader_175 sk_89 rfl d_Reader_lineBegun_16 rfl (Nat.le_of_ble_eq_true rfl) (by decide) (by decide) (c_Tape_isNameX_8 h b hI s sZ sE sK q qZ qE qK f fZ fE fK u uZ uE uK (TP_fr f0 (fun _ => rfl) hy0) (by (first | decide +kernel | omega))) (fun z80 h81 z80Z z80E p82 => ?_)
                                    obtain ⟨eh81, p82⟩ := p82
                                    subst eh81
                                    refine V_if_eq 24 z80E d_Reader_lineBegun_19 (by decide) (fun c83 => ?_) (fun c83 => ?_)
                                    ·
                                      refine V_iinc (v := 9) 1 [some (.ref 88), some (.int 9)] d_Reader_lineBegun_24 rfl (by decide) (by decide) rfl rfl ?_
                                      refine V_goto 2 d_Reader_lineBegun_27 (by decide) ?_
                                      refine V_iload_n 1 d_Reader_lineBegun_2 rfl rfl ?_
                                      refine V_bipush 10 d_Reader_lineBegun_3 (by decide) ?_
                                      refine V_icmp_ge 30 tc_9 tc_10 d_Reader_lineBegun_5 (by decide) (fun c85 => ?_) (fun c85 => ?_)
                                      ·
                                        exact absurd c85 (by decide)
                                      ·
                                        refine V_aload_n 0 d_Reader_lineBegun_8 rfl rfl ?_
                                        refine V_getR fa_Reader_12 sk_88 rfl d_Reader_lineBegun_9 ?_
                                        refine V_iload_n 1 d_Reader_lineBegun_12 rfl rfl ?_
                                        refine N_callSR [.int 9] [.ref 89] cs_Reader_171 d_Reader_lineBegun_13 rfl (Nat.le_of_ble_eq_true rfl) (by decide) (by decide) (c_Reader_lineNameX_9 h) (fun z86 h87 p88 => ?_)
                                        obtain ⟨eh87, rfl⟩ := p88
                                        subst eh87
                                        refine N_callVI [.ref (135 + 9)] [] cv_Reader_175 sk_89 rfl d_Reader_lineBegun_16 rfl (Nat.le_of_ble_eq_true rfl) (by decide) (by decide) (c_Tape_isNameX_9 h b hI s sZ sE sK q qZ qE qK f fZ fE fK u uZ uE uK (TP_fr f0 (fun _ => rfl) hy0) (by (first | decide +kernel | omega))) (fun z89 h90 z89Z z89E p91 => ?_)
                                        obtain ⟨eh90, p91⟩ := p91
                                        subst eh90
                                        refine V_if_eq 24 z89E d_Reader_lineBegun_19 (by decide) (fun c92 => ?_) (fun c92 => ?_)
                                        ·
                                          refine V_iinc (v := 10) 1 [some (.ref 88), some (.int 10)] d_Reader_lineBegun_24 rfl (by decide) (by decide) rfl rfl ?_
                                          refine V_goto 2 d_Reader_lineBegun_27 (by decide) ?_
                                          refine V_iload_n 1 d_Reader_lineBegun_2 rfl rfl ?_
                                          refine V_bipush 10 d_Reader_lineBegun_3 (by decide) ?_
                                          refine V_icmp_ge 30 tc_10 tc_10 d_Reader_lineBegun_5 (by decide) (fun c94 => ?_) (fun c94 => ?_)
                                          ·
                                            refine V_iconst (-1) d_Reader_lineBegun_30 (by decide) ?_
                                            exact V_iret rfl d_Reader_lineBegun_31 ⟨(-1), rfl, ⟨rfl, (if q : qZ = 1 then Or.inr (tc_m1.trans (show x_ln b fZ uZ = (-1) from x_ln_no (by (first | decide +kernel | omega)) (by (first | decide +kernel | omega)) (by (first | decide +kernel | omega)) (by (first | decide +kernel | omega)) (by (first | decide +kernel | omega)) (by (first | decide +kernel | omega)) (by (first | decide +kernel | omega)) (by (first | decide +kernel | omega)) (by (first | decide +kernel | omega)) (by (first | decide +kernel | omega))).symm) else Or.inl q)⟩⟩
                                          ·
                                            exact absurd c94 (by decide)
                                        ·
                                          refine V_iload_n 1 d_Reader_lineBegun_22 rfl rfl ?_
                                          exact V_iret rfl d_Reader_lineBegun_23 ⟨9, rfl, ⟨rfl, (if q : qZ = 1 then Or.inr (tc_9.trans (show x_ln b fZ uZ = 9 from x_ln_of9 (by have := x_nmb9 b fZ uZ; omega)).symm) else Or.inl q)⟩⟩
                                    ·
                                      refine V_iload_n 1 d_Reader_lineBegun_22 rfl rfl ?_
                                      exact V_iret rfl d_Reader_lineBegun_23 ⟨8, rfl, ⟨rfl, (if q : qZ = 1 then Or.inr (tc_8.trans (show x_ln b fZ uZ = 8 from x_ln_of8 (by have := x_nmb8 b fZ uZ; omega)).symm) else Or.inl q)⟩⟩
                                ·
                                  refine V_iload_n 1 d_Reader_lineBegun_22 rfl rfl ?_
                                  exact V_iret rfl d_Reader_lineBegun_23 ⟨7, rfl, ⟨rfl, (if q : qZ = 1 then Or.inr (tc_7.trans (show x_ln b fZ uZ = 7 from x_ln_of7 (by have := x_nmb7 b fZ uZ; omega)).symm) else Or.inl q)⟩⟩
                            ·
                              refine V_iload_n 1 d_Reader_lineBegun_22 rfl rfl ?_
                              exact V_iret rfl d_Reader_lineBegun_23 ⟨6, rfl, ⟨rfl, (if q : qZ = 1 then Or.inr (tc_6.trans (show x_ln b fZ uZ = 6 from x_ln_of6 (by have := x_nmb6 b fZ uZ; omega)).symm) else Or.inl q)⟩⟩
                        ·
                          refine V_iload_n 1 d_Reader_lineBegun_22 rfl rfl ?_
                          exact V_iret rfl d_Reader_lineBegun_23 ⟨5, rfl, ⟨rfl, (if q : qZ = 1 then Or.inr (tc_5.trans (show x_ln b fZ uZ = 5 from x_ln_of5 (by have := x_nmb5 b fZ uZ; omega)).symm) else Or.inl q)⟩⟩
                    ·
                      refine V_iload_n 1 d_Reader_lineBegun_22 rfl rfl ?_
                      exact V_iret rfl d_Reader_lineBegun_23 ⟨4, rfl, ⟨rfl, (if q : qZ = 1 then Or.inr (tc_4.trans (show x_ln b fZ uZ = 4 from x_ln_of4 (by have := x_nmb4 b fZ uZ; omega)).symm) else Or.inl q)⟩⟩
                ·
                  refine V_iload_n 1 d_Reader_lineBegun_22 rfl rfl ?_
                  exact V_iret rfl d_Reader_lineBegun_23 ⟨3, rfl, ⟨rfl, (if q : qZ = 1 then Or.inr (tc_3.trans (show x_ln b fZ uZ = 3 from x_ln_of3 (by have := x_nmb3 b fZ uZ; omega)).symm) else Or.inl q)⟩⟩
            ·
              refine V_iload_n 1 d_Reader_lineBegun_22 rfl rfl ?_
              exact V_iret rfl d_Reader_lineBegun_23 ⟨2, rfl, ⟨rfl, (if q : qZ = 1 then Or.inr (tc_2.trans (show x_ln b fZ uZ = 2 from x_ln_of2 (by have := x_nmb2 b fZ uZ; omega)).symm) else Or.inl q)⟩⟩
        ·
          refine V_iload_n 1 d_Reader_lineBegun_22 rfl rfl ?_
          exact V_iret rfl d_Reader_lineBegun_23 ⟨1, rfl, ⟨rfl, (if q : qZ = 1 then Or.inr (tc_1.trans (show x_ln b fZ uZ = 1 from x_ln_of1 (by have := x_nmb1 b fZ uZ; omega)).symm) else Or.inl q)⟩⟩
    ·
      refine V_iload_n 1 d_Reader_lineBegun_22 rfl rfl ?_
      exact V_iret rfl d_Reader_lineBegun_23 ⟨0, rfl, ⟨rfl, (if q : qZ = 1 then Or.inr (tc_0.trans (show x_ln b fZ uZ = 0 from x_ln_of0 (by have := x_nmb0 b fZ uZ; omega)).symm) else Or.inl q)⟩⟩
abbrev q_Reader_natureNamedX (h : Hp) (b : Int → Int) (s : Int32) (sZ : Int) (q : Int32) (qZ : Int) (f : Int32) (fZ : Int) (u : Int32) (uZ : Int) : Option Value → Hp → Prop := pInt (fun r h' => h = h' ∧ (qZ ≠ 1 ∨ r.toInt = x_nt b fZ uZ))
set_option maxRecDepth 100000 in
theorem c_Reader_natureNamedX (h : Hp) (b : Int → Int) (hI : Inv h) (s : Int32) (sZ : Int) (sE : s.toInt = sZ) (sK : h.1 89 1 = s) (q : Int32) (qZ : Int) (qE : q.toInt = qZ) (qK : h.1 89 2 = q) (f : Int32) (fZ : Int) (fE : f.toInt = fZ) (fK : h.1 89 3 = f) (u : Int32) (uZ : Int) (uE : u.toInt = uZ) (uK : h.1 89 4 = u) (hy0 : TP h 90 sZ b) (hy1 : 0 ≤ fZ ∧ fZ ≤ uZ ∧ uZ ≤ sZ ∧ sZ ≤ 160) : Ct y_Reader_natureNamed b_Reader_natureNamed 2 (some .int) 5 108 [.ref 88] h (q_Reader_natureNamedX h b s sZ q qZ f fZ u uZ) := by
  refine ct_ow R_Reader [some (.ref 88), none] rfl (by decide) rfl (Nat.le_of_ble_eq_true rfl) ?_
  have f0 : fr [] h h := fr_rf
  have g1 : 0 ≤ sZ ∧ sZ ≤ 160 := inv_at hI sE sK.symm rfl
  have g2 : 0 ≤ fZ ∧ fZ ≤ 160 := inv_at hI fE fK.symm rfl
  have g3 : 0 ≤ uZ ∧ uZ ≤ 160 := inv_at hI uE uK.symm rfl
  refine V_iconst 0 d_Reader_natureNamed_0 (by decide) ?_
  refine V_istore_n 1 [some (.ref 88), some (.int 0)] d_Reader_natureNamed_1 rfl (by decide) rfl rfl ?_
  refine V_iload_n 1 d_Reader_natureNamed_2 rfl rfl ?_
  refine V_iconst 5 d_Reader_natureNamed_3 (by decide) ?_
  refine V_icmp_ge 29 tc_0 tc_5 d_Reader_natureNamed_4 (by decide) (fun c4 => ?_) (fun c4 => ?_)
  ·
    exact absurd c4 (by decide)
  ·
    refine V_aload_n 0 d_Reader_natureNamed_7 rfl rfl ?_
    refine V_getR fa_Reader_12 sk_88 rfl d_Reader_natureNamed_8 ?_
    refine V_iload_n 1 d_Reader_natureNamed_11 rfl rfl ?_
    refine N_callSR [.int 0] [.ref 89] cs_Reader_179 d_Reader_natureNamed_12 rfl (Nat.le_of_ble_eq_true rfl) (by decide) (by decide) (c_Reader_natureNameX_0 h) (fun z5 h6 p7 => ?_)
    obtain ⟨eh6, rfl⟩ := p7
    subst eh6
    refine N_callVI [.ref (135 + 10)] [] cv_Reader_175 sk_89 rfl d_Reader_natureNamed_15 rfl (Nat.le_of_ble_eq_true rfl) (by decide) (by decide) (c_Tape_isNameX_10 h b hI s sZ sE sK q qZ qE qK f fZ fE fK u uZ uE uK (TP_fr f0 (fun _ => rfl) hy0) (by (first | decide +kernel | omega))) (fun z8 h9 z8Z z8E p10 => ?_)
    obtain ⟨eh9, p10⟩ := p10
    subst eh9
    refine V_if_eq 23 z8E d_Reader_natureNamed_18 (by decide) (fun c11 => ?_) (fun c11 => ?_)
    ·
      refine V_iinc (v := 1) 1 [some (.ref 88), some (.int 1)] d_Reader_natureNamed_23 rfl (by decide) (by decide) rfl rfl ?_
      refine V_goto 2 d_Reader_natureNamed_26 (by decide) ?_
      refine V_iload_n 1 d_Reader_natureNamed_2 rfl rfl ?_
      refine V_iconst 5 d_Reader_natureNamed_3 (by decide) ?_
      refine V_icmp_ge 29 tc_1 tc_5 d_Reader_natureNamed_4 (by decide) (fun c13 => ?_) (fun c13 => ?_)
      ·
        exact absurd c13 (by decide)
      ·
        refine V_aload_n 0 d_Reader_natureNamed_7 rfl rfl ?_
        refine V_getR fa_Reader_12 sk_88 rfl d_Reader_natureNamed_8 ?_
        refine V_iload_n 1 d_Reader_natureNamed_11 rfl rfl ?_
        refine N_callSR [.int 1] [.ref 89] cs_Reader_179 d_Reader_natureNamed_12 rfl (Nat.le_of_ble_eq_true rfl) (by decide) (by decide) (c_Reader_natureNameX_1 h) (fun z14 h15 p16 => ?_)
        obtain ⟨eh15, rfl⟩ := p16
        subst eh15
        refine N_callVI [.ref (135 + 2)] [] cv_Reader_175 sk_89 rfl d_Reader_natureNamed_15 rfl (Nat.le_of_ble_eq_true rfl) (by decide) (by decide) (c_Tape_isNameX_2 h b hI s sZ sE sK q qZ qE qK f fZ fE fK u uZ uE uK (TP_fr f0 (fun _ => rfl) hy0) (by (first | decide +kernel | omega))) (fun z17 h18 z17Z z17E p19 => ?_)
        obtain ⟨eh18, p19⟩ := p19
        subst eh18
        refine V_if_eq 23 z17E d_Reader_natureNamed_18 (by decide) (fun c20 => ?_) (fun c20 => ?_)
        ·
          refine V_iinc (v := 2) 1 [some (.ref 88), some (.int 2)] d_Reader_natureNamed_23 rfl (by decide) (by decide) rfl rfl ?_
          refine V_goto 2 d_Reader_natureNamed_26 (by decide) ?_
          refine V_iload_n 1 d_Reader_natureNamed_2 rfl rfl ?_
          refine V_iconst 5 d_Reader_natureNamed_3 (by decide) ?_
          refine V_icmp_ge 29 tc_2 tc_5 d_Reader_natureNamed_4 (by decide) (fun c22 => ?_) (fun c22 => ?_)
          ·
            exact absurd c22 (by decide)
          ·
            refine V_aload_n 0 d_Reader_natureNamed_7 rfl rfl ?_
            refine V_getR fa_Reader_12 sk_88 rfl d_Reader_natureNamed_8 ?_
            refine V_iload_n 1 d_Reader_natureNamed_11 rfl rfl ?_
            refine N_callSR [.int 2] [.ref 89] cs_Reader_179 d_Reader_natureNamed_12 rfl (Nat.le_of_ble_eq_true rfl) (by decide) (by decide) (c_Reader_natureNameX_2 h) (fun z23 h24 p25 => ?_)
            obtain ⟨eh24, rfl⟩ := p25
            subst eh24
            refine N_callVI [.ref (135 + 11)] [] cv_Reader_175 sk_89 rfl d_Reader_natureNamed_15 rfl (Nat.le_of_ble_eq_true rfl) (by decide) (by decide) (c_Tape_isNameX_11 h b hI s sZ sE sK q qZ qE qK f fZ fE fK u uZ uE uK (TP_fr f0 (fun _ => rfl) hy0) (by (first | decide +kernel | omega))) (fun z26 h27 z26Z z26E p28 => ?_)
            obtain ⟨eh27, p28⟩ := p28
            subst eh27
            refine V_if_eq 23 z26E d_Reader_natureNamed_18 (by decide) (fun c29 => ?_) (fun c29 => ?_)
            ·
              refine V_iinc (v := 3) 1 [some (.ref 88), some (.int 3)] d_Reader_natureNamed_23 rfl (by decide) (by decide) rfl rfl ?_
              refine V_goto 2 d_Reader_natureNamed_26 (by decide) ?_
              refine V_iload_n 1 d_Reader_natureNamed_2 rfl rfl ?_
              refine V_iconst 5 d_Reader_natureNamed_3 (by decide) ?_
              refine V_icmp_ge 29 tc_3 tc_5 d_Reader_natureNamed_4 (by decide) (fun c31 => ?_) (fun c31 => ?_)
              ·
                exact absurd c31 (by decide)
              ·
                refine V_aload_n 0 d_Reader_natureNamed_7 rfl rfl ?_
                refine V_getR fa_Reader_12 sk_88 rfl d_Reader_natureNamed_8 ?_
                refine V_iload_n 1 d_Reader_natureNamed_11 rfl rfl ?_
                refine N_callSR [.int 3] [.ref 89] cs_Reader_179 d_Reader_natureNamed_12 rfl (Nat.le_of_ble_eq_true rfl) (by decide) (by decide) (c_Reader_natureNameX_3 h) (fun z32 h33 p34 => ?_)
                obtain ⟨eh33, rfl⟩ := p34
                subst eh33
                refine N_callVI [.ref (135 + 12)] [] cv_Reader_175 sk_89 rfl d_Reader_natureNamed_15 rfl (Nat.le_of_ble_eq_true rfl) (by decide) (by decide) (c_Tape_isNameX_12 h b hI s sZ sE sK q qZ qE qK f fZ fE fK u uZ uE uK (TP_fr f0 (fun _ => rfl) hy0) (by (first | decide +kernel | omega))) (fun z35 h36 z35Z z35E p37 => ?_)
                obtain ⟨eh36, p37⟩ := p37
                subst eh36
                refine V_if_eq 23 z35E d_Reader_natureNamed_18 (by decide) (fun c38 => ?_) (fun c38 => ?_)
                ·
                  refine V_iinc (v := 4) 1 [some (.ref 88), some (.int 4)] d_Reader_natureNamed_23 rfl (by decide) (by decide) rfl rfl ?_
                  refine V_goto 2 d_Reader_natureNamed_26 (by decide) ?_
                  refine V_iload_n 1 d_Reader_natureNamed_2 rfl rfl ?_
                  refine V_iconst 5 d_Reader_natureNamed_3 (by decide) ?_
                  refine V_icmp_ge 29 tc_4 tc_5 d_Reader_natureNamed_4 (by decide) (fun c40 => ?_) (fun c40 => ?_)
                  ·
                    exact absurd c40 (by decide)
                  ·
                    refine V_aload_n 0 d_Reader_natureNamed_7 rfl rfl ?_
                    refine V_getR fa_Reader_12 sk_88 rfl d_Reader_natureNamed_8 ?_
                    refine V_iload_n 1 d_Reader_natureNamed_11 rfl rfl ?_
                    refine N_callSR [.int 4] [.ref 89] cs_Reader_179 d_Reader_natureNamed_12 rfl (Nat.le_of_ble_eq_true rfl) (by decide) (by decide) (c_Reader_natureNameX_4 h) (fun z41 h42 p43 => ?_)
                    obtain ⟨eh42, rfl⟩ := p43
                    subst eh42
                    refine N_callVI [.ref (135 + 13)] [] cv_Reader_175 sk_89 rfl d_Reader_natureNamed_15 rfl (Nat.le_of_ble_eq_true rfl) (by decide) (by decide) (c_Tape_isNameX_13 h b hI s sZ sE sK q qZ qE qK f fZ fE fK u uZ uE uK (TP_fr f0 (fun _ => rfl) hy0) (by (first | decide +kernel | omega))) (fun z44 h45 z44Z z44E p46 => ?_)
                    obtain ⟨eh45, p46⟩ := p46
                    subst eh45
                    refine V_if_eq 23 z44E d_Reader_natureNamed_18 (by decide) (fun c47 => ?_) (fun c47 => ?_)
                    ·
                      refine V_iinc (v := 5) 1 [some (.ref 88), some (.int 5)] d_Reader_natureNamed_23 rfl (by decide) (by decide) rfl rfl ?_
                      refine V_goto 2 d_Reader_natureNamed_26 (by decide) ?_
                      refine V_iload_n 1 d_Reader_natureNamed_2 rfl rfl ?_
                      refine V_iconst 5 d_Reader_natureNamed_3 (by decide) ?_
                      refine V_icmp_ge 29 tc_5 tc_5 d_Reader_natureNamed_4 (by decide) (fun c49 => ?_) (fun c49 => ?_)
                      ·
                        refine V_iconst (-1) d_Reader_natureNamed_29 (by decide) ?_
                        exact V_iret rfl d_Reader_natureNamed_30 ⟨(-1), rfl, ⟨rfl, (if q : qZ = 1 then Or.inr (tc_m1.trans (show x_nt b fZ uZ = (-1) from x_nt_no (by (first | decide +kernel | omega)) (by (first | decide +kernel | omega)) (by (first | decide +kernel | omega)) (by (first | decide +kernel | omega)) (by (first | decide +kernel | omega))).symm) else Or.inl q)⟩⟩
                      ·
                        exact absurd c49 (by decide)
                    ·
                      refine V_iload_n 1 d_Reader_natureNamed_21 rfl rfl ?_
                      exact V_iret rfl d_Reader_natureNamed_22 ⟨4, rfl, ⟨rfl, (if q : qZ = 1 then Or.inr (tc_4.trans (show x_nt b fZ uZ = 4 from x_nt_of4 (by have := x_nmb13 b fZ uZ; omega)).symm) else Or.inl q)⟩⟩
                ·
                  refine V_iload_n 1 d_Reader_natureNamed_21 rfl rfl ?_
                  exact V_iret rfl d_Reader_natureNamed_22 ⟨3, rfl, ⟨rfl, (if q : qZ = 1 then Or.inr (tc_3.trans (show x_nt b fZ uZ = 3 from x_nt_of3 (by have := x_nmb12 b fZ uZ; omega)).symm) else Or.inl q)⟩⟩
            ·
              refine V_iload_n 1 d_Reader_natureNamed_21 rfl rfl ?_
              exact V_iret rfl d_Reader_natureNamed_22 ⟨2, rfl, ⟨rfl, (if q : qZ = 1 then Or.inr (tc_2.trans (show x_nt b fZ uZ = 2 from x_nt_of2 (by have := x_nmb11 b fZ uZ; omega)).symm) else Or.inl q)⟩⟩
        ·
          refine V_iload_n 1 d_Reader_natureNamed_21 rfl rfl ?_
          exact V_iret rfl d_Reader_natureNamed_22 ⟨1, rfl, ⟨rfl, (if q : qZ = 1 then Or.inr (tc_1.trans (show x_nt b fZ uZ = 1 from x_nt_of1 (by have := x_nmb2 b fZ uZ; omega)).symm) else Or.inl q)⟩⟩
    ·
      refine V_iload_n 1 d_Reader_natureNamed_21 rfl rfl ?_
      exact V_iret rfl d_Reader_natureNamed_22 ⟨0, rfl, ⟨rfl, (if q : qZ = 1 then Or.inr (tc_0.trans (show x_nt b fZ uZ = 0 from x_nt_of0 (by have := x_nmb10 b fZ uZ; omega)).symm) else Or.inl q)⟩⟩
end
section
def S_Mod_needsX : List (Nat × Option Nat) := [(116, some 20), (116, some 21)]
abbrev q_Mod_needsX (h : Hp) (g : Int32) (gZ : Int) (c : Int32) (cZ : Int) (f : Int32) (fZ : Int) (w : Int32) (wZ : Int) (a : Int32) (aZ : Int) : Option Value → Hp → Prop := pVd (fun h' => Inv h' ∧ fr S_Mod_needsX h h' ∧ ∃ (u : Int32) (uZ : Int), u.toInt = uZ ∧ h'.1 116 20 = u ∧ ∃ (y : Int32) (yZ : Int), y.toInt = yZ ∧ h'.1 116 21 = y ∧ ((gZ ≠ 0 ∨ wZ ≠ 0) ∧ uZ = wZ ∧ yZ = aZ ∨ gZ = 0 ∧ wZ = 0 ∧ uZ = cZ ∧ yZ = fZ))
set_option maxRecDepth 100000 in
theorem c_Mod_needsX (h : Hp) (hI : Inv h) (g : Int32) (gZ : Int) (gE : g.toInt = gZ) (c : Int32) (cZ : Int) (cE : c.toInt = cZ) (f : Int32) (fZ : Int) (fE : f.toInt = fZ) (fK : h.1 116 17 = f) (w : Int32) (wZ : Int) (wE : w.toInt = wZ) (wK : h.1 116 20 = w) (a : Int32) (aZ : Int) (aE : a.toInt = aZ) (aK : h.1 116 21 = a) : Ct y_Mod_needs b_Mod_needs 3 none 0 0 [.ref 116, .int g, .int c] h (q_Mod_needsX h g gZ c cZ f fZ w wZ a aZ) := by
  refine ct_ow R_Mod [some (.ref 116), some (.int g), some (.int c)] rfl (by decide) rfl (Nat.le_of_ble_eq_true rfl) ?_
  have f0 : fr S_Mod_needsX h h := fr_rf
  have g1 : 0 ≤ fZ ∧ fZ ≤ 160 := inv_at hI fE fK.symm rfl
  refine V_iload_n 1 d_Mod_needs_0 rfl rfl ?_
  refine V_if_ne 24 gE d_Mod_needs_1 (by decide) (fun c2 => ?_) (fun c2 => ?_)
  ·
    exact V_vret rfl d_Mod_needs_24 ⟨rfl, ⟨hI, f0, w, wZ, wE, wK, a, aZ, aE, aK, (by (first | decide +kernel | omega))⟩⟩
  ·
    refine V_aload_n 0 d_Mod_needs_4 rfl rfl ?_
    refine N_getK fa_Mod_102 sk_116 rfl d_Mod_needs_5 wK ?_
    refine V_if_ne 24 wE d_Mod_needs_8 (by decide) (fun c3 => ?_) (fun c3 => ?_)
    ·
      exact V_vret rfl d_Mod_needs_24 ⟨rfl, ⟨hI, f0, w, wZ, wE, wK, a, aZ, aE, aK, (by (first | decide +kernel | omega))⟩⟩
    ·
      refine V_aload_n 0 d_Mod_needs_11 rfl rfl ?_
      refine V_iload_n 2 d_Mod_needs_12 rfl rfl ?_
      refine N_putI fp_Mod_102 sk_116 rfl d_Mod_needs_13 (fun h4 eh4 => ?_)
      have hI5 : Inv h4 := inv_full hI eh4 rfl
      have f6 : fr S_Mod_needsX h h4 := fr_put f0 eh4 rfl
      refine V_aload_n 0 d_Mod_needs_16 rfl rfl ?_
      refine V_aload_n 0 d_Mod_needs_17 rfl rfl ?_
      refine N_getK fa_Mod_105 sk_116 rfl d_Mod_needs_18 (kn_nei eh4 fK (by decide)) ?_
      refine N_putI fp_Mod_108 sk_116 rfl d_Mod_needs_21 (fun h7 eh7 => ?_)
      have hI8 : Inv h7 := inv_full hI5 eh7 rfl
      have f9 : fr S_Mod_needsX h h7 := fr_put f6 eh7 rfl
      exact V_vret rfl d_Mod_needs_24 ⟨rfl, ⟨hI8, f9, c, cZ, cE, (kn_nei eh7 (kn_put eh4) (by decide)), f, fZ, fE, (kn_put eh7), (by (first | decide +kernel | omega))⟩⟩
abbrev q_Mod_lookX (h : Hp) (b : Int → Int) (j : Int32) (jZ : Int) (s : Int32) (sZ : Int) : Option Value → Hp → Prop := pInt (fun r h' => h = h' ∧ (r.toInt = b jZ))
set_option maxRecDepth 100000 in
theorem c_Mod_lookX (h : Hp) (b : Int → Int) (hI : Inv h) (j : Int32) (jZ : Int) (jE : j.toInt = jZ) (s : Int32) (sZ : Int) (sE : s.toInt = sZ) (sK : h.1 116 15 = s) (hy0 : TP h 121 sZ b) (hy1 : 0 ≤ jZ) : Ct y_Mod_look b_Mod_look 2 (some .int) 0 0 [.ref 116, .int j] h (q_Mod_lookX h b j jZ s sZ) := by
  refine ct_ow R_Mod [some (.ref 116), some (.int j)] rfl (by decide) rfl (Nat.le_of_ble_eq_true rfl) ?_
  have f0 : fr [] h h := fr_rf
  have g1 : 0 ≤ sZ ∧ sZ ≤ 160 := inv_at hI sE sK.symm rfl
  refine V_iload_n 1 d_Mod_look_0 rfl rfl ?_
  refine V_aload_n 0 d_Mod_look_1 rfl rfl ?_
  refine N_getK fa_Mod_99 sk_116 rfl d_Mod_look_2 sK ?_
  refine V_icmp_ge 17 jE sE d_Mod_look_5 (by decide) (fun c2 => ?_) (fun c2 => ?_)
  ·
    refine V_iconst (-1) d_Mod_look_17 (by decide) ?_
    exact V_iret rfl d_Mod_look_18 ⟨(-1), rfl, ⟨rfl, (by have := TP_b hy0 jZ (by (first | decide +kernel | omega)); (try rw [tc_m1]); omega)⟩⟩
  ·
    refine V_aload_n 0 d_Mod_look_8 rfl rfl ?_
    refine V_getR fa_Mod_23 sk_116 rfl d_Mod_look_9 ?_
    refine V_iload_n 1 d_Mod_look_12 rfl rfl ?_
    refine N_iald sk_121 jE (by (first | decide +kernel | omega)) d_Mod_look_13 (fun z3 z3Z z3E z3e => ?_)
    have g4 : z3Z = b jZ := TP_rd (TP_fr f0 (fun _ => rfl) hy0) (by (first | decide +kernel | omega)) z3E z3e
    refine V_goto 18 d_Mod_look_14 (by decide) ?_
    exact V_iret rfl d_Mod_look_18 ⟨z3, rfl, ⟨rfl, (by have := TP_b hy0 jZ (by (first | decide +kernel | omega)); (try rw [z3E]); omega)⟩⟩
abbrev q_Mod_isX (h : Hp) (b : Int → Int) (n : Int32) (nZ : Int) (a : Int32) (aZ : Int) (c : Int32) (cZ : Int) (d : Int32) (dZ : Int) (s : Int32) (sZ : Int) (p : Int32) (pZ : Int) (f : Int32) (fZ : Int) : Option Value → Hp → Prop := pInt (fun r h' => h = h' ∧ (r.toInt = x_is b fZ pZ nZ aZ cZ dZ ∧ 0 ≤ r.toInt ∧ r.toInt ≤ 1))
set_option maxRecDepth 100000 in
theorem c_Mod_isX (h : Hp) (b : Int → Int) (hI : Inv h) (n : Int32) (nZ : Int) (nE : n.toInt = nZ) (a : Int32) (aZ : Int) (aE : a.toInt = aZ) (c : Int32) (cZ : Int) (cE : c.toInt = cZ) (d : Int32) (dZ : Int) (dE : d.toInt = dZ) (s : Int32) (sZ : Int) (sE : s.toInt = sZ) (sK : h.1 116 15 = s) (p : Int32) (pZ : Int) (pE : p.toInt = pZ) (pK : h.1 116 16 = p) (f : Int32) (fZ : Int) (fE : f.toInt = fZ) (fK : h.1 116 17 = f) (hy0 : TP h 121 sZ b) (hy1 : 0 ≤ fZ ∧ fZ ≤ 160) (hy2 : 0 ≤ pZ ∧ pZ ≤ 160) : Ct y_Mod_is b_Mod_is 5 (some .boolean) 1 21 [.ref 116, .int n, .int a, .int c, .int d] h (q_Mod_isX h b n nZ a aZ c cZ d dZ s sZ p pZ f fZ) := by
  refine ct_ow R_Mod [some (.ref 116), some (.int n), some (.int a), some (.int c), some (.int d)] rfl (by decide) rfl (Nat.le_of_ble_eq_true rfl) ?_
  have f0 : fr [] h h := fr_rf
  have g1 : 0 ≤ sZ ∧ sZ ≤ 160 := inv_at hI sE sK.symm rfl
  have g2 : 0 ≤ pZ ∧ pZ ≤ 160 := inv_at hI pE pK.symm rfl
  have g3 : 0 ≤ fZ ∧ fZ ≤ 160 := inv_at hI fE fK.symm rfl
  refine V_aload_n 0 d_Mod_is_0 rfl rfl ?_
  refine N_getK fa_Mod_111 sk_116 rfl d_Mod_is_1 pK ?_
  refine V_aload_n 0 d_Mod_is_4 rfl rfl ?_
  refine N_getK fa_Mod_105 sk_116 rfl d_Mod_is_5 fK ?_
  refine V_isub pE fE (by (first | decide +kernel | omega)) d_Mod_is_8 (fun z4 z4e z4E => ?_)
  refine V_iload_n 1 d_Mod_is_9 rfl rfl ?_
  refine V_icmp_ne 58 z4E nE d_Mod_is_10 (by decide) (fun c5 => ?_) (fun c5 => ?_)
  ·
    refine V_iconst 0 d_Mod_is_58 (by decide) ?_
    exact V_zret rfl (by decide) d_Mod_is_59 ⟨0, rfl, ⟨rfl, ⟨tc_0.trans (x_is0 (by have h0 := congrArg b (Int.add_zero fZ); omega)).symm, by decide, by decide⟩⟩⟩
  ·
    refine V_aload_n 0 d_Mod_is_13 rfl rfl ?_
    refine V_aload_n 0 d_Mod_is_14 rfl rfl ?_
    refine N_getK fa_Mod_105 sk_116 rfl d_Mod_is_15 fK ?_
    refine N_callVI [.int f] [] cv_Mod_114 sk_116 rfl d_Mod_is_18 rfl (Nat.le_of_ble_eq_true rfl) (by decide) (by decide) (c_Mod_lookX h b hI f fZ fE s sZ sE sK (TP_fr f0 (fun _ => rfl) hy0) (by (first | decide +kernel | omega))) (fun z6 h7 z6Z z6E p8 => ?_)
    obtain ⟨eh7, p8⟩ := p8
    subst eh7
    refine V_iload_n 2 d_Mod_is_21 rfl rfl ?_
    refine V_icmp_ne 58 z6E aE d_Mod_is_22 (by decide) (fun c9 => ?_) (fun c9 => ?_)
    ·
      refine V_iconst 0 d_Mod_is_58 (by decide) ?_
      exact V_zret rfl (by decide) d_Mod_is_59 ⟨0, rfl, ⟨rfl, ⟨tc_0.trans (x_is0 (by have h0 := congrArg b (Int.add_zero fZ); omega)).symm, by decide, by decide⟩⟩⟩
    ·
      refine V_aload_n 0 d_Mod_is_25 rfl rfl ?_
      refine V_aload_n 0 d_Mod_is_26 rfl rfl ?_
      refine N_getK fa_Mod_105 sk_116 rfl d_Mod_is_27 fK ?_
      refine V_iconst 1 d_Mod_is_30 (by decide) ?_
      refine V_iadd fE tc_1 (by (first | decide +kernel | omega)) d_Mod_is_31 (fun z10 z10e z10E => ?_)
      refine N_callVI [.int z10] [] cv_Mod_114 sk_116 rfl d_Mod_is_32 rfl (Nat.le_of_ble_eq_true rfl) (by decide) (by decide) (c_Mod_lookX h b hI z10 ((fZ + 1)) z10E s sZ sE sK (TP_fr f0 (fun _ => rfl) hy0) (by (first | decide +kernel | omega))) (fun z11 h12 z11Z z11E p13 => ?_)
      obtain ⟨eh12, p13⟩ := p13
      subst eh12
      refine V_iload_n 3 d_Mod_is_35 rfl rfl ?_
      refine V_icmp_ne 58 z11E cE d_Mod_is_36 (by decide) (fun c14 => ?_) (fun c14 => ?_)
      ·
        refine V_iconst 0 d_Mod_is_58 (by decide) ?_
        exact V_zret rfl (by decide) d_Mod_is_59 ⟨0, rfl, ⟨rfl, ⟨tc_0.trans (x_is0 (by have h0 := congrArg b (Int.add_zero fZ); omega)).symm, by decide, by decide⟩⟩⟩
      ·
        refine V_aload_n 0 d_Mod_is_39 rfl rfl ?_
        refine V_aload_n 0 d_Mod_is_40 rfl rfl ?_
        refine N_getK fa_Mod_105 sk_116 rfl d_Mod_is_41 fK ?_
        refine V_iconst 2 d_Mod_is_44 (by decide) ?_
        refine V_iadd fE tc_2 (by (first | decide +kernel | omega)) d_Mod_is_45 (fun z15 z15e z15E => ?_)
        refine N_callVI [.int z15] [] cv_Mod_114 sk_116 rfl d_Mod_is_46 rfl (Nat.le_of_ble_eq_true rfl) (by decide) (by decide) (c_Mod_lookX h b hI z15 ((fZ + 2)) z15E s sZ sE sK (TP_fr f0 (fun _ => rfl) hy0) (by (first | decide +kernel | omega))) (fun z16 h17 z16Z z16E p18 => ?_)
        obtain ⟨eh17, p18⟩ := p18
        subst eh17
        refine V_iload d_Mod_is_49 rfl ?_
        refine V_icmp_ne 58 z16E dE d_Mod_is_51 (by decide) (fun c19 => ?_) (fun c19 => ?_)
        ·
          refine V_iconst 0 d_Mod_is_58 (by decide) ?_
          exact V_zret rfl (by decide) d_Mod_is_59 ⟨0, rfl, ⟨rfl, ⟨tc_0.trans (x_is0 (by have h0 := congrArg b (Int.add_zero fZ); omega)).symm, by decide, by decide⟩⟩⟩
        ·
          refine V_iconst 1 d_Mod_is_54 (by decide) ?_
          refine V_goto 59 d_Mod_is_55 (by decide) ?_
          exact V_zret rfl (by decide) d_Mod_is_59 ⟨1, rfl, ⟨rfl, ⟨tc_1.trans (x_is1 (by have h0 := congrArg b (Int.add_zero fZ); omega)).symm, by decide, by decide⟩⟩⟩
abbrev q_Mod_endsX (h : Hp) (b : Int → Int) (a : Int32) (aZ : Int) (c : Int32) (cZ : Int) (d : Int32) (dZ : Int) (s : Int32) (sZ : Int) (f : Int32) (fZ : Int) : Option Value → Hp → Prop := pInt (fun r h' => h = h' ∧ (r.toInt = x_ens b fZ aZ cZ dZ ∧ 0 ≤ r.toInt ∧ r.toInt ≤ 1))
set_option maxRecDepth 100000 in
theorem c_Mod_endsX (h : Hp) (b : Int → Int) (hI : Inv h) (a : Int32) (aZ : Int) (aE : a.toInt = aZ) (c : Int32) (cZ : Int) (cE : c.toInt = cZ) (d : Int32) (dZ : Int) (dE : d.toInt = dZ) (s : Int32) (sZ : Int) (sE : s.toInt = sZ) (sK : h.1 116 15 = s) (f : Int32) (fZ : Int) (fE : f.toInt = fZ) (fK : h.1 116 17 = f) (hy0 : TP h 121 sZ b) (hy1 : 0 ≤ fZ ∧ fZ ≤ 160) : Ct y_Mod_ends b_Mod_ends 4 (some .boolean) 1 21 [.ref 116, .int a, .int c, .int d] h (q_Mod_endsX h b a aZ c cZ d dZ s sZ f fZ) := by
  refine ct_ow R_Mod [some (.ref 116), some (.int a), some (.int c), some (.int d)] rfl (by decide) rfl (Nat.le_of_ble_eq_true rfl) ?_
  have f0 : fr [] h h := fr_rf
  have g1 : 0 ≤ sZ ∧ sZ ≤ 160 := inv_at hI sE sK.symm rfl
  have g2 : 0 ≤ fZ ∧ fZ ≤ 160 := inv_at hI fE fK.symm rfl
  refine V_aload_n 0 d_Mod_ends_0 rfl rfl ?_
  refine V_aload_n 0 d_Mod_ends_1 rfl rfl ?_
  refine N_getK fa_Mod_105 sk_116 rfl d_Mod_ends_2 fK ?_
  refine V_iconst 3 d_Mod_ends_5 (by decide) ?_
  refine V_iadd fE tc_3 (by (first | decide +kernel | omega)) d_Mod_ends_6 (fun z3 z3e z3E => ?_)
  refine N_callVI [.int z3] [] cv_Mod_114 sk_116 rfl d_Mod_ends_7 rfl (Nat.le_of_ble_eq_true rfl) (by decide) (by decide) (c_Mod_lookX h b hI z3 ((fZ + 3)) z3E s sZ sE sK (TP_fr f0 (fun _ => rfl) hy0) (by (first | decide +kernel | omega))) (fun z4 h5 z4Z z4E p6 => ?_)
  obtain ⟨eh5, p6⟩ := p6
  subst eh5
  refine V_iload_n 1 d_Mod_ends_10 rfl rfl ?_
  refine V_icmp_ne 54 z4E aE d_Mod_ends_11 (by decide) (fun c7 => ?_) (fun c7 => ?_)
  ·
    refine V_iconst 0 d_Mod_ends_54 (by decide) ?_
    exact V_zret rfl (by decide) d_Mod_ends_55 ⟨0, rfl, ⟨rfl, ⟨tc_0.trans (x_ens0 (by (first | decide +kernel | omega))).symm, by decide, by decide⟩⟩⟩
  ·
    refine V_iload_n 2 d_Mod_ends_14 rfl rfl ?_
    refine V_if_eq 32 cE d_Mod_ends_15 (by decide) (fun c8 => ?_) (fun c8 => ?_)
    ·
      refine V_iload_n 3 d_Mod_ends_32 rfl rfl ?_
      refine V_if_eq 50 dE d_Mod_ends_33 (by decide) (fun c9 => ?_) (fun c9 => ?_)
      ·
        refine V_iconst 1 d_Mod_ends_50 (by decide) ?_
        refine V_goto 55 d_Mod_ends_51 (by decide) ?_
        exact V_zret rfl (by decide) d_Mod_ends_55 ⟨1, rfl, ⟨rfl, ⟨tc_1.trans (x_ens1 (by (first | decide +kernel | omega))).symm, by decide, by decide⟩⟩⟩
      ·
        refine V_aload_n 0 d_Mod_ends_36 rfl rfl ?_
        refine V_aload_n 0 d_Mod_ends_37 rfl rfl ?_
        refine N_getK fa_Mod_105 sk_116 rfl d_Mod_ends_38 fK ?_
        refine V_iconst 5 d_Mod_ends_41 (by decide) ?_
        refine V_iadd fE tc_5 (by (first | decide +kernel | omega)) d_Mod_ends_42 (fun z10 z10e z10E => ?_)
        refine N_callVI [.int z10] [] cv_Mod_114 sk_116 rfl d_Mod_ends_43 rfl (Nat.le_of_ble_eq_true rfl) (by decide) (by decide) (c_Mod_lookX h b hI z10 ((fZ + 5)) z10E s sZ sE sK (TP_fr f0 (fun _ => rfl) hy0) (by (first | decide +kernel | omega))) (fun z11 h12 z11Z z11E p13 => ?_)
        obtain ⟨eh12, p13⟩ := p13
        subst eh12
        refine V_iload_n 3 d_Mod_ends_46 rfl rfl ?_
        refine V_icmp_ne 54 z11E dE d_Mod_ends_47 (by decide) (fun c14 => ?_) (fun c14 => ?_)
        ·
          refine V_iconst 0 d_Mod_ends_54 (by decide) ?_
          exact V_zret rfl (by decide) d_Mod_ends_55 ⟨0, rfl, ⟨rfl, ⟨tc_0.trans (x_ens0 (by (first | decide +kernel | omega))).symm, by decide, by decide⟩⟩⟩
        ·
          refine V_iconst 1 d_Mod_ends_50 (by decide) ?_
          refine V_goto 55 d_Mod_ends_51 (by decide) ?_
          exact V_zret rfl (by decide) d_Mod_ends_55 ⟨1, rfl, ⟨rfl, ⟨tc_1.trans (x_ens1 (by (first | decide +kernel | omega))).symm, by decide, by decide⟩⟩⟩
    ·
      refine V_aload_n 0 d_Mod_ends_18 rfl rfl ?_
      refine V_aload_n 0 d_Mod_ends_19 rfl rfl ?_
      refine N_getK fa_Mod_105 sk_116 rfl d_Mod_ends_20 fK ?_
      refine V_iconst 4 d_Mod_ends_23 (by decide) ?_
      refine V_iadd fE tc_4 (by (first | decide +kernel | omega)) d_Mod_ends_24 (fun z15 z15e z15E => ?_)
      refine N_callVI [.int z15] [] cv_Mod_114 sk_116 rfl d_Mod_ends_25 rfl (Nat.le_of_ble_eq_true rfl) (by decide) (by decide) (c_Mod_lookX h b hI z15 ((fZ + 4)) z15E s sZ sE sK (TP_fr f0 (fun _ => rfl) hy0) (by (first | decide +kernel | omega))) (fun z16 h17 z16Z z16E p18 => ?_)
      obtain ⟨eh17, p18⟩ := p18
      subst eh17
      refine V_iload_n 2 d_Mod_ends_28 rfl rfl ?_
      refine V_icmp_ne 54 z16E cE d_Mod_ends_29 (by decide) (fun c19 => ?_) (fun c19 => ?_)
      ·
        refine V_iconst 0 d_Mod_ends_54 (by decide) ?_
        exact V_zret rfl (by decide) d_Mod_ends_55 ⟨0, rfl, ⟨rfl, ⟨tc_0.trans (x_ens0 (by (first | decide +kernel | omega))).symm, by decide, by decide⟩⟩⟩
      ·
        refine V_iload_n 3 d_Mod_ends_32 rfl rfl ?_
        refine V_if_eq 50 dE d_Mod_ends_33 (by decide) (fun c20 => ?_) (fun c20 => ?_)
        ·
          refine V_iconst 1 d_Mod_ends_50 (by decide) ?_
          refine V_goto 55 d_Mod_ends_51 (by decide) ?_
          exact V_zret rfl (by decide) d_Mod_ends_55 ⟨1, rfl, ⟨rfl, ⟨tc_1.trans (x_ens1 (by (first | decide +kernel | omega))).symm, by decide, by decide⟩⟩⟩
        ·
          refine V_aload_n 0 d_Mod_ends_36 rfl rfl ?_
          refine V_aload_n 0 d_Mod_ends_37 rfl rfl ?_
          refine N_getK fa_Mod_105 sk_116 rfl d_Mod_ends_38 fK ?_
          refine V_iconst 5 d_Mod_ends_41 (by decide) ?_
          refine V_iadd fE tc_5 (by (first | decide +kernel | omega)) d_Mod_ends_42 (fun z21 z21e z21E => ?_)
          refine N_callVI [.int z21] [] cv_Mod_114 sk_116 rfl d_Mod_ends_43 rfl (Nat.le_of_ble_eq_true rfl) (by decide) (by decide) (c_Mod_lookX h b hI z21 ((fZ + 5)) z21E s sZ sE sK (TP_fr f0 (fun _ => rfl) hy0) (by (first | decide +kernel | omega))) (fun z22 h23 z22Z z22E p24 => ?_)
          obtain ⟨eh23, p24⟩ := p24
          subst eh23
          refine V_iload_n 3 d_Mod_ends_46 rfl rfl ?_
          refine V_icmp_ne 54 z22E dE d_Mod_ends_47 (by decide) (fun c25 => ?_) (fun c25 => ?_)
          ·
            refine V_iconst 0 d_Mod_ends_54 (by decide) ?_
            exact V_zret rfl (by decide) d_Mod_ends_55 ⟨0, rfl, ⟨rfl, ⟨tc_0.trans (x_ens0 (by (first | decide +kernel | omega))).symm, by decide, by decide⟩⟩⟩
          ·
            refine V_iconst 1 d_Mod_ends_50 (by decide) ?_
            refine V_goto 55 d_Mod_ends_51 (by decide) ?_
            exact V_zret rfl (by decide) d_Mod_ends_55 ⟨1, rfl, ⟨rfl, ⟨tc_1.trans (x_ens1 (by (first | decide +kernel | omega))).symm, by decide, by decide⟩⟩⟩
abbrev q_Mod_ruleLineX (h : Hp) (b : Int → Int) (s : Int32) (sZ : Int) (p : Int32) (pZ : Int) (f : Int32) (fZ : Int) : Option Value → Hp → Prop := pInt (fun r h' => h = h' ∧ (r.toInt = 0 ∧ x_nm0 b fZ pZ = 1 ∨ r.toInt = 1 ∧ x_nm6 b fZ pZ = 1 ∨ r.toInt = 2 ∧ x_nm7 b fZ pZ = 1 ∨ r.toInt = 3 ∧ x_nm8 b fZ pZ = 1 ∨ r.toInt = -4 ∧ x_nm0 b fZ pZ = 0 ∧ x_nm6 b fZ pZ = 0 ∧ x_nm7 b fZ pZ = 0 ∧ x_nm8 b fZ pZ = 0))
set_option maxRecDepth 100000 in
theorem c_Mod_ruleLineX (h : Hp) (b : Int → Int) (hI : Inv h) (s : Int32) (sZ : Int) (sE : s.toInt = sZ) (sK : h.1 116 15 = s) (p : Int32) (pZ : Int) (pE : p.toInt = pZ) (pK : h.1 116 16 = p) (f : Int32) (fZ : Int) (fE : f.toInt = fZ) (fK : h.1 116 17 = f) (hy0 : TP h 121 sZ b) (hy1 : 0 ≤ fZ ∧ fZ ≤ 160) (hy2 : 0 ≤ pZ ∧ pZ ≤ 160) : Ct y_Mod_ruleLine b_Mod_ruleLine 1 (some .int) 2 45 [.ref 116] h (q_Mod_ruleLineX h b s sZ p pZ f fZ) := by
  refine ct_ow R_Mod [some (.ref 116)] rfl (by decide) rfl (Nat.le_of_ble_eq_true rfl) ?_
  have f0 : fr [] h h := fr_rf
  have g1 : 0 ≤ sZ ∧ sZ ≤ 160 := inv_at hI sE sK.symm rfl
  have g2 : 0 ≤ pZ ∧ pZ ≤ 160 := inv_at hI pE pK.symm rfl
  have g3 : 0 ≤ fZ ∧ fZ ≤ 160 := inv_at hI fE fK.symm rfl
  have J4 : x_nm0 b fZ pZ = 0 → V R_Mod b_Mod_ruleLine 1 (some .int) 2 45 (q_Mod_ruleLineX h b s sZ p pZ f fZ) h 30 [some (.ref 116)] [] := by
    intro q6
    have J7 : x_nm6 b fZ pZ = 0 → V R_Mod b_Mod_ruleLine 1 (some .int) 2 45 (q_Mod_ruleLineX h b s sZ p pZ f fZ) h 57 [some (.ref 116)] [] := by
      intro q9
      have J10 : x_nm7 b fZ pZ = 0 → V R_Mod b_Mod_ruleLine 1 (some .int) 2 45 (q_Mod_ruleLineX h b s sZ p pZ f fZ) h 87 [some (.ref 116)] [] := by
        intro q12
        refine V_aload_n 0 d_Mod_ruleLine_87 rfl rfl ?_
        refine V_iconst 3 d_Mod_ruleLine_88 (by decide) ?_
        refine V_bipush 114 d_Mod_ruleLine_89 (by decide) ?_
        refine V_bipush 111 d_Mod_ruleLine_91 (by decide) ?_
        refine V_bipush 100 d_Mod_ruleLine_93 (by decide) ?_
        refine N_callVI [.int 3, .int 114, .int 111, .int 100] [] cv_Mod_118 sk_116 rfl d_Mod_ruleLine_95 rfl (Nat.le_of_ble_eq_true rfl) (by decide) (by decide) (c_Mod_isX h b hI 3 3 tc_3 114 114 tc_114 111 111 tc_111 100 100 tc_100 s sZ sE sK p pZ pE pK f fZ fE fK (TP_fr f0 (fun _ => rfl) hy0) (by (first | decide +kernel | omega)) (by (first | decide +kernel | omega))) (fun z13 h14 z13Z z13E p15 => ?_)
        obtain ⟨eh14, p15⟩ := p15
        subst eh14
        refine V_if_eq 105 z13E d_Mod_ruleLine_98 (by decide) (fun c16 => ?_) (fun c16 => ?_)
        ·
          refine V_bipush (-4) d_Mod_ruleLine_105 (by decide) ?_
          exact V_iret rfl d_Mod_ruleLine_107 ⟨(-4), rfl, ⟨rfl, (by rw [tc_m4]; have a8 := x_nmr8 b fZ pZ; omega)⟩⟩
        ·
          refine V_iconst 3 d_Mod_ruleLine_101 (by decide) ?_
          refine V_goto 107 d_Mod_ruleLine_102 (by decide) ?_
          exact V_iret rfl d_Mod_ruleLine_107 ⟨3, rfl, ⟨rfl, (by rw [tc_3]; have a8 := x_nmr8 b fZ pZ; omega)⟩⟩
      refine V_aload_n 0 d_Mod_ruleLine_57 rfl rfl ?_
      refine V_iconst 5 d_Mod_ruleLine_58 (by decide) ?_
      refine V_bipush 112 d_Mod_ruleLine_59 (by decide) ?_
      refine V_bipush 114 d_Mod_ruleLine_61 (by decide) ?_
      refine V_bipush 105 d_Mod_ruleLine_63 (by decide) ?_
      refine N_callVI [.int 5, .int 112, .int 114, .int 105] [] cv_Mod_118 sk_116 rfl d_Mod_ruleLine_65 rfl (Nat.le_of_ble_eq_true rfl) (by decide) (by decide) (c_Mod_isX h b hI 5 5 tc_5 112 112 tc_112 114 114 tc_114 105 105 tc_105 s sZ sE sK p pZ pE pK f fZ fE fK (TP_fr f0 (fun _ => rfl) hy0) (by (first | decide +kernel | omega)) (by (first | decide +kernel | omega))) (fun z17 h18 z17Z z17E p19 => ?_)
      obtain ⟨eh18, p19⟩ := p19
      subst eh18
      refine V_if_eq 87 z17E d_Mod_ruleLine_68 (by decide) (fun c20 => ?_) (fun c20 => ?_)
      ·
        exact J10  (by have := x_nmr7 b fZ pZ; omega)
      ·
        refine V_aload_n 0 d_Mod_ruleLine_71 rfl rfl ?_
        refine V_bipush 99 d_Mod_ruleLine_72 (by decide) ?_
        refine V_bipush 101 d_Mod_ruleLine_74 (by decide) ?_
        refine V_iconst 0 d_Mod_ruleLine_76 (by decide) ?_
        refine N_callVI [.int 99, .int 101, .int 0] [] cv_Mod_122 sk_116 rfl d_Mod_ruleLine_77 rfl (Nat.le_of_ble_eq_true rfl) (by decide) (by decide) (c_Mod_endsX h b hI 99 99 tc_99 101 101 tc_101 0 0 tc_0 s sZ sE sK f fZ fE fK (TP_fr f0 (fun _ => rfl) hy0) (by (first | decide +kernel | omega))) (fun z21 h22 z21Z z21E p23 => ?_)
        obtain ⟨eh22, p23⟩ := p23
        subst eh22
        refine V_if_eq 87 z21E d_Mod_ruleLine_80 (by decide) (fun c24 => ?_) (fun c24 => ?_)
        ·
          exact J10  (by have := x_nmr7 b fZ pZ; omega)
        ·
          refine V_iconst 2 d_Mod_ruleLine_83 (by decide) ?_
          refine V_goto 107 d_Mod_ruleLine_84 (by decide) ?_
          exact V_iret rfl d_Mod_ruleLine_107 ⟨2, rfl, ⟨rfl, (by rw [tc_2]; have a7 := x_nmr7 b fZ pZ; omega)⟩⟩
    refine V_aload_n 0 d_Mod_ruleLine_30 rfl rfl ?_
    refine V_iconst 4 d_Mod_ruleLine_31 (by decide) ?_
    refine V_bipush 99 d_Mod_ruleLine_32 (by decide) ?_
    refine V_bipush 111 d_Mod_ruleLine_34 (by decide) ?_
    refine V_bipush 115 d_Mod_ruleLine_36 (by decide) ?_
    refine N_callVI [.int 4, .int 99, .int 111, .int 115] [] cv_Mod_118 sk_116 rfl d_Mod_ruleLine_38 rfl (Nat.le_of_ble_eq_true rfl) (by decide) (by decide) (c_Mod_isX h b hI 4 4 tc_4 99 99 tc_99 111 111 tc_111 115 115 tc_115 s sZ sE sK p pZ pE pK f fZ fE fK (TP_fr f0 (fun _ => rfl) hy0) (by (first | decide +kernel | omega)) (by (first | decide +kernel | omega))) (fun z25 h26 z25Z z25E p27 => ?_)
    obtain ⟨eh26, p27⟩ := p27
    subst eh26
    refine V_if_eq 57 z25E d_Mod_ruleLine_41 (by decide) (fun c28 => ?_) (fun c28 => ?_)
    ·
      exact J7  (by have := x_nmr6 b fZ pZ; omega)
    ·
      refine V_aload_n 0 d_Mod_ruleLine_44 rfl rfl ?_
      refine V_bipush 116 d_Mod_ruleLine_45 (by decide) ?_
      refine V_iconst 0 d_Mod_ruleLine_47 (by decide) ?_
      refine V_iconst 0 d_Mod_ruleLine_48 (by decide) ?_
      refine N_callVI [.int 116, .int 0, .int 0] [] cv_Mod_122 sk_116 rfl d_Mod_ruleLine_49 rfl (Nat.le_of_ble_eq_true rfl) (by decide) (by decide) (c_Mod_endsX h b hI 116 116 tc_116 0 0 tc_0 0 0 tc_0 s sZ sE sK f fZ fE fK (TP_fr f0 (fun _ => rfl) hy0) (by (first | decide +kernel | omega))) (fun z29 h30 z29Z z29E p31 => ?_)
      obtain ⟨eh30, p31⟩ := p31
      subst eh30
      refine V_if_eq 57 z29E d_Mod_ruleLine_52 (by decide) (fun c32 => ?_) (fun c32 => ?_)
      ·
        exact J7  (by have := x_nmr6 b fZ pZ; omega)
      ·
        refine V_iconst 1 d_Mod_ruleLine_55 (by decide) ?_
        exact V_iret rfl d_Mod_ruleLine_56 ⟨1, rfl, ⟨rfl, (by rw [tc_1]; have a6 := x_nmr6 b fZ pZ; omega)⟩⟩
  refine V_aload_n 0 d_Mod_ruleLine_0 rfl rfl ?_
  refine V_bipush 6 d_Mod_ruleLine_1 (by decide) ?_
  refine V_bipush 99 d_Mod_ruleLine_3 (by decide) ?_
  refine V_bipush 111 d_Mod_ruleLine_5 (by decide) ?_
  refine V_bipush 117 d_Mod_ruleLine_7 (by decide) ?_
  refine N_callVI [.int 6, .int 99, .int 111, .int 117] [] cv_Mod_118 sk_116 rfl d_Mod_ruleLine_9 rfl (Nat.le_of_ble_eq_true rfl) (by decide) (by decide) (c_Mod_isX h b hI 6 6 tc_6 99 99 tc_99 111 111 tc_111 117 117 tc_117 s sZ sE sK p pZ pE pK f fZ fE fK (TP_fr f0 (fun _ => rfl) hy0) (by (first | decide +kernel | omega)) (by (first | decide +kernel | omega))) (fun z33 h34 z33Z z33E p35 => ?_)
  obtain ⟨eh34, p35⟩ := p35
  subst eh34
  refine V_if_eq 30 z33E d_Mod_ruleLine_12 (by decide) (fun c36 => ?_) (fun c36 => ?_)
  ·
    exact J4  (by have := x_nmr0 b fZ pZ; omega)
  ·
    refine V_aload_n 0 d_Mod_ruleLine_15 rfl rfl ?_
    refine V_bipush 110 d_Mod_ruleLine_16 (by decide) ?_
    refine V_bipush 116 d_Mod_ruleLine_18 (by decide) ?_
    refine V_bipush 121 d_Mod_ruleLine_20 (by decide) ?_
    refine N_callVI [.int 110, .int 116, .int 121] [] cv_Mod_122 sk_116 rfl d_Mod_ruleLine_22 rfl (Nat.le_of_ble_eq_true rfl) (by decide) (by decide) (c_Mod_endsX h b hI 110 110 tc_110 116 116 tc_116 121 121 tc_121 s sZ sE sK f fZ fE fK (TP_fr f0 (fun _ => rfl) hy0) (by (first | decide +kernel | omega))) (fun z37 h38 z37Z z37E p39 => ?_)
    obtain ⟨eh38, p39⟩ := p39
    subst eh38
    refine V_if_eq 30 z37E d_Mod_ruleLine_25 (by decide) (fun c40 => ?_) (fun c40 => ?_)
    ·
      exact J4  (by have := x_nmr0 b fZ pZ; omega)
    ·
      refine V_iconst 0 d_Mod_ruleLine_28 (by decide) ?_
      exact V_iret rfl d_Mod_ruleLine_29 ⟨0, rfl, ⟨rfl, (by rw [tc_0]; have a0 := x_nmr0 b fZ pZ; omega)⟩⟩
abbrev q_Mod_lineNowX (h : Hp) (b : Int → Int) (s : Int32) (sZ : Int) (p : Int32) (pZ : Int) (f : Int32) (fZ : Int) : Option Value → Hp → Prop := pInt (fun r h' => h = h' ∧ (r.toInt = 4 ∧ x_ln b fZ pZ = 1 ∨ r.toInt = 5 ∧ x_ln b fZ pZ = 2 ∨ r.toInt = 6 ∧ x_ln b fZ pZ = 3 ∨ r.toInt = 7 ∧ x_ln b fZ pZ = 4 ∨ r.toInt = 8 ∧ x_ln b fZ pZ = 5 ∨ r.toInt = 9 ∧ x_ln b fZ pZ = 9 ∨ r.toInt = 0 ∧ x_ln b fZ pZ = 0 ∨ r.toInt = 1 ∧ x_ln b fZ pZ = 6 ∨ r.toInt = 2 ∧ x_ln b fZ pZ = 7 ∨ r.toInt = 3 ∧ x_ln b fZ pZ = 8 ∨ r.toInt = -4 ∧ x_ln b fZ pZ = -1))
set_option maxRecDepth 100000 in
theorem c_Mod_lineNowX (h : Hp) (b : Int → Int) (hI : Inv h) (s : Int32) (sZ : Int) (sE : s.toInt = sZ) (sK : h.1 116 15 = s) (p : Int32) (pZ : Int) (pE : p.toInt = pZ) (pK : h.1 116 16 = p) (f : Int32) (fZ : Int) (fE : f.toInt = fZ) (fK : h.1 116 17 = f) (hy0 : TP h 121 sZ b) (hy1 : 0 ≤ fZ ∧ fZ ≤ 160) (hy2 : 0 ≤ pZ ∧ pZ ≤ 160) : Ct y_Mod_lineNow b_Mod_lineNow 1 (some .int) 3 65 [.ref 116] h (q_Mod_lineNowX h b s sZ p pZ f fZ) := by
  refine ct_ow R_Mod [some (.ref 116)] rfl (by decide) rfl (Nat.le_of_ble_eq_true rfl) ?_
  have f0 : fr [] h h := fr_rf
  have g1 : 0 ≤ sZ ∧ sZ ≤ 160 := inv_at hI sE sK.symm rfl
  have g2 : 0 ≤ pZ ∧ pZ ≤ 160 := inv_at hI pE pK.symm rfl
  have g3 : 0 ≤ fZ ∧ fZ ≤ 160 := inv_at hI fE fK.symm rfl
  have J4 : x_nm1 b fZ pZ = 0 → V R_Mod b_Mod_lineNow 1 (some .int) 3 65 (q_Mod_lineNowX h b s sZ p pZ f fZ) h 16 [some (.ref 116)] [] := by
    intro q6
    have J7 : x_nm2 b fZ pZ = 0 → V R_Mod b_Mod_lineNow 1 (some .int) 3 65 (q_Mod_lineNowX h b s sZ p pZ f fZ) h 43 [some (.ref 116)] [] := by
      intro q9
      have J10 : x_nm3 b fZ pZ = 0 → V R_Mod b_Mod_lineNow 1 (some .int) 3 65 (q_Mod_lineNowX h b s sZ p pZ f fZ) h 71 [some (.ref 116)] [] := by
        intro q12
        have J13 : x_nm4 b fZ pZ = 0 → V R_Mod b_Mod_lineNow 1 (some .int) 3 65 (q_Mod_lineNowX h b s sZ p pZ f fZ) h 100 [some (.ref 116)] [] := by
          intro q15
          have J16 : x_nm5 b fZ pZ = 0 → V R_Mod b_Mod_lineNow 1 (some .int) 3 65 (q_Mod_lineNowX h b s sZ p pZ f fZ) h 131 [some (.ref 116)] [] := by
            intro q18
            have J19 : x_nm9 b fZ pZ = 0 → V R_Mod b_Mod_lineNow 1 (some .int) 3 65 (q_Mod_lineNowX h b s sZ p pZ f fZ) h 150 [some (.ref 116)] [] := by
              intro q21
              refine V_aload_n 0 d_Mod_lineNow_150 rfl rfl ?_
              refine N_callVI [] [] cv_Mod_126 sk_116 rfl d_Mod_lineNow_151 rfl (Nat.le_of_ble_eq_true rfl) (by decide) (by decide) (c_Mod_ruleLineX h b hI s sZ sE sK p pZ pE pK f fZ fE fK (TP_fr f0 (fun _ => rfl) hy0) (by (first | decide +kernel | omega)) (by (first | decide +kernel | omega))) (fun z22 h23 z22Z z22E p24 => ?_)
              obtain ⟨eh23, p24⟩ := p24
              subst eh23
              exact V_iret rfl d_Mod_lineNow_154 ⟨z22, rfl, ⟨rfl, (Or.inr (Or.inr (Or.inr (Or.inr (Or.inr (Or.inr (x_lnR (b := b) (f := fZ) (e := pZ) (r := z22.toInt) (by assumption) (by assumption) (by assumption) (by assumption) (by assumption) (by assumption) (by assumption))))))))⟩⟩
            refine V_aload_n 0 d_Mod_lineNow_131 rfl rfl ?_
            refine V_iconst 3 d_Mod_lineNow_132 (by decide) ?_
            refine V_bipush 111 d_Mod_lineNow_133 (by decide) ?_
            refine V_bipush 119 d_Mod_lineNow_135 (by decide) ?_
            refine V_bipush 101 d_Mod_lineNow_137 (by decide) ?_
            refine N_callVI [.int 3, .int 111, .int 119, .int 101] [] cv_Mod_118 sk_116 rfl d_Mod_lineNow_139 rfl (Nat.le_of_ble_eq_true rfl) (by decide) (by decide) (c_Mod_isX h b hI 3 3 tc_3 111 111 tc_111 119 119 tc_119 101 101 tc_101 s sZ sE sK p pZ pE pK f fZ fE fK (TP_fr f0 (fun _ => rfl) hy0) (by (first | decide +kernel | omega)) (by (first | decide +kernel | omega))) (fun z25 h26 z25Z z25E p27 => ?_)
            obtain ⟨eh26, p27⟩ := p27
            subst eh26
            refine V_if_eq 150 z25E d_Mod_lineNow_142 (by decide) (fun c28 => ?_) (fun c28 => ?_)
            ·
              exact J19  (by have := x_nmr9 b fZ pZ; omega)
            ·
              refine V_bipush 9 d_Mod_lineNow_145 (by decide) ?_
              refine V_goto 154 d_Mod_lineNow_147 (by decide) ?_
              exact V_iret rfl d_Mod_lineNow_154 ⟨9, rfl, ⟨rfl, (Or.inr (Or.inr (Or.inr (Or.inr (Or.inr (Or.inl ⟨tc_9, x_ln_of9 (by have := x_nmr9 b fZ pZ; omega)⟩))))))⟩⟩
          refine V_aload_n 0 d_Mod_lineNow_100 rfl rfl ?_
          refine V_iconst 5 d_Mod_lineNow_101 (by decide) ?_
          refine V_bipush 112 d_Mod_lineNow_102 (by decide) ?_
          refine V_bipush 117 d_Mod_lineNow_104 (by decide) ?_
          refine V_bipush 114 d_Mod_lineNow_106 (by decide) ?_
          refine N_callVI [.int 5, .int 112, .int 117, .int 114] [] cv_Mod_118 sk_116 rfl d_Mod_lineNow_108 rfl (Nat.le_of_ble_eq_true rfl) (by decide) (by decide) (c_Mod_isX h b hI 5 5 tc_5 112 112 tc_112 117 117 tc_117 114 114 tc_114 s sZ sE sK p pZ pE pK f fZ fE fK (TP_fr f0 (fun _ => rfl) hy0) (by (first | decide +kernel | omega)) (by (first | decide +kernel | omega))) (fun z29 h30 z29Z z29E p31 => ?_)
          obtain ⟨eh30, p31⟩ := p31
          subst eh30
          refine V_if_eq 131 z29E d_Mod_lineNow_111 (by decide) (fun c32 => ?_) (fun c32 => ?_)
          ·
            exact J16  (by have := x_nmr5 b fZ pZ; omega)
          ·
            refine V_aload_n 0 d_Mod_lineNow_114 rfl rfl ?_
            refine V_bipush 115 d_Mod_lineNow_115 (by decide) ?_
            refine V_bipush 101 d_Mod_lineNow_117 (by decide) ?_
            refine V_iconst 0 d_Mod_lineNow_119 (by decide) ?_
            refine N_callVI [.int 115, .int 101, .int 0] [] cv_Mod_122 sk_116 rfl d_Mod_lineNow_120 rfl (Nat.le_of_ble_eq_true rfl) (by decide) (by decide) (c_Mod_endsX h b hI 115 115 tc_115 101 101 tc_101 0 0 tc_0 s sZ sE sK f fZ fE fK (TP_fr f0 (fun _ => rfl) hy0) (by (first | decide +kernel | omega))) (fun z33 h34 z33Z z33E p35 => ?_)
            obtain ⟨eh34, p35⟩ := p35
            subst eh34
            refine V_if_eq 131 z33E d_Mod_lineNow_123 (by decide) (fun c36 => ?_) (fun c36 => ?_)
            ·
              exact J16  (by have := x_nmr5 b fZ pZ; omega)
            ·
              refine V_bipush 8 d_Mod_lineNow_126 (by decide) ?_
              refine V_goto 154 d_Mod_lineNow_128 (by decide) ?_
              exact V_iret rfl d_Mod_lineNow_154 ⟨8, rfl, ⟨rfl, (Or.inr (Or.inr (Or.inr (Or.inr (Or.inl ⟨tc_8, x_ln_of5 (by have := x_nmr5 b fZ pZ; omega)⟩)))))⟩⟩
        refine V_aload_n 0 d_Mod_lineNow_71 rfl rfl ?_
        refine V_iconst 5 d_Mod_lineNow_72 (by decide) ?_
        refine V_bipush 99 d_Mod_lineNow_73 (by decide) ?_
        refine V_bipush 108 d_Mod_lineNow_75 (by decide) ?_
        refine V_bipush 97 d_Mod_lineNow_77 (by decide) ?_
        refine N_callVI [.int 5, .int 99, .int 108, .int 97] [] cv_Mod_118 sk_116 rfl d_Mod_lineNow_79 rfl (Nat.le_of_ble_eq_true rfl) (by decide) (by decide) (c_Mod_isX h b hI 5 5 tc_5 99 99 tc_99 108 108 tc_108 97 97 tc_97 s sZ sE sK p pZ pE pK f fZ fE fK (TP_fr f0 (fun _ => rfl) hy0) (by (first | decide +kernel | omega)) (by (first | decide +kernel | omega))) (fun z37 h38 z37Z z37E p39 => ?_)
        obtain ⟨eh38, p39⟩ := p39
        subst eh38
        refine V_if_eq 100 z37E d_Mod_lineNow_82 (by decide) (fun c40 => ?_) (fun c40 => ?_)
        ·
          exact J13  (by have := x_nmr4 b fZ pZ; omega)
        ·
          refine V_aload_n 0 d_Mod_lineNow_85 rfl rfl ?_
          refine V_bipush 105 d_Mod_lineNow_86 (by decide) ?_
          refine V_bipush 109 d_Mod_lineNow_88 (by decide) ?_
          refine V_iconst 0 d_Mod_lineNow_90 (by decide) ?_
          refine N_callVI [.int 105, .int 109, .int 0] [] cv_Mod_122 sk_116 rfl d_Mod_lineNow_91 rfl (Nat.le_of_ble_eq_true rfl) (by decide) (by decide) (c_Mod_endsX h b hI 105 105 tc_105 109 109 tc_109 0 0 tc_0 s sZ sE sK f fZ fE fK (TP_fr f0 (fun _ => rfl) hy0) (by (first | decide +kernel | omega))) (fun z41 h42 z41Z z41E p43 => ?_)
          obtain ⟨eh42, p43⟩ := p43
          subst eh42
          refine V_if_eq 100 z41E d_Mod_lineNow_94 (by decide) (fun c44 => ?_) (fun c44 => ?_)
          ·
            exact J13  (by have := x_nmr4 b fZ pZ; omega)
          ·
            refine V_bipush 7 d_Mod_lineNow_97 (by decide) ?_
            exact V_iret rfl d_Mod_lineNow_99 ⟨7, rfl, ⟨rfl, (Or.inr (Or.inr (Or.inr (Or.inl ⟨tc_7, x_ln_of4 (by have := x_nmr4 b fZ pZ; omega)⟩))))⟩⟩
      refine V_aload_n 0 d_Mod_lineNow_43 rfl rfl ?_
      refine V_iconst 4 d_Mod_lineNow_44 (by decide) ?_
      refine V_bipush 111 d_Mod_lineNow_45 (by decide) ?_
      refine V_bipush 100 d_Mod_lineNow_47 (by decide) ?_
      refine V_bipush 100 d_Mod_lineNow_49 (by decide) ?_
      refine N_callVI [.int 4, .int 111, .int 100, .int 100] [] cv_Mod_118 sk_116 rfl d_Mod_lineNow_51 rfl (Nat.le_of_ble_eq_true rfl) (by decide) (by decide) (c_Mod_isX h b hI 4 4 tc_4 111 111 tc_111 100 100 tc_100 100 100 tc_100 s sZ sE sK p pZ pE pK f fZ fE fK (TP_fr f0 (fun _ => rfl) hy0) (by (first | decide +kernel | omega)) (by (first | decide +kernel | omega))) (fun z45 h46 z45Z z45E p47 => ?_)
      obtain ⟨eh46, p47⟩ := p47
      subst eh46
      refine V_if_eq 71 z45E d_Mod_lineNow_54 (by decide) (fun c48 => ?_) (fun c48 => ?_)
      ·
        exact J10  (by have := x_nmr3 b fZ pZ; omega)
      ·
        refine V_aload_n 0 d_Mod_lineNow_57 rfl rfl ?_
        refine V_bipush 115 d_Mod_lineNow_58 (by decide) ?_
        refine V_iconst 0 d_Mod_lineNow_60 (by decide) ?_
        refine V_iconst 0 d_Mod_lineNow_61 (by decide) ?_
        refine N_callVI [.int 115, .int 0, .int 0] [] cv_Mod_122 sk_116 rfl d_Mod_lineNow_62 rfl (Nat.le_of_ble_eq_true rfl) (by decide) (by decide) (c_Mod_endsX h b hI 115 115 tc_115 0 0 tc_0 0 0 tc_0 s sZ sE sK f fZ fE fK (TP_fr f0 (fun _ => rfl) hy0) (by (first | decide +kernel | omega))) (fun z49 h50 z49Z z49E p51 => ?_)
        obtain ⟨eh50, p51⟩ := p51
        subst eh50
        refine V_if_eq 71 z49E d_Mod_lineNow_65 (by decide) (fun c52 => ?_) (fun c52 => ?_)
        ·
          exact J10  (by have := x_nmr3 b fZ pZ; omega)
        ·
          refine V_bipush 6 d_Mod_lineNow_68 (by decide) ?_
          exact V_iret rfl d_Mod_lineNow_70 ⟨6, rfl, ⟨rfl, (Or.inr (Or.inr (Or.inl ⟨tc_6, x_ln_of3 (by have := x_nmr3 b fZ pZ; omega)⟩)))⟩⟩
    refine V_aload_n 0 d_Mod_lineNow_16 rfl rfl ?_
    refine V_iconst 4 d_Mod_lineNow_17 (by decide) ?_
    refine V_bipush 105 d_Mod_lineNow_18 (by decide) ?_
    refine V_bipush 114 d_Mod_lineNow_20 (by decide) ?_
    refine V_bipush 111 d_Mod_lineNow_22 (by decide) ?_
    refine N_callVI [.int 4, .int 105, .int 114, .int 111] [] cv_Mod_118 sk_116 rfl d_Mod_lineNow_24 rfl (Nat.le_of_ble_eq_true rfl) (by decide) (by decide) (c_Mod_isX h b hI 4 4 tc_4 105 105 tc_105 114 114 tc_114 111 111 tc_111 s sZ sE sK p pZ pE pK f fZ fE fK (TP_fr f0 (fun _ => rfl) hy0) (by (first | decide +kernel | omega)) (by (first | decide +kernel | omega))) (fun z53 h54 z53Z z53E p55 => ?_)
    obtain ⟨eh54, p55⟩ := p55
    subst eh54
    refine V_if_eq 43 z53E d_Mod_lineNow_27 (by decide) (fun c56 => ?_) (fun c56 => ?_)
    ·
      exact J7  (by have := x_nmr2 b fZ pZ; omega)
    ·
      refine V_aload_n 0 d_Mod_lineNow_30 rfl rfl ?_
      refine V_bipush 110 d_Mod_lineNow_31 (by decide) ?_
      refine V_iconst 0 d_Mod_lineNow_33 (by decide) ?_
      refine V_iconst 0 d_Mod_lineNow_34 (by decide) ?_
      refine N_callVI [.int 110, .int 0, .int 0] [] cv_Mod_122 sk_116 rfl d_Mod_lineNow_35 rfl (Nat.le_of_ble_eq_true rfl) (by decide) (by decide) (c_Mod_endsX h b hI 110 110 tc_110 0 0 tc_0 0 0 tc_0 s sZ sE sK f fZ fE fK (TP_fr f0 (fun _ => rfl) hy0) (by (first | decide +kernel | omega))) (fun z57 h58 z57Z z57E p59 => ?_)
      obtain ⟨eh58, p59⟩ := p59
      subst eh58
      refine V_if_eq 43 z57E d_Mod_lineNow_38 (by decide) (fun c60 => ?_) (fun c60 => ?_)
      ·
        exact J7  (by have := x_nmr2 b fZ pZ; omega)
      ·
        refine V_iconst 5 d_Mod_lineNow_41 (by decide) ?_
        exact V_iret rfl d_Mod_lineNow_42 ⟨5, rfl, ⟨rfl, (Or.inr (Or.inl ⟨tc_5, x_ln_of2 (by have := x_nmr2 b fZ pZ; omega)⟩))⟩⟩
  refine V_aload_n 0 d_Mod_lineNow_0 rfl rfl ?_
  refine V_iconst 3 d_Mod_lineNow_1 (by decide) ?_
  refine V_bipush 119 d_Mod_lineNow_2 (by decide) ?_
  refine V_bipush 101 d_Mod_lineNow_4 (by decide) ?_
  refine V_bipush 116 d_Mod_lineNow_6 (by decide) ?_
  refine N_callVI [.int 3, .int 119, .int 101, .int 116] [] cv_Mod_118 sk_116 rfl d_Mod_lineNow_8 rfl (Nat.le_of_ble_eq_true rfl) (by decide) (by decide) (c_Mod_isX h b hI 3 3 tc_3 119 119 tc_119 101 101 tc_101 116 116 tc_116 s sZ sE sK p pZ pE pK f fZ fE fK (TP_fr f0 (fun _ => rfl) hy0) (by (first | decide +kernel | omega)) (by (first | decide +kernel | omega))) (fun z61 h62 z61Z z61E p63 => ?_)
  obtain ⟨eh62, p63⟩ := p63
  subst eh62
  refine V_if_eq 16 z61E d_Mod_lineNow_11 (by decide) (fun c64 => ?_) (fun c64 => ?_)
  ·
    exact J4  (by have := x_nmr1 b fZ pZ; omega)
  ·
    refine V_iconst 4 d_Mod_lineNow_14 (by decide) ?_
    exact V_iret rfl d_Mod_lineNow_15 ⟨4, rfl, ⟨rfl, (Or.inl ⟨tc_4, x_ln_of1 (by have := x_nmr1 b fZ pZ; omega)⟩)⟩⟩
abbrev q_Mod_natureNowX (h : Hp) (b : Int → Int) (s : Int32) (sZ : Int) (p : Int32) (pZ : Int) (f : Int32) (fZ : Int) : Option Value → Hp → Prop := pInt (fun r h' => h = h' ∧ (r.toInt = 0 ∧ x_nt b fZ pZ = 0 ∨ r.toInt = 1 ∧ x_nt b fZ pZ = 1 ∨ r.toInt = 2 ∧ x_nt b fZ pZ = 2 ∨ r.toInt = 3 ∧ x_nt b fZ pZ = 3 ∨ r.toInt = 4 ∧ x_nt b fZ pZ = 4 ∨ r.toInt = -4 ∧ x_nt b fZ pZ = -1))
set_option maxRecDepth 100000 in
theorem c_Mod_natureNowX (h : Hp) (b : Int → Int) (hI : Inv h) (s : Int32) (sZ : Int) (sE : s.toInt = sZ) (sK : h.1 116 15 = s) (p : Int32) (pZ : Int) (pE : p.toInt = pZ) (pK : h.1 116 16 = p) (f : Int32) (fZ : Int) (fE : f.toInt = fZ) (fK : h.1 116 17 = f) (hy0 : TP h 121 sZ b) (hy1 : 0 ≤ fZ ∧ fZ ≤ 160) (hy2 : 0 ≤ pZ ∧ pZ ≤ 160) : Ct y_Mod_natureNow b_Mod_natureNow 1 (some .int) 2 45 [.ref 116] h (q_Mod_natureNowX h b s sZ p pZ f fZ) := by
  refine ct_ow R_Mod [some (.ref 116)] rfl (by decide) rfl (Nat.le_of_ble_eq_true rfl) ?_
  have f0 : fr [] h h := fr_rf
  have g1 : 0 ≤ sZ ∧ sZ ≤ 160 := inv_at hI sE sK.symm rfl
  have g2 : 0 ≤ pZ ∧ pZ ≤ 160 := inv_at hI pE pK.symm rfl
  have g3 : 0 ≤ fZ ∧ fZ ≤ 160 := inv_at hI fE fK.symm rfl
  have J4 : x_nm10 b fZ pZ = 0 → V R_Mod b_Mod_natureNow 1 (some .int) 2 45 (q_Mod_natureNowX h b s sZ p pZ f fZ) h 28 [some (.ref 116)] [] := by
    intro q6
    have J7 : x_nm2 b fZ pZ = 0 → V R_Mod b_Mod_natureNow 1 (some .int) 2 45 (q_Mod_natureNowX h b s sZ p pZ f fZ) h 55 [some (.ref 116)] [] := by
      intro q9
      have J10 : x_nm11 b fZ pZ = 0 → V R_Mod b_Mod_natureNow 1 (some .int) 2 45 (q_Mod_natureNowX h b s sZ p pZ f fZ) h 83 [some (.ref 116)] [] := by
        intro q12
        have J13 : x_nm12 b fZ pZ = 0 → V R_Mod b_Mod_natureNow 1 (some .int) 2 45 (q_Mod_natureNowX h b s sZ p pZ f fZ) h 115 [some (.ref 116)] [] := by
          intro q15
          refine V_aload_n 0 d_Mod_natureNow_115 rfl rfl ?_
          refine V_iconst 4 d_Mod_natureNow_116 (by decide) ?_
          refine V_bipush 98 d_Mod_natureNow_117 (by decide) ?_
          refine V_bipush 111 d_Mod_natureNow_119 (by decide) ?_
          refine V_bipush 116 d_Mod_natureNow_121 (by decide) ?_
          refine N_callVI [.int 4, .int 98, .int 111, .int 116] [] cv_Mod_118 sk_116 rfl d_Mod_natureNow_123 rfl (Nat.le_of_ble_eq_true rfl) (by decide) (by decide) (c_Mod_isX h b hI 4 4 tc_4 98 98 tc_98 111 111 tc_111 116 116 tc_116 s sZ sE sK p pZ pE pK f fZ fE fK (TP_fr f0 (fun _ => rfl) hy0) (by (first | decide +kernel | omega)) (by (first | decide +kernel | omega))) (fun z16 h17 z16Z z16E p18 => ?_)
          obtain ⟨eh17, p18⟩ := p18
          subst eh17
          refine V_if_eq 144 z16E d_Mod_natureNow_126 (by decide) (fun c19 => ?_) (fun c19 => ?_)
          ·
            refine V_bipush (-4) d_Mod_natureNow_144 (by decide) ?_
            exact V_iret rfl d_Mod_natureNow_146 ⟨(-4), rfl, ⟨rfl, (Or.inr (Or.inr (Or.inr (Or.inr (Or.inr (⟨tc_m4, x_nt_no (by assumption) (by assumption) (by assumption) (by assumption) (by have := x_nmr13 b fZ pZ; omega)⟩))))))⟩⟩
          ·
            refine V_aload_n 0 d_Mod_natureNow_129 rfl rfl ?_
            refine V_bipush 104 d_Mod_natureNow_130 (by decide) ?_
            refine V_iconst 0 d_Mod_natureNow_132 (by decide) ?_
            refine V_iconst 0 d_Mod_natureNow_133 (by decide) ?_
            refine N_callVI [.int 104, .int 0, .int 0] [] cv_Mod_122 sk_116 rfl d_Mod_natureNow_134 rfl (Nat.le_of_ble_eq_true rfl) (by decide) (by decide) (c_Mod_endsX h b hI 104 104 tc_104 0 0 tc_0 0 0 tc_0 s sZ sE sK f fZ fE fK (TP_fr f0 (fun _ => rfl) hy0) (by (first | decide +kernel | omega))) (fun z20 h21 z20Z z20E p22 => ?_)
            obtain ⟨eh21, p22⟩ := p22
            subst eh21
            refine V_if_eq 144 z20E d_Mod_natureNow_137 (by decide) (fun c23 => ?_) (fun c23 => ?_)
            ·
              refine V_bipush (-4) d_Mod_natureNow_144 (by decide) ?_
              exact V_iret rfl d_Mod_natureNow_146 ⟨(-4), rfl, ⟨rfl, (Or.inr (Or.inr (Or.inr (Or.inr (Or.inr (⟨tc_m4, x_nt_no (by assumption) (by assumption) (by assumption) (by assumption) (by have := x_nmr13 b fZ pZ; omega)⟩))))))⟩⟩
            ·
              refine V_iconst 4 d_Mod_natureNow_140 (by decide) ?_
              refine V_goto 146 d_Mod_natureNow_141 (by decide) ?_
              exact V_iret rfl d_Mod_natureNow_146 ⟨4, rfl, ⟨rfl, (Or.inr (Or.inr (Or.inr (Or.inr (Or.inl ⟨tc_4, x_nt_of4 (by have := x_nmr13 b fZ pZ; omega)⟩)))))⟩⟩
        refine V_aload_n 0 d_Mod_natureNow_83 rfl rfl ?_
        refine V_bipush 6 d_Mod_natureNow_84 (by decide) ?_
        refine V_bipush 119 d_Mod_natureNow_86 (by decide) ?_
        refine V_bipush 105 d_Mod_natureNow_88 (by decide) ?_
        refine V_bipush 115 d_Mod_natureNow_90 (by decide) ?_
        refine N_callVI [.int 6, .int 119, .int 105, .int 115] [] cv_Mod_118 sk_116 rfl d_Mod_natureNow_92 rfl (Nat.le_of_ble_eq_true rfl) (by decide) (by decide) (c_Mod_isX h b hI 6 6 tc_6 119 119 tc_119 105 105 tc_105 115 115 tc_115 s sZ sE sK p pZ pE pK f fZ fE fK (TP_fr f0 (fun _ => rfl) hy0) (by (first | decide +kernel | omega)) (by (first | decide +kernel | omega))) (fun z24 h25 z24Z z24E p26 => ?_)
        obtain ⟨eh25, p26⟩ := p26
        subst eh25
        refine V_if_eq 115 z24E d_Mod_natureNow_95 (by decide) (fun c27 => ?_) (fun c27 => ?_)
        ·
          exact J13  (by have := x_nmr12 b fZ pZ; omega)
        ·
          refine V_aload_n 0 d_Mod_natureNow_98 rfl rfl ?_
          refine V_bipush 104 d_Mod_natureNow_99 (by decide) ?_
          refine V_bipush 101 d_Mod_natureNow_101 (by decide) ?_
          refine V_bipush 115 d_Mod_natureNow_103 (by decide) ?_
          refine N_callVI [.int 104, .int 101, .int 115] [] cv_Mod_122 sk_116 rfl d_Mod_natureNow_105 rfl (Nat.le_of_ble_eq_true rfl) (by decide) (by decide) (c_Mod_endsX h b hI 104 104 tc_104 101 101 tc_101 115 115 tc_115 s sZ sE sK f fZ fE fK (TP_fr f0 (fun _ => rfl) hy0) (by (first | decide +kernel | omega))) (fun z28 h29 z28Z z28E p30 => ?_)
          obtain ⟨eh29, p30⟩ := p30
          subst eh29
          refine V_if_eq 115 z28E d_Mod_natureNow_108 (by decide) (fun c31 => ?_) (fun c31 => ?_)
          ·
            exact J13  (by have := x_nmr12 b fZ pZ; omega)
          ·
            refine V_iconst 3 d_Mod_natureNow_111 (by decide) ?_
            refine V_goto 146 d_Mod_natureNow_112 (by decide) ?_
            exact V_iret rfl d_Mod_natureNow_146 ⟨3, rfl, ⟨rfl, (Or.inr (Or.inr (Or.inr (Or.inl ⟨tc_3, x_nt_of3 (by have := x_nmr12 b fZ pZ; omega)⟩))))⟩⟩
      refine V_aload_n 0 d_Mod_natureNow_55 rfl rfl ?_
      refine V_iconst 5 d_Mod_natureNow_56 (by decide) ?_
      refine V_bipush 115 d_Mod_natureNow_57 (by decide) ?_
      refine V_bipush 116 d_Mod_natureNow_59 (by decide) ?_
      refine V_bipush 101 d_Mod_natureNow_61 (by decide) ?_
      refine N_callVI [.int 5, .int 115, .int 116, .int 101] [] cv_Mod_118 sk_116 rfl d_Mod_natureNow_63 rfl (Nat.le_of_ble_eq_true rfl) (by decide) (by decide) (c_Mod_isX h b hI 5 5 tc_5 115 115 tc_115 116 116 tc_116 101 101 tc_101 s sZ sE sK p pZ pE pK f fZ fE fK (TP_fr f0 (fun _ => rfl) hy0) (by (first | decide +kernel | omega)) (by (first | decide +kernel | omega))) (fun z32 h33 z32Z z32E p34 => ?_)
      obtain ⟨eh33, p34⟩ := p34
      subst eh33
      refine V_if_eq 83 z32E d_Mod_natureNow_66 (by decide) (fun c35 => ?_) (fun c35 => ?_)
      ·
        exact J10  (by have := x_nmr11 b fZ pZ; omega)
      ·
        refine V_aload_n 0 d_Mod_natureNow_69 rfl rfl ?_
        refine V_bipush 112 d_Mod_natureNow_70 (by decide) ?_
        refine V_bipush 115 d_Mod_natureNow_72 (by decide) ?_
        refine V_iconst 0 d_Mod_natureNow_74 (by decide) ?_
        refine N_callVI [.int 112, .int 115, .int 0] [] cv_Mod_122 sk_116 rfl d_Mod_natureNow_75 rfl (Nat.le_of_ble_eq_true rfl) (by decide) (by decide) (c_Mod_endsX h b hI 112 112 tc_112 115 115 tc_115 0 0 tc_0 s sZ sE sK f fZ fE fK (TP_fr f0 (fun _ => rfl) hy0) (by (first | decide +kernel | omega))) (fun z36 h37 z36Z z36E p38 => ?_)
        obtain ⟨eh37, p38⟩ := p38
        subst eh37
        refine V_if_eq 83 z36E d_Mod_natureNow_78 (by decide) (fun c39 => ?_) (fun c39 => ?_)
        ·
          exact J10  (by have := x_nmr11 b fZ pZ; omega)
        ·
          refine V_iconst 2 d_Mod_natureNow_81 (by decide) ?_
          exact V_iret rfl d_Mod_natureNow_82 ⟨2, rfl, ⟨rfl, (Or.inr (Or.inr (Or.inl ⟨tc_2, x_nt_of2 (by have := x_nmr11 b fZ pZ; omega)⟩)))⟩⟩
    refine V_aload_n 0 d_Mod_natureNow_28 rfl rfl ?_
    refine V_iconst 4 d_Mod_natureNow_29 (by decide) ?_
    refine V_bipush 105 d_Mod_natureNow_30 (by decide) ?_
    refine V_bipush 114 d_Mod_natureNow_32 (by decide) ?_
    refine V_bipush 111 d_Mod_natureNow_34 (by decide) ?_
    refine N_callVI [.int 4, .int 105, .int 114, .int 111] [] cv_Mod_118 sk_116 rfl d_Mod_natureNow_36 rfl (Nat.le_of_ble_eq_true rfl) (by decide) (by decide) (c_Mod_isX h b hI 4 4 tc_4 105 105 tc_105 114 114 tc_114 111 111 tc_111 s sZ sE sK p pZ pE pK f fZ fE fK (TP_fr f0 (fun _ => rfl) hy0) (by (first | decide +kernel | omega)) (by (first | decide +kernel | omega))) (fun z40 h41 z40Z z40E p42 => ?_)
    obtain ⟨eh41, p42⟩ := p42
    subst eh41
    refine V_if_eq 55 z40E d_Mod_natureNow_39 (by decide) (fun c43 => ?_) (fun c43 => ?_)
    ·
      exact J7  (by have := x_nmr2 b fZ pZ; omega)
    ·
      refine V_aload_n 0 d_Mod_natureNow_42 rfl rfl ?_
      refine V_bipush 110 d_Mod_natureNow_43 (by decide) ?_
      refine V_iconst 0 d_Mod_natureNow_45 (by decide) ?_
      refine V_iconst 0 d_Mod_natureNow_46 (by decide) ?_
      refine N_callVI [.int 110, .int 0, .int 0] [] cv_Mod_122 sk_116 rfl d_Mod_natureNow_47 rfl (Nat.le_of_ble_eq_true rfl) (by decide) (by decide) (c_Mod_endsX h b hI 110 110 tc_110 0 0 tc_0 0 0 tc_0 s sZ sE sK f fZ fE fK (TP_fr f0 (fun _ => rfl) hy0) (by (first | decide +kernel | omega))) (fun z44 h45 z44Z z44E p46 => ?_)
      obtain ⟨eh45, p46⟩ := p46
      subst eh45
      refine V_if_eq 55 z44E d_Mod_natureNow_50 (by decide) (fun c47 => ?_) (fun c47 => ?_)
      ·
        exact J7  (by have := x_nmr2 b fZ pZ; omega)
      ·
        refine V_iconst 1 d_Mod_natureNow_53 (by decide) ?_
        exact V_iret rfl d_Mod_natureNow_54 ⟨1, rfl, ⟨rfl, (Or.inr (Or.inl ⟨tc_1, x_nt_of1 (by have := x_nmr2 b fZ pZ; omega)⟩))⟩⟩
  refine V_aload_n 0 d_Mod_natureNow_0 rfl rfl ?_
  refine V_iconst 5 d_Mod_natureNow_1 (by decide) ?_
  refine V_bipush 119 d_Mod_natureNow_2 (by decide) ?_
  refine V_bipush 97 d_Mod_natureNow_4 (by decide) ?_
  refine V_bipush 116 d_Mod_natureNow_6 (by decide) ?_
  refine N_callVI [.int 5, .int 119, .int 97, .int 116] [] cv_Mod_118 sk_116 rfl d_Mod_natureNow_8 rfl (Nat.le_of_ble_eq_true rfl) (by decide) (by decide) (c_Mod_isX h b hI 5 5 tc_5 119 119 tc_119 97 97 tc_97 116 116 tc_116 s sZ sE sK p pZ pE pK f fZ fE fK (TP_fr f0 (fun _ => rfl) hy0) (by (first | decide +kernel | omega)) (by (first | decide +kernel | omega))) (fun z48 h49 z48Z z48E p50 => ?_)
  obtain ⟨eh49, p50⟩ := p50
  subst eh49
  refine V_if_eq 28 z48E d_Mod_natureNow_11 (by decide) (fun c51 => ?_) (fun c51 => ?_)
  ·
    exact J4  (by have := x_nmr10 b fZ pZ; omega)
  ·
    refine V_aload_n 0 d_Mod_natureNow_14 rfl rfl ?_
    refine V_bipush 101 d_Mod_natureNow_15 (by decide) ?_
    refine V_bipush 114 d_Mod_natureNow_17 (by decide) ?_
    refine V_iconst 0 d_Mod_natureNow_19 (by decide) ?_
    refine N_callVI [.int 101, .int 114, .int 0] [] cv_Mod_122 sk_116 rfl d_Mod_natureNow_20 rfl (Nat.le_of_ble_eq_true rfl) (by decide) (by decide) (c_Mod_endsX h b hI 101 101 tc_101 114 114 tc_114 0 0 tc_0 s sZ sE sK f fZ fE fK (TP_fr f0 (fun _ => rfl) hy0) (by (first | decide +kernel | omega))) (fun z52 h53 z52Z z52E p54 => ?_)
    obtain ⟨eh53, p54⟩ := p54
    subst eh53
    refine V_if_eq 28 z52E d_Mod_natureNow_23 (by decide) (fun c55 => ?_) (fun c55 => ?_)
    ·
      exact J4  (by have := x_nmr10 b fZ pZ; omega)
    ·
      refine V_iconst 0 d_Mod_natureNow_26 (by decide) ?_
      exact V_iret rfl d_Mod_natureNow_27 ⟨0, rfl, ⟨rfl, (Or.inl ⟨tc_0, x_nt_of0 (by have := x_nmr10 b fZ pZ; omega)⟩)⟩⟩
def S_Mod_nextX : List (Nat × Option Nat) := [(116, some 16), (116, some 17), (116, some 18), (116, some 19), (116, some 20), (116, some 21)]
abbrev q_Mod_nextX (h : Hp) (b : Int → Int) (s : Int32) (sZ : Int) (p : Int32) (pZ : Int) (g : Int32) (gZ : Int) (k : Int32) (kZ : Int) (v : Int32) (vZ : Int) (w : Int32) (wZ : Int) (a : Int32) (aZ : Int) : Option Value → Hp → Prop := pVd (fun h' => Inv h' ∧ fr S_Mod_nextX h h' ∧ ∃ (q : Int32) (qZ : Int), q.toInt = qZ ∧ h'.1 116 16 = q ∧ ∃ (f : Int32) (fZ : Int), f.toInt = fZ ∧ h'.1 116 17 = f ∧ ∃ (m : Int32) (mZ : Int), m.toInt = mZ ∧ h'.1 116 18 = m ∧ ∃ (x : Int32) (xZ : Int), x.toInt = xZ ∧ h'.1 116 19 = x ∧ ∃ (u : Int32) (uZ : Int), u.toInt = uZ ∧ h'.1 116 20 = u ∧ ∃ (y : Int32) (yZ : Int), y.toInt = yZ ∧ h'.1 116 21 = y ∧ (wZ ≠ 0 ∧ qZ = pZ ∧ fZ = gZ ∧ mZ = kZ ∧ xZ = vZ ∧ uZ = wZ ∧ yZ = aZ ∨ wZ = 0 ∧ fZ = x_fr b pZ ∧ pZ ≤ fZ ∧ fZ ≤ qZ ∧ qZ ≤ sZ ∧ (uZ = 1 ∧ x_kd b pZ = 4 ∧ yZ = fZ ∨ uZ = 0 ∧ yZ = aZ ∧ mZ = x_kd b pZ ∧ mZ ≠ 4 ∧ 0 ≤ mZ ∧ mZ ≤ 3 ∧ qZ = x_en b pZ ∧ (mZ ≠ 2 ∨ xZ = x_vl b pZ ∧ 0 ≤ xZ ∧ xZ ≤ 99) ∧ (mZ = 0 ∨ fZ < qZ))))
set_option maxRecDepth 100000 in
theorem c_Mod_nextX (h : Hp) (b : Int → Int) (hI : Inv h) (s : Int32) (sZ : Int) (sE : s.toInt = sZ) (sK : h.1 116 15 = s) (p : Int32) (pZ : Int) (pE : p.toInt = pZ) (pK : h.1 116 16 = p) (g : Int32) (gZ : Int) (gE : g.toInt = gZ) (gK : h.1 116 17 = g) (k : Int32) (kZ : Int) (kE : k.toInt = kZ) (kK : h.1 116 18 = k) (v : Int32) (vZ : Int) (vE : v.toInt = vZ) (vK : h.1 116 19 = v) (w : Int32) (wZ : Int) (wE : w.toInt = wZ) (wK : h.1 116 20 = w) (a : Int32) (aZ : Int) (aE : a.toInt = aZ) (aK : h.1 116 21 = a) (hy0 : TP h 121 sZ b) (hy1 : 0 ≤ pZ ∧ pZ ≤ sZ ∧ 0 ≤ wZ) : Ct y_Mod_next b_Mod_next 2 none 1 25 [.ref 116] h (q_Mod_nextX h b s sZ p pZ g gZ k kZ v vZ w wZ a aZ) := by
  refine ct_ow R_Mod [some (.ref 116), none] rfl (by decide) rfl (Nat.le_of_ble_eq_true rfl) ?_
  have f0 : fr S_Mod_nextX h h := fr_rf
  have g1 : 0 ≤ sZ ∧ sZ ≤ 160 := inv_at hI sE sK.symm rfl
  have g2 : 0 ≤ pZ ∧ pZ ≤ 160 := inv_at hI pE pK.symm rfl
  have g3 : 0 ≤ gZ ∧ gZ ≤ 160 := inv_at hI gE gK.symm rfl
  refine V_aload_n 0 d_Mod_next_0 rfl rfl ?_
  refine N_getK fa_Mod_102 sk_116 rfl d_Mod_next_1 wK ?_
  refine V_if_le 8 wE d_Mod_next_4 (by decide) (fun c4 => ?_) (fun c4 => ?_)
  ·
    have L5 : ∀ (nn : Nat) (h7 : Hp) (v14 : Int32) (v14Z : Int), Inv h7 → fr S_Mod_nextX h h7 → h7.1 116 15 = s → h7.1 116 17 = g → h7.1 116 18 = k → h7.1 116 19 = v → h7.1 116 20 = w → h7.1 116 21 = a → v14.toInt = v14Z → h7.1 116 16 = v14 → pZ ≤ v14Z ∧ v14Z ≤ sZ → rn blB b v14Z = rn blB b pZ → 160 - v14Z < (nn : Int) → V R_Mod b_Mod_next 2 none 1 25 (q_Mod_nextX h b s sZ p pZ g gZ k kZ v vZ w wZ a aZ) h7 8 [some (.ref 116), none] [] := by
      intro nn
      induction nn with
      | zero => intro h7 v14 v14Z Ih7 Fh7 K8 K9 K10 K11 K12 K13 v14E K15 q16 q17 hm18; exact absurd hm18 (by (first | decide +kernel | omega))
      | succ nn ihL5 =>
        intro h7 v14 v14Z Ih7 Fh7 K8 K9 K10 K11 K12 K13 v14E K15 q16 q17 hm18
        have g19 : 0 ≤ v14Z ∧ v14Z ≤ 160 := inv_at Ih7 v14E K15.symm rfl
        have g20 := TP_b hy0 v14Z (by (first | decide +kernel | omega))
        refine V_aload_n 0 d_Mod_next_8 rfl rfl ?_
        refine V_aload_n 0 d_Mod_next_9 rfl rfl ?_
        refine N_getK fa_Mod_111 sk_116 rfl d_Mod_next_10 K15 ?_
        refine N_callVI [.int v14] [] cv_Mod_114 sk_116 rfl d_Mod_next_13 rfl (Nat.le_of_ble_eq_true rfl) (by decide) (by decide) (c_Mod_lookX h7 b Ih7 v14 v14Z v14E s sZ sE K8 (TP_fr Fh7 (fun _ => rfl) hy0) (by (first | decide +kernel | omega))) (fun z21 h22 z21Z z21E p23 => ?_)
        obtain ⟨eh22, p23⟩ := p23
        subst eh22
        refine V_bipush 32 d_Mod_next_16 (by decide) ?_
        refine V_icmp_ne 34 z21E tc_32 d_Mod_next_18 (by decide) (fun c24 => ?_) (fun c24 => ?_)
        ·
          have g25 := rn_stop (P := blB) (b := b) (p := v14Z) (blB_n (by (first | decide +kernel | omega)))
          refine V_aload_n 0 d_Mod_next_34 rfl rfl ?_
          refine V_aload_n 0 d_Mod_next_35 rfl rfl ?_
          refine N_getK fa_Mod_111 sk_116 rfl d_Mod_next_36 K15 ?_
          refine N_putI fp_Mod_105 sk_116 rfl d_Mod_next_39 (fun h26 eh26 => ?_)
          have hI27 : Inv h26 := inv_put (lo := 0) (hi := 160) Ih7 eh26 rfl v14E (by (first | decide +kernel | omega))
          have f28 : fr S_Mod_nextX h h26 := fr_put Fh7 eh26 rfl
          refine V_aload_n 0 d_Mod_next_42 rfl rfl ?_
          refine V_aload_n 0 d_Mod_next_43 rfl rfl ?_
          refine N_getK fa_Mod_111 sk_116 rfl d_Mod_next_44 (kn_nei eh26 K15 (by decide)) ?_
          refine N_callVI [.int v14] [] cv_Mod_114 sk_116 rfl d_Mod_next_47 rfl (Nat.le_of_ble_eq_true rfl) (by decide) (by decide) (c_Mod_lookX h26 b hI27 v14 v14Z v14E s sZ sE (kn_nei eh26 K8 (by decide)) (TP_fr f28 (fun _ => rfl) hy0) (by (first | decide +kernel | omega))) (fun z29 h30 z29Z z29E p31 => ?_)
          obtain ⟨eh30, p31⟩ := p31
          subst eh30
          refine V_istore_n 1 [some (.ref 116), some (.int z29)] d_Mod_next_50 rfl (by decide) rfl rfl ?_
          refine V_iload_n 1 d_Mod_next_51 rfl rfl ?_
          refine V_if_ge 63 z29E d_Mod_next_52 (by decide) (fun c32 => ?_) (fun c32 => ?_)
          ·
            refine V_iload_n 1 d_Mod_next_63 rfl rfl ?_
            refine V_i2l d_Mod_next_64 (fun z33 z33e z33E => ?_)
            have z33F : z33.toInt = z29Z := z33E.trans z29E
            refine V_ldc2 d_Mod_next_65 wl_Mod_133 ?_
            refine V_ldc2 d_Mod_next_68 wl_Mod_135 ?_
            refine N_callSI [.long z33, .long 97, .long 122] [] cs_Mod_95 d_Mod_next_71 rfl (Nat.le_of_ble_eq_true rfl) (by decide) (by decide) (c_Mod_in h26 z33 z29Z z33F 97 97 tl_97 122 122 tl_122) (fun z34 h35 z34Z z34E p36 => ?_)
            obtain ⟨eh35, p36⟩ := p36
            subst eh35
            refine V_if_eq 116 z34E d_Mod_next_74 (by decide) (fun c37 => ?_) (fun c37 => ?_)
            ·
              refine V_iload_n 1 d_Mod_next_116 rfl rfl ?_
              refine V_i2l d_Mod_next_117 (fun z38 z38e z38E => ?_)
              have z38F : z38.toInt = z29Z := z38E.trans z29E
              refine V_ldc2 d_Mod_next_118 wl_Mod_137 ?_
              refine V_ldc2 d_Mod_next_121 wl_Mod_139 ?_
              refine N_callSI [.long z38, .long 48, .long 57] [] cs_Mod_95 d_Mod_next_124 rfl (Nat.le_of_ble_eq_true rfl) (by decide) (by decide) (c_Mod_in h26 z38 z29Z z38F 48 48 tl_48 57 57 tl_57) (fun z39 h40 z39Z z39E p41 => ?_)
              obtain ⟨eh40, p41⟩ := p41
              subst eh40
              refine V_if_eq 243 z39E d_Mod_next_127 (by decide) (fun c42 => ?_) (fun c42 => ?_)
              ·
                refine V_aload_n 0 d_Mod_next_243 rfl rfl ?_
                refine V_iconst 3 d_Mod_next_244 (by decide) ?_
                refine N_putI fp_Mod_130 sk_116 rfl d_Mod_next_245 (fun h43 eh43 => ?_)
                have hI44 : Inv h43 := inv_full hI27 eh43 rfl
                have f45 : fr S_Mod_nextX h h43 := fr_put f28 eh43 rfl
                refine V_aload_n 0 d_Mod_next_248 rfl rfl ?_
                refine V_iload_n 1 d_Mod_next_249 rfl rfl ?_
                refine V_bipush 59 d_Mod_next_250 (by decide) ?_
                refine V_icmp_ne 259 z29E tc_59 d_Mod_next_252 (by decide) (fun c46 => ?_) (fun c46 => ?_)
                ·
                  refine V_iconst 0 d_Mod_next_259 (by decide) ?_
                  refine V_iconst 1 d_Mod_next_260 (by decide) ?_
                  refine N_callVV [.int 0, .int 1] [] cv_Mod_144 sk_116 rfl d_Mod_next_261 rfl (Nat.le_of_ble_eq_true rfl) (by decide) (by decide) (c_Mod_needsX h43 hI44 0 0 tc_0 1 1 tc_1 v14 v14Z v14E (kn_nei eh43 (kn_put eh26) (by decide)) w wZ wE (kn_nei eh43 (kn_nei eh26 K12 (by decide)) (by decide)) a aZ aE (kn_nei eh43 (kn_nei eh26 K13 (by decide)) (by decide))) (fun h48 p49 => ?_)
                  obtain ⟨hI50, fh48, o52, o52Z, o52E, o52K, o53, o53Z, o53E, o53K, p49⟩ := p49
                  have f51 : fr S_Mod_nextX h h48 := fr_call f45 fh48 rfl
                  replace p49 := (p49.resolve_left (by (first | decide +kernel | omega))).2.2
                  refine V_aload_n 0 d_Mod_next_264 rfl rfl ?_
                  refine V_dup d_Mod_next_265 rfl ?_
                  refine N_getK fa_Mod_111 sk_116 rfl d_Mod_next_266 (kn_call fh48 (kn_nei eh43 (kn_nei eh26 K15 (by decide)) (by decide)) rfl) ?_
                  refine V_iconst 1 d_Mod_next_269 (by decide) ?_
                  refine V_iadd v14E tc_1 (by (first | decide +kernel | omega)) d_Mod_next_270 (fun z54 z54e z54E => ?_)
                  refine N_putI fp_Mod_111 sk_116 rfl d_Mod_next_271 (fun h55 eh55 => ?_)
                  have hI56 : Inv h55 := inv_put (lo := 0) (hi := 160) hI50 eh55 rfl z54E (by (first | decide +kernel | omega))
                  have f57 : fr S_Mod_nextX h h55 := fr_put f51 eh55 rfl
                  exact V_vret rfl d_Mod_next_274 ⟨rfl, ⟨hI56, f57, z54, (v14Z + 1), z54E, (kn_put eh55), v14, v14Z, v14E, (kn_nei eh55 (kn_call fh48 (kn_nei eh43 (kn_put eh26) (by decide)) rfl) (by decide)), 3, 3, tc_3, (kn_nei eh55 (kn_call fh48 (kn_put eh43) rfl) (by decide)), v, vZ, vE, (kn_nei eh55 (kn_call fh48 (kn_nei eh43 (kn_nei eh26 K11 (by decide)) (by decide)) rfl) (by decide)), o52, o52Z, o52E, (kn_nei eh55 o52K (by decide)), o53, o53Z, o53E, (kn_nei eh55 o53K (by decide)), (by have hf : v14Z = x_fr b pZ := (by unfold x_fr; omega); have q := tok_4 (p := pZ) hf (by (first | decide +kernel | omega)); exact Or.inr ⟨by (first | decide +kernel | omega), hf, by (first | decide +kernel | omega), by (first | decide +kernel | omega), by (first | decide +kernel | omega), Or.inl ⟨by (first | decide +kernel | omega), q, by (first | decide +kernel | omega)⟩⟩)⟩⟩
                ·
                  refine V_iconst 1 d_Mod_next_255 (by decide) ?_
                  refine V_goto 260 d_Mod_next_256 (by decide) ?_
                  refine V_iconst 1 d_Mod_next_260 (by decide) ?_
                  refine N_callVV [.int 1, .int 1] [] cv_Mod_144 sk_116 rfl d_Mod_next_261 rfl (Nat.le_of_ble_eq_true rfl) (by decide) (by decide) (c_Mod_needsX h43 hI44 1 1 tc_1 1 1 tc_1 v14 v14Z v14E (kn_nei eh43 (kn_put eh26) (by decide)) w wZ wE (kn_nei eh43 (kn_nei eh26 K12 (by decide)) (by decide)) a aZ aE (kn_nei eh43 (kn_nei eh26 K13 (by decide)) (by decide))) (fun h59 p60 => ?_)
                  obtain ⟨hI61, fh59, o63, o63Z, o63E, o63K, o64, o64Z, o64E, o64K, p60⟩ := p60
                  have f62 : fr S_Mod_nextX h h59 := fr_call f45 fh59 rfl
                  replace p60 := (p60.resolve_right (by (first | decide +kernel | omega))).2
                  refine V_aload_n 0 d_Mod_next_264 rfl rfl ?_
                  refine V_dup d_Mod_next_265 rfl ?_
                  refine N_getK fa_Mod_111 sk_116 rfl d_Mod_next_266 (kn_call fh59 (kn_nei eh43 (kn_nei eh26 K15 (by decide)) (by decide)) rfl) ?_
                  refine V_iconst 1 d_Mod_next_269 (by decide) ?_
                  refine V_iadd v14E tc_1 (by (first | decide +kernel | omega)) d_Mod_next_270 (fun z65 z65e z65E => ?_)
                  refine N_putI fp_Mod_111 sk_116 rfl d_Mod_next_271 (fun h66 eh66 => ?_)
                  have hI67 : Inv h66 := inv_put (lo := 0) (hi := 160) hI61 eh66 rfl z65E (by (first | decide +kernel | omega))
                  have f68 : fr S_Mod_nextX h h66 := fr_put f62 eh66 rfl
                  exact V_vret rfl d_Mod_next_274 ⟨rfl, ⟨hI67, f68, z65, (v14Z + 1), z65E, (kn_put eh66), v14, v14Z, v14E, (kn_nei eh66 (kn_call fh59 (kn_nei eh43 (kn_put eh26) (by decide)) rfl) (by decide)), 3, 3, tc_3, (kn_nei eh66 (kn_call fh59 (kn_put eh43) rfl) (by decide)), v, vZ, vE, (kn_nei eh66 (kn_call fh59 (kn_nei eh43 (kn_nei eh26 K11 (by decide)) (by decide)) rfl) (by decide)), o63, o63Z, o63E, (kn_nei eh66 o63K (by decide)), o64, o64Z, o64E, (kn_nei eh66 o64K (by decide)), (by have hf : v14Z = x_fr b pZ := (by unfold x_fr; omega); have q := tok_3 (p := pZ) hf (by (first | decide +kernel | omega)); exact Or.inr ⟨by (first | decide +kernel | omega), hf, by (first | decide +kernel | omega), by (first | decide +kernel | omega), by (first | decide +kernel | omega), Or.inr ⟨by (first | decide +kernel | omega), by (first | decide +kernel | omega), q.1.symm, by decide, by decide, by decide, by (first | decide +kernel | omega), Or.inl (by decide), Or.inr (by (first | decide +kernel | omega))⟩⟩)⟩⟩
              ·
                refine V_aload_n 0 d_Mod_next_130 rfl rfl ?_
                refine V_iconst 2 d_Mod_next_131 (by decide) ?_
                refine N_putI fp_Mod_130 sk_116 rfl d_Mod_next_132 (fun h69 eh69 => ?_)
                have hI70 : Inv h69 := inv_full hI27 eh69 rfl
                have f71 : fr S_Mod_nextX h h69 := fr_put f28 eh69 rfl
                refine V_aload_n 0 d_Mod_next_135 rfl rfl ?_
                refine V_iconst 0 d_Mod_next_136 (by decide) ?_
                refine N_putI fp_Mod_141 sk_116 rfl d_Mod_next_137 (fun h72 eh72 => ?_)
                have hI73 : Inv h72 := inv_full hI70 eh72 rfl
                have f74 : fr S_Mod_nextX h h72 := fr_put f71 eh72 rfl
                have L75 : ∀ (nn : Nat) (h77 : Hp) (v83 : Int32) (v83Z : Int) (v85 : Int32) (v85Z : Int), Inv h77 → fr S_Mod_nextX h h77 → h77.1 116 15 = s → h77.1 116 17 = v14 → h77.1 116 18 = 2 → h77.1 116 20 = w → h77.1 116 21 = a → v83.toInt = v83Z → h77.1 116 16 = v83 → v85.toInt = v85Z → h77.1 116 19 = v85 → v14Z ≤ v83Z ∧ v83Z ≤ sZ → rn fiB b v83Z = rn fiB b v14Z → VQp b v14Z v83Z v85Z → DFp b v14Z v83Z → 160 - v83Z < (nn : Int) → V R_Mod b_Mod_next 2 none 1 25 (q_Mod_nextX h b s sZ p pZ g gZ k kZ v vZ w wZ a aZ) h77 140 [some (.ref 116), some (.int z29)] [] := by
                  intro nn
                  induction nn with
                  | zero => intro h77 v83 v83Z v85 v85Z Ih77 Fh77 K78 K79 K80 K81 K82 v83E K84 v85E K86 q87 q88 q89 q90 hm91; exact absurd hm91 (by (first | decide +kernel | omega))
                  | succ nn ihL75 =>
                    intro h77 v83 v83Z v85 v85Z Ih77 Fh77 K78 K79 K80 K81 K82 v83E K84 v85E K86 q87 q88 q89 q90 hm91
                    have g92 : 0 ≤ v83Z ∧ v83Z ≤ 160 := inv_at Ih77 v83E K84.symm rfl
                    have g93 := TP_b hy0 v83Z (by (first | decide +kernel | omega))
                    refine V_aload_n 0 d_Mod_next_140 rfl rfl ?_
                    refine V_aload_n 0 d_Mod_next_141 rfl rfl ?_
                    refine N_getK fa_Mod_111 sk_116 rfl d_Mod_next_142 K84 ?_
                    refine N_callVI [.int v83] [] cv_Mod_114 sk_116 rfl d_Mod_next_145 rfl (Nat.le_of_ble_eq_true rfl) (by decide) (by decide) (c_Mod_lookX h77 b Ih77 v83 v83Z v83E s sZ sE K78 (TP_fr Fh77 (fun _ => rfl) hy0) (by (first | decide +kernel | omega))) (fun z94 h95 z94Z z94E p96 => ?_)
                    obtain ⟨eh95, p96⟩ := p96
                    subst eh95
                    refine V_i2l d_Mod_next_148 (fun z97 z97e z97E => ?_)
                    have z97F : z97.toInt = z94Z := z97E.trans z94E
                    refine V_ldc2 d_Mod_next_149 wl_Mod_137 ?_
                    refine V_ldc2 d_Mod_next_152 wl_Mod_139 ?_
                    refine N_callSI [.long z97, .long 48, .long 57] [] cs_Mod_95 d_Mod_next_155 rfl (Nat.le_of_ble_eq_true rfl) (by decide) (by decide) (c_Mod_in h77 z97 z94Z z97F 48 48 tl_48 57 57 tl_57) (fun z98 h99 z98Z z98E p100 => ?_)
                    obtain ⟨eh99, p100⟩ := p100
                    subst eh99
                    refine V_if_eq 217 z98E d_Mod_next_158 (by decide) (fun c101 => ?_) (fun c101 => ?_)
                    ·
                      refine V_aload_n 0 d_Mod_next_217 rfl rfl ?_
                      refine V_aload_n 0 d_Mod_next_218 rfl rfl ?_
                      refine N_getK fa_Mod_111 sk_116 rfl d_Mod_next_219 K84 ?_
                      refine V_aload_n 0 d_Mod_next_222 rfl rfl ?_
                      refine N_getK fa_Mod_105 sk_116 rfl d_Mod_next_223 K79 ?_
                      refine V_isub v83E v14E (by (first | decide +kernel | omega)) d_Mod_next_226 (fun z102 z102e z102E => ?_)
                      refine V_iconst 2 d_Mod_next_227 (by decide) ?_
                      refine V_icmp_gt 235 z102E tc_2 d_Mod_next_228 (by decide) (fun c103 => ?_) (fun c103 => ?_)
                      ·
                        refine V_iconst 0 d_Mod_next_235 (by decide) ?_
                        refine V_iconst 1 d_Mod_next_236 (by decide) ?_
                        refine N_callVV [.int 0, .int 1] [] cv_Mod_144 sk_116 rfl d_Mod_next_237 rfl (Nat.le_of_ble_eq_true rfl) (by decide) (by decide) (c_Mod_needsX h77 Ih77 0 0 tc_0 1 1 tc_1 v14 v14Z v14E K79 w wZ wE K81 a aZ aE K82) (fun h105 p106 => ?_)
                        obtain ⟨hI107, fh105, o109, o109Z, o109E, o109K, o110, o110Z, o110E, o110K, p106⟩ := p106
                        have f108 : fr S_Mod_nextX h h105 := fr_call Fh77 fh105 rfl
                        replace p106 := (p106.resolve_left (by (first | decide +kernel | omega))).2.2
                        refine V_goto 274 d_Mod_next_240 (by decide) ?_
                        exact V_vret rfl d_Mod_next_274 ⟨rfl, ⟨hI107, f108, v83, v83Z, v83E, (kn_call fh105 K84 rfl), v14, v14Z, v14E, (kn_call fh105 K79 rfl), 2, 2, tc_2, (kn_call fh105 K80 rfl), v85, v85Z, v85E, (kn_call fh105 K86 rfl), o109, o109Z, o109E, o109K, o110, o110Z, o110E, o110K, (by have hf : v14Z = x_fr b pZ := (by unfold x_fr; omega); have q0 := rn_stop (P := fiB) (b := b) (p := v83Z) (fiB_n (by (first | decide +kernel | omega))); have qf : 48 ≤ b v14Z ∧ b v14Z ≤ 57 := (by (first | decide +kernel | omega)); have q := tok_2 (p := pZ) (u := v83Z) hf qf (by (first | decide +kernel | omega)); have q1 := rn_step (P := fiB) (b := b) (p := v14Z) (fiB_y qf) (by (first | decide +kernel | omega)); have q2 := rn_ge (P := fiB) (b := b) (v14Z + 1); have qk : x_kd b pZ = 4 := (by (first | decide +kernel | omega)); exact Or.inr ⟨by (first | decide +kernel | omega), hf, by (first | decide +kernel | omega), by (first | decide +kernel | omega), by (first | decide +kernel | omega), Or.inl ⟨by (first | decide +kernel | omega), qk, by (first | decide +kernel | omega)⟩⟩)⟩⟩
                      ·
                        refine V_iconst 1 d_Mod_next_231 (by decide) ?_
                        refine V_goto 236 d_Mod_next_232 (by decide) ?_
                        refine V_iconst 1 d_Mod_next_236 (by decide) ?_
                        refine N_callVV [.int 1, .int 1] [] cv_Mod_144 sk_116 rfl d_Mod_next_237 rfl (Nat.le_of_ble_eq_true rfl) (by decide) (by decide) (c_Mod_needsX h77 Ih77 1 1 tc_1 1 1 tc_1 v14 v14Z v14E K79 w wZ wE K81 a aZ aE K82) (fun h112 p113 => ?_)
                        obtain ⟨hI114, fh112, o116, o116Z, o116E, o116K, o117, o117Z, o117E, o117K, p113⟩ := p113
                        have f115 : fr S_Mod_nextX h h112 := fr_call Fh77 fh112 rfl
                        replace p113 := (p113.resolve_right (by (first | decide +kernel | omega))).2
                        refine V_goto 274 d_Mod_next_240 (by decide) ?_
                        exact V_vret rfl d_Mod_next_274 ⟨rfl, ⟨hI114, f115, v83, v83Z, v83E, (kn_call fh112 K84 rfl), v14, v14Z, v14E, (kn_call fh112 K79 rfl), 2, 2, tc_2, (kn_call fh112 K80 rfl), v85, v85Z, v85E, (kn_call fh112 K86 rfl), o116, o116Z, o116E, o116K, o117, o117Z, o117E, o117K, (by have hf : v14Z = x_fr b pZ := (by unfold x_fr; omega); have q0 := rn_stop (P := fiB) (b := b) (p := v83Z) (fiB_n (by (first | decide +kernel | omega))); have qf : 48 ≤ b v14Z ∧ b v14Z ≤ 57 := (by (first | decide +kernel | omega)); have q := tok_2 (p := pZ) (u := v83Z) hf qf (by (first | decide +kernel | omega)); have q1 := rn_step (P := fiB) (b := b) (p := v14Z) (fiB_y qf) (by (first | decide +kernel | omega)); have q2 := rn_ge (P := fiB) (b := b) (v14Z + 1); have ql : v83Z - v14Z = 1 ∨ v83Z - v14Z = 2 := (by (first | decide +kernel | omega)); have qk : x_kd b pZ = 2 := (by (first | decide +kernel | omega)); have q3 := tok_v (p := pZ) (u := v83Z) (v := v85Z) hf q.1.symm (VQp_e (by assumption) ql); have qr := VQp_r (b := b) (f := v14Z) (u := v83Z) (v := v85Z) (by assumption) (by assumption) ql; exact Or.inr ⟨by (first | decide +kernel | omega), hf, by (first | decide +kernel | omega), by (first | decide +kernel | omega), by (first | decide +kernel | omega), Or.inr ⟨by (first | decide +kernel | omega), by (first | decide +kernel | omega), qk.symm, by decide, by decide, by decide, q.1.symm, Or.inr ⟨q3, qr.1, qr.2⟩, Or.inr (by (first | decide +kernel | omega))⟩⟩)⟩⟩
                    ·
                      have hf9 : 48 ≤ b v83Z ∧ b v83Z ≤ 57 := by (first | decide +kernel | omega)
                      have g118 := rn_step (P := fiB) (b := b) (p := v83Z) (fiB_y hf9) (by (first | decide +kernel | omega))
                      refine V_aload_n 0 d_Mod_next_161 rfl rfl ?_
                      refine V_aload_n 0 d_Mod_next_162 rfl rfl ?_
                      refine N_getK fa_Mod_111 sk_116 rfl d_Mod_next_163 K84 ?_
                      refine V_aload_n 0 d_Mod_next_166 rfl rfl ?_
                      refine N_getK fa_Mod_105 sk_116 rfl d_Mod_next_167 K79 ?_
                      refine V_isub v83E v14E (by (first | decide +kernel | omega)) d_Mod_next_170 (fun z119 z119e z119E => ?_)
                      refine V_iconst 2 d_Mod_next_171 (by decide) ?_
                      refine V_icmp_ge 197 z119E tc_2 d_Mod_next_172 (by decide) (fun c120 => ?_) (fun c120 => ?_)
                      ·
                        refine V_aload_n 0 d_Mod_next_197 rfl rfl ?_
                        refine N_getK fa_Mod_141 sk_116 rfl d_Mod_next_198 K86 ?_
                        refine N_putI fp_Mod_141 sk_116 rfl d_Mod_next_201 (fun h121 eh121 => ?_)
                        have hI122 : Inv h121 := inv_full Ih77 eh121 rfl
                        have f123 : fr S_Mod_nextX h h121 := fr_put Fh77 eh121 rfl
                        refine V_aload_n 0 d_Mod_next_204 rfl rfl ?_
                        refine V_dup d_Mod_next_205 rfl ?_
                        refine N_getK fa_Mod_111 sk_116 rfl d_Mod_next_206 (kn_nei eh121 K84 (by decide)) ?_
                        refine V_iconst 1 d_Mod_next_209 (by decide) ?_
                        refine V_iadd v83E tc_1 (by (first | decide +kernel | omega)) d_Mod_next_210 (fun z124 z124e z124E => ?_)
                        refine N_putI fp_Mod_111 sk_116 rfl d_Mod_next_211 (fun h125 eh125 => ?_)
                        have hI126 : Inv h125 := inv_put (lo := 0) (hi := 160) hI122 eh125 rfl z124E (by (first | decide +kernel | omega))
                        have f127 : fr S_Mod_nextX h h125 := fr_put f123 eh125 rfl
                        refine V_goto 140 d_Mod_next_214 (by decide) ?_
                        exact ihL75 h125 z124 ((v83Z + 1)) v85 v85Z hI126 f127 (kn_nei eh125 (kn_nei eh121 K78 (by decide)) (by decide)) (kn_nei eh125 (kn_nei eh121 K79 (by decide)) (by decide)) (kn_nei eh125 (kn_nei eh121 K80 (by decide)) (by decide)) (kn_nei eh125 (kn_nei eh121 K81 (by decide)) (by decide)) (kn_nei eh125 (kn_nei eh121 K82 (by decide)) (by decide)) z124E (kn_put eh125) v85E (kn_nei eh125 (kn_put eh121) (by decide)) (by (first | decide +kernel | omega)) (by (first | decide +kernel | omega)) (VQp_k (by assumption) (by (first | decide +kernel | omega))) (DFp_s (by assumption) (by (first | decide +kernel | omega)) hf9) (by (first | decide +kernel | omega))
                      ·
                        have hv9 := VQp_b (b := b) (f := v14Z) (u := v83Z) (v := v85Z) (by assumption) (by assumption) (by (first | decide +kernel | omega))
                        refine V_bipush 10 d_Mod_next_175 (by decide) ?_
                        refine V_aload_n 0 d_Mod_next_177 rfl rfl ?_
                        refine N_getK fa_Mod_141 sk_116 rfl d_Mod_next_178 K86 ?_
                        refine V_imul tc_10 v85E (by (first | decide +kernel | omega)) d_Mod_next_181 (fun z128 z128e z128E => ?_)
                        refine V_aload_n 0 d_Mod_next_182 rfl rfl ?_
                        refine V_aload_n 0 d_Mod_next_183 rfl rfl ?_
                        refine N_getK fa_Mod_111 sk_116 rfl d_Mod_next_184 K84 ?_
                        refine N_callVI [.int v83] [.int z128, .ref 116] cv_Mod_114 sk_116 rfl d_Mod_next_187 rfl (Nat.le_of_ble_eq_true rfl) (by decide) (by decide) (c_Mod_lookX h77 b Ih77 v83 v83Z v83E s sZ sE K78 (TP_fr Fh77 (fun _ => rfl) hy0) (by (first | decide +kernel | omega))) (fun z129 h130 z129Z z129E p131 => ?_)
                        obtain ⟨eh130, p131⟩ := p131
                        subst eh130
                        have hx9 : z129Z = b v83Z := by (first | decide +kernel | omega)
                        refine V_iadd z128E z129E (by (first | decide +kernel | omega)) d_Mod_next_190 (fun z132 z132e z132E => ?_)
                        refine V_bipush 48 d_Mod_next_191 (by decide) ?_
                        refine V_isub z132E tc_48 (by (first | decide +kernel | omega)) d_Mod_next_193 (fun z133 z133e z133E => ?_)
                        refine V_goto 201 d_Mod_next_194 (by decide) ?_
                        refine N_putI fp_Mod_141 sk_116 rfl d_Mod_next_201 (fun h134 eh134 => ?_)
                        have hI135 : Inv h134 := inv_full Ih77 eh134 rfl
                        have f136 : fr S_Mod_nextX h h134 := fr_put Fh77 eh134 rfl
                        refine V_aload_n 0 d_Mod_next_204 rfl rfl ?_
                        refine V_dup d_Mod_next_205 rfl ?_
                        refine N_getK fa_Mod_111 sk_116 rfl d_Mod_next_206 (kn_nei eh134 K84 (by decide)) ?_
                        refine V_iconst 1 d_Mod_next_209 (by decide) ?_
                        refine V_iadd v83E tc_1 (by (first | decide +kernel | omega)) d_Mod_next_210 (fun z137 z137e z137E => ?_)
                        refine N_putI fp_Mod_111 sk_116 rfl d_Mod_next_211 (fun h138 eh138 => ?_)
                        have hI139 : Inv h138 := inv_put (lo := 0) (hi := 160) hI135 eh138 rfl z137E (by (first | decide +kernel | omega))
                        have f140 : fr S_Mod_nextX h h138 := fr_put f136 eh138 rfl
                        refine V_goto 140 d_Mod_next_214 (by decide) ?_
                        exact ihL75 h138 z137 ((v83Z + 1)) z133 ((((10 * v85Z) + z129Z) - 48)) hI139 f140 (kn_nei eh138 (kn_nei eh134 K78 (by decide)) (by decide)) (kn_nei eh138 (kn_nei eh134 K79 (by decide)) (by decide)) (kn_nei eh138 (kn_nei eh134 K80 (by decide)) (by decide)) (kn_nei eh138 (kn_nei eh134 K81 (by decide)) (by decide)) (kn_nei eh138 (kn_nei eh134 K82 (by decide)) (by decide)) z137E (kn_put eh138) z133E (kn_nei eh138 (kn_put eh134) (by decide)) (by (first | decide +kernel | omega)) (by (first | decide +kernel | omega)) (VQp_s (by assumption) hx9 (by (first | decide +kernel | omega))) (DFp_s (by assumption) (by (first | decide +kernel | omega)) hf9) (by (first | decide +kernel | omega))
                exact L75 (Int.toNat ((160 - v14Z : Int) + 1)) h72 v14 v14Z 0 0 hI73 f74 (kn_nei eh72 (kn_nei eh69 (kn_nei eh26 K8 (by decide)) (by decide)) (by decide)) (kn_nei eh72 (kn_nei eh69 (kn_put eh26) (by decide)) (by decide)) (kn_nei eh72 (kn_put eh69) (by decide)) (kn_nei eh72 (kn_nei eh69 (kn_nei eh26 K12 (by decide)) (by decide)) (by decide)) (kn_nei eh72 (kn_nei eh69 (kn_nei eh26 K13 (by decide)) (by decide)) (by decide)) v14E (kn_nei eh72 (kn_nei eh69 (kn_nei eh26 K15 (by decide)) (by decide)) (by decide)) tc_0 (kn_put eh72) (by (first | decide +kernel | omega)) (by (first | decide +kernel | omega)) VQp_0 DFp_0 (by (first | decide +kernel | omega))
            ·
              refine V_aload_n 0 d_Mod_next_77 rfl rfl ?_
              refine V_iconst 1 d_Mod_next_78 (by decide) ?_
              refine N_putI fp_Mod_130 sk_116 rfl d_Mod_next_79 (fun h141 eh141 => ?_)
              have hI142 : Inv h141 := inv_full hI27 eh141 rfl
              have f143 : fr S_Mod_nextX h h141 := fr_put f28 eh141 rfl
              have L144 : ∀ (nn : Nat) (h146 : Hp) (v153 : Int32) (v153Z : Int), Inv h146 → fr S_Mod_nextX h h146 → h146.1 116 15 = s → h146.1 116 17 = v14 → h146.1 116 18 = 1 → h146.1 116 20 = w → h146.1 116 21 = a → h146.1 116 19 = v → v153.toInt = v153Z → h146.1 116 16 = v153 → v14Z ≤ v153Z ∧ v153Z ≤ sZ → rn leB b v153Z = rn leB b v14Z → 160 - v153Z < (nn : Int) → V R_Mod b_Mod_next 2 none 1 25 (q_Mod_nextX h b s sZ p pZ g gZ k kZ v vZ w wZ a aZ) h146 82 [some (.ref 116), some (.int z29)] [] := by
                intro nn
                induction nn with
                | zero => intro h146 v153 v153Z Ih146 Fh146 K147 K148 K149 K150 K151 K152 v153E K154 q155 q156 hm157; exact absurd hm157 (by (first | decide +kernel | omega))
                | succ nn ihL144 =>
                  intro h146 v153 v153Z Ih146 Fh146 K147 K148 K149 K150 K151 K152 v153E K154 q155 q156 hm157
                  have g158 : 0 ≤ v153Z ∧ v153Z ≤ 160 := inv_at Ih146 v153E K154.symm rfl
                  have g159 := TP_b hy0 v153Z (by (first | decide +kernel | omega))
                  refine V_aload_n 0 d_Mod_next_82 rfl rfl ?_
                  refine V_aload_n 0 d_Mod_next_83 rfl rfl ?_
                  refine N_getK fa_Mod_111 sk_116 rfl d_Mod_next_84 K154 ?_
                  refine N_callVI [.int v153] [] cv_Mod_114 sk_116 rfl d_Mod_next_87 rfl (Nat.le_of_ble_eq_true rfl) (by decide) (by decide) (c_Mod_lookX h146 b Ih146 v153 v153Z v153E s sZ sE K147 (TP_fr Fh146 (fun _ => rfl) hy0) (by (first | decide +kernel | omega))) (fun z160 h161 z160Z z160E p162 => ?_)
                  obtain ⟨eh161, p162⟩ := p162
                  subst eh161
                  refine V_i2l d_Mod_next_90 (fun z163 z163e z163E => ?_)
                  have z163F : z163.toInt = z160Z := z163E.trans z160E
                  refine V_ldc2 d_Mod_next_91 wl_Mod_133 ?_
                  refine V_ldc2 d_Mod_next_94 wl_Mod_135 ?_
                  refine N_callSI [.long z163, .long 97, .long 122] [] cs_Mod_95 d_Mod_next_97 rfl (Nat.le_of_ble_eq_true rfl) (by decide) (by decide) (c_Mod_in h146 z163 z160Z z163F 97 97 tl_97 122 122 tl_122) (fun z164 h165 z164Z z164E p166 => ?_)
                  obtain ⟨eh165, p166⟩ := p166
                  subst eh165
                  refine V_if_eq 274 z164E d_Mod_next_100 (by decide) (fun c167 => ?_) (fun c167 => ?_)
                  ·
                    exact V_vret rfl d_Mod_next_274 ⟨rfl, ⟨Ih146, Fh146, v153, v153Z, v153E, K154, v14, v14Z, v14E, K148, 1, 1, tc_1, K149, v, vZ, vE, K152, w, wZ, wE, K150, a, aZ, aE, K151, (by have hf : v14Z = x_fr b pZ := (by unfold x_fr; omega); have q0 := rn_stop (P := leB) (b := b) (p := v153Z) (leB_n (by (first | decide +kernel | omega))); have q := tok_1 (p := pZ) (u := v153Z) hf (by (first | decide +kernel | omega)) (by (first | decide +kernel | omega)); have q1 := rn_step (P := leB) (b := b) (p := v14Z) (leB_y (by (first | decide +kernel | omega))) (by (first | decide +kernel | omega)); have q2 := rn_ge (P := leB) (b := b) (v14Z + 1); exact Or.inr ⟨by (first | decide +kernel | omega), hf, by (first | decide +kernel | omega), by (first | decide +kernel | omega), by (first | decide +kernel | omega), Or.inr ⟨by (first | decide +kernel | omega), by (first | decide +kernel | omega), q.1.symm, by decide, by decide, by decide, q.2.symm, Or.inl (by decide), Or.inr (by (first | decide +kernel | omega))⟩⟩)⟩⟩
                  ·
                    have g168 := rn_step (P := leB) (b := b) (p := v153Z) (leB_y (by (first | decide +kernel | omega))) (by (first | decide +kernel | omega))
                    refine V_aload_n 0 d_Mod_next_103 rfl rfl ?_
                    refine V_dup d_Mod_next_104 rfl ?_
                    refine N_getK fa_Mod_111 sk_116 rfl d_Mod_next_105 K154 ?_
                    refine V_iconst 1 d_Mod_next_108 (by decide) ?_
                    refine V_iadd v153E tc_1 (by (first | decide +kernel | omega)) d_Mod_next_109 (fun z169 z169e z169E => ?_)
                    refine N_putI fp_Mod_111 sk_116 rfl d_Mod_next_110 (fun h170 eh170 => ?_)
                    have hI171 : Inv h170 := inv_put (lo := 0) (hi := 160) Ih146 eh170 rfl z169E (by (first | decide +kernel | omega))
                    have f172 : fr S_Mod_nextX h h170 := fr_put Fh146 eh170 rfl
                    refine V_goto 82 d_Mod_next_113 (by decide) ?_
                    exact ihL144 h170 z169 ((v153Z + 1)) hI171 f172 (kn_nei eh170 K147 (by decide)) (kn_nei eh170 K148 (by decide)) (kn_nei eh170 K149 (by decide)) (kn_nei eh170 K150 (by decide)) (kn_nei eh170 K151 (by decide)) (kn_nei eh170 K152 (by decide)) z169E (kn_put eh170) (by (first | decide +kernel | omega)) (by (first | decide +kernel | omega)) (by (first | decide +kernel | omega))
              exact L144 (Int.toNat ((160 - v14Z : Int) + 1)) h141 v14 v14Z hI142 f143 (kn_nei eh141 (kn_nei eh26 K8 (by decide)) (by decide)) (kn_nei eh141 (kn_put eh26) (by decide)) (kn_put eh141) (kn_nei eh141 (kn_nei eh26 K12 (by decide)) (by decide)) (kn_nei eh141 (kn_nei eh26 K13 (by decide)) (by decide)) (kn_nei eh141 (kn_nei eh26 K11 (by decide)) (by decide)) v14E (kn_nei eh141 (kn_nei eh26 K15 (by decide)) (by decide)) (by (first | decide +kernel | omega)) (by (first | decide +kernel | omega)) (by (first | decide +kernel | omega))
          ·
            refine V_aload_n 0 d_Mod_next_55 rfl rfl ?_
            refine V_iconst 0 d_Mod_next_56 (by decide) ?_
            refine N_putI fp_Mod_130 sk_116 rfl d_Mod_next_57 (fun h173 eh173 => ?_)
            have hI174 : Inv h173 := inv_full hI27 eh173 rfl
            have f175 : fr S_Mod_nextX h h173 := fr_put f28 eh173 rfl
            refine V_goto 274 d_Mod_next_60 (by decide) ?_
            exact V_vret rfl d_Mod_next_274 ⟨rfl, ⟨hI174, f175, v14, v14Z, v14E, (kn_nei eh173 (kn_nei eh26 K15 (by decide)) (by decide)), v14, v14Z, v14E, (kn_nei eh173 (kn_put eh26) (by decide)), 0, 0, tc_0, (kn_put eh173), v, vZ, vE, (kn_nei eh173 (kn_nei eh26 K11 (by decide)) (by decide)), w, wZ, wE, (kn_nei eh173 (kn_nei eh26 K12 (by decide)) (by decide)), a, aZ, aE, (kn_nei eh173 (kn_nei eh26 K13 (by decide)) (by decide)), (by have hf : v14Z = x_fr b pZ := (by unfold x_fr; omega); have q := tok_0 (p := pZ) hf (by (first | decide +kernel | omega)); exact Or.inr ⟨by (first | decide +kernel | omega), hf, by (first | decide +kernel | omega), by (first | decide +kernel | omega), by (first | decide +kernel | omega), Or.inr ⟨by (first | decide +kernel | omega), by (first | decide +kernel | omega), q.1.symm, by decide, by decide, by decide, q.2.symm, Or.inl (by decide), Or.inl rfl⟩⟩)⟩⟩
        ·
          have g176 := rn_step (P := blB) (b := b) (p := v14Z) (blB_y (by (first | decide +kernel | omega))) (by (first | decide +kernel | omega))
          refine V_aload_n 0 d_Mod_next_21 rfl rfl ?_
          refine V_dup d_Mod_next_22 rfl ?_
          refine N_getK fa_Mod_111 sk_116 rfl d_Mod_next_23 K15 ?_
          refine V_iconst 1 d_Mod_next_26 (by decide) ?_
          refine V_iadd v14E tc_1 (by (first | decide +kernel | omega)) d_Mod_next_27 (fun z177 z177e z177E => ?_)
          refine N_putI fp_Mod_111 sk_116 rfl d_Mod_next_28 (fun h178 eh178 => ?_)
          have hI179 : Inv h178 := inv_put (lo := 0) (hi := 160) Ih7 eh178 rfl z177E (by (first | decide +kernel | omega))
          have f180 : fr S_Mod_nextX h h178 := fr_put Fh7 eh178 rfl
          refine V_goto 8 d_Mod_next_31 (by decide) ?_
          exact ihL5 h178 z177 ((v14Z + 1)) hI179 f180 (kn_nei eh178 K8 (by decide)) (kn_nei eh178 K9 (by decide)) (kn_nei eh178 K10 (by decide)) (kn_nei eh178 K11 (by decide)) (kn_nei eh178 K12 (by decide)) (kn_nei eh178 K13 (by decide)) z177E (kn_put eh178) (by (first | decide +kernel | omega)) (by (first | decide +kernel | omega)) (by (first | decide +kernel | omega))
    exact L5 (Int.toNat ((160 - pZ : Int) + 1)) h p pZ hI f0 sK gK kK vK wK aK pE pK (by (first | decide +kernel | omega)) (by (first | decide +kernel | omega)) (by (first | decide +kernel | omega))
  ·
    exact V_vret rfl d_Mod_next_7 ⟨rfl, ⟨hI, f0, p, pZ, pE, pK, g, gZ, gE, gK, k, kZ, kE, kK, v, vZ, vE, vK, w, wZ, wE, wK, a, aZ, aE, aK, (by (first | decide +kernel | omega))⟩⟩
end
