section
abbrev q_Tape_isNameX_0 (h : Hp) (b : Int → Int) (s : Int32) (sZ : Int) (q : Int32) (qZ : Int) (f : Int32) (fZ : Int) (u : Int32) (uZ : Int) : Option Value → Hp → Prop := pInt (fun r h' => h = h' ∧ (qZ ≠ 1 ∧ r.toInt = 0 ∨ qZ = 1 ∧ r.toInt = x_nm0 b fZ uZ))
set_option maxRecDepth 100000 in
theorem c_Tape_isNameX_0 (h : Hp) (b : Int → Int) (hI : Inv h) (s : Int32) (sZ : Int) (sE : s.toInt = sZ) (sK : h.1 89 1 = s) (q : Int32) (qZ : Int) (qE : q.toInt = qZ) (qK : h.1 89 2 = q) (f : Int32) (fZ : Int) (fE : f.toInt = fZ) (fK : h.1 89 3 = f) (u : Int32) (uZ : Int) (uE : u.toInt = uZ) (uK : h.1 89 4 = u) (hy0 : TP h 90 sZ b) (hy1 : 0 ≤ fZ ∧ fZ ≤ uZ ∧ uZ ≤ sZ ∧ sZ ≤ 160) : Ct y_Tape_isName b_Tape_isName 4 (some .boolean) 4 85 [.ref 89, .ref (135 + 0)] h (q_Tape_isNameX_0 h b s sZ q qZ f fZ u uZ) := by
  refine ct_ow R_Tape [some (.ref 89), some (.ref (135 + 0)), none, none] rfl (by decide) rfl (Nat.le_of_ble_eq_true rfl) ?_
  have f0 : fr [] h h := fr_rf
  have g1 : 0 ≤ sZ ∧ sZ ≤ 160 := inv_at hI sE sK.symm rfl
  have g2 : 0 ≤ fZ ∧ fZ ≤ 160 := inv_at hI fE fK.symm rfl
  have g3 : 0 ≤ uZ ∧ uZ ≤ 160 := inv_at hI uE uK.symm rfl
  have sH : 0 < 14 := by decide
  refine V_aload_n 1 d_Tape_isName_0 rfl rfl ?_
  refine N_callVSI [] [] cv_Tape_41 sH rfl d_Tape_isName_1 rfl (Nat.le_of_ble_eq_true rfl) (by decide) (by decide) (c_Str_length h 0 sH) (fun z4 h5 z4Z z4E p6 => ?_)
  obtain ⟨eh5, p6⟩ := p6
  subst eh5
  rw [z4E] at p6
  obtain rfl : z4 = 6 := (ti_eq z4E (show (6 : Int32).toInt = 6 from rfl)).mpr (p6.trans rfl)
  refine V_istore_n 2 [some (.ref 89), some (.ref (135 + 0)), some (.int 6), none] d_Tape_isName_4 rfl (by decide) rfl rfl ?_
  refine V_aload_n 0 d_Tape_isName_5 rfl rfl ?_
  refine N_getK fa_Tape_25 sk_89 rfl d_Tape_isName_6 qK ?_
  refine V_iconst 1 d_Tape_isName_9 (by decide) ?_
  refine V_icmp_ne 26 qE tc_1 d_Tape_isName_10 (by decide) (fun c7 => ?_) (fun c7 => ?_)
  ·
    refine V_iconst 0 d_Tape_isName_26 (by decide) ?_
    exact V_zret rfl (by decide) d_Tape_isName_27 ⟨0, rfl, ⟨rfl, (if q : qZ = 1 then Or.inr ⟨q, tc_0.trans (x_nmn0 (b := b) (f := fZ) (e := uZ) (by (first | decide +kernel | with_reducible assumption | omega))).symm⟩ else Or.inl ⟨q, rfl⟩)⟩⟩
  ·
    refine V_aload_n 0 d_Tape_isName_13 rfl rfl ?_
    refine N_getK fa_Tape_15 sk_89 rfl d_Tape_isName_14 uK ?_
    refine V_aload_n 0 d_Tape_isName_17 rfl rfl ?_
    refine N_getK fa_Tape_19 sk_89 rfl d_Tape_isName_18 fK ?_
    refine V_isub uE fE (by (first | decide +kernel | with_reducible assumption | omega)) d_Tape_isName_21 (fun z8 z8e z8E => ?_)
    refine V_iload_n 2 d_Tape_isName_22 rfl rfl ?_
    refine V_icmp_eq 28 z8E tc_6 d_Tape_isName_23 (by decide) (fun c9 => ?_) (fun c9 => ?_)
    ·
      refine V_iconst 0 d_Tape_isName_28 (by decide) ?_
      refine V_istore_n 3 [some (.ref 89), some (.ref (135 + 0)), some (.int 6), some (.int 0)] d_Tape_isName_29 rfl (by decide) rfl rfl ?_
      refine V_iload_n 3 d_Tape_isName_30 rfl rfl ?_
      refine V_iload_n 2 d_Tape_isName_31 rfl rfl ?_
      refine V_icmp_ge 62 tc_0 tc_6 d_Tape_isName_32 (by decide) (fun c10 => ?_) (fun c10 => ?_)
      ·
        exact absurd c10 (by decide)
      ·
        refine V_aload_n 0 d_Tape_isName_35 rfl rfl ?_
        refine V_getR fa_Tape_9 sk_89 rfl d_Tape_isName_36 ?_
        refine V_aload_n 0 d_Tape_isName_39 rfl rfl ?_
        refine N_getK fa_Tape_19 sk_89 rfl d_Tape_isName_40 fK ?_
        refine V_iload_n 3 d_Tape_isName_43 rfl rfl ?_
        refine V_iadd fE tc_0 (by (first | decide +kernel | with_reducible assumption | omega)) d_Tape_isName_44 (fun z11 z11e z11E => ?_)
        refine N_bald sk_90 z11E (by (first | decide +kernel | with_reducible assumption | omega)) d_Tape_isName_45 (fun z12 z12Z z12E z12e => ?_)
        have g13 : z12Z = b (fZ + 0) := TP_rd (TP_fr f0 (fun _ => rfl) hy0) (by (first | decide +kernel | with_reducible assumption | omega)) z12E z12e
        refine V_aload_n 1 d_Tape_isName_46 rfl rfl ?_
        refine V_iload_n 3 d_Tape_isName_47 rfl rfl ?_
        refine N_callVSI [.int 0] [.int z12] cv_Tape_47 sH rfl d_Tape_isName_48 rfl (Nat.le_of_ble_eq_true rfl) (by decide) (by decide) (c_Str_charAt h 0 sH 0 0 tc_0 (by decide)) (fun z14 h15 z14Z z14E p16 => ?_)
        obtain ⟨eh15, p16⟩ := p16
        subst eh15
        obtain rfl : z14 = 99 := p16.trans rfl
        refine V_icmp_eq 56 z12E tc_99 d_Tape_isName_51 (by decide) (fun c17 => ?_) (fun c17 => ?_)
        ·
          refine V_iinc (v := 1) 3 [some (.ref 89), some (.ref (135 + 0)), some (.int 6), some (.int 1)] d_Tape_isName_56 rfl (by decide) (by decide) rfl rfl ?_
          refine V_goto 30 d_Tape_isName_59 (by decide) ?_
          refine V_iload_n 3 d_Tape_isName_30 rfl rfl ?_
          refine V_iload_n 2 d_Tape_isName_31 rfl rfl ?_
          refine V_icmp_ge 62 tc_1 tc_6 d_Tape_isName_32 (by decide) (fun c19 => ?_) (fun c19 => ?_)
          ·
            exact absurd c19 (by decide)
          ·
            refine V_aload_n 0 d_Tape_isName_35 rfl rfl ?_
            refine V_getR fa_Tape_9 sk_89 rfl d_Tape_isName_36 ?_
            refine V_aload_n 0 d_Tape_isName_39 rfl rfl ?_
            refine N_getK fa_Tape_19 sk_89 rfl d_Tape_isName_40 fK ?_
            refine V_iload_n 3 d_Tape_isName_43 rfl rfl ?_
            refine V_iadd fE tc_1 (by (first | decide +kernel | with_reducible assumption | omega)) d_Tape_isName_44 (fun z20 z20e z20E => ?_)
            refine N_bald sk_90 z20E (by (first | decide +kernel | with_reducible assumption | omega)) d_Tape_isName_45 (fun z21 z21Z z21E z21e => ?_)
            have g22 : z21Z = b (fZ + 1) := TP_rd (TP_fr f0 (fun _ => rfl) hy0) (by (first | decide +kernel | with_reducible assumption | omega)) z21E z21e
            refine V_aload_n 1 d_Tape_isName_46 rfl rfl ?_
            refine V_iload_n 3 d_Tape_isName_47 rfl rfl ?_
            refine N_callVSI [.int 1] [.int z21] cv_Tape_47 sH rfl d_Tape_isName_48 rfl (Nat.le_of_ble_eq_true rfl) (by decide) (by decide) (c_Str_charAt h 0 sH 1 1 tc_1 (by decide)) (fun z23 h24 z23Z z23E p25 => ?_)
            obtain ⟨eh24, p25⟩ := p25
            subst eh24
            obtain rfl : z23 = 111 := p25.trans rfl
            refine V_icmp_eq 56 z21E tc_111 d_Tape_isName_51 (by decide) (fun c26 => ?_) (fun c26 => ?_)
            ·
              refine V_iinc (v := 2) 3 [some (.ref 89), some (.ref (135 + 0)), some (.int 6), some (.int 2)] d_Tape_isName_56 rfl (by decide) (by decide) rfl rfl ?_
              refine V_goto 30 d_Tape_isName_59 (by decide) ?_
              refine V_iload_n 3 d_Tape_isName_30 rfl rfl ?_
              refine V_iload_n 2 d_Tape_isName_31 rfl rfl ?_
              refine V_icmp_ge 62 tc_2 tc_6 d_Tape_isName_32 (by decide) (fun c28 => ?_) (fun c28 => ?_)
              ·
                exact absurd c28 (by decide)
              ·
                refine V_aload_n 0 d_Tape_isName_35 rfl rfl ?_
                refine V_getR fa_Tape_9 sk_89 rfl d_Tape_isName_36 ?_
                refine V_aload_n 0 d_Tape_isName_39 rfl rfl ?_
                refine N_getK fa_Tape_19 sk_89 rfl d_Tape_isName_40 fK ?_
                refine V_iload_n 3 d_Tape_isName_43 rfl rfl ?_
                refine V_iadd fE tc_2 (by (first | decide +kernel | with_reducible assumption | omega)) d_Tape_isName_44 (fun z29 z29e z29E => ?_)
                refine N_bald sk_90 z29E (by (first | decide +kernel | with_reducible assumption | omega)) d_Tape_isName_45 (fun z30 z30Z z30E z30e => ?_)
                have g31 : z30Z = b (fZ + 2) := TP_rd (TP_fr f0 (fun _ => rfl) hy0) (by (first | decide +kernel | with_reducible assumption | omega)) z30E z30e
                refine V_aload_n 1 d_Tape_isName_46 rfl rfl ?_
                refine V_iload_n 3 d_Tape_isName_47 rfl rfl ?_
                refine N_callVSI [.int 2] [.int z30] cv_Tape_47 sH rfl d_Tape_isName_48 rfl (Nat.le_of_ble_eq_true rfl) (by decide) (by decide) (c_Str_charAt h 0 sH 2 2 tc_2 (by decide)) (fun z32 h33 z32Z z32E p34 => ?_)
                obtain ⟨eh33, p34⟩ := p34
                subst eh33
                obtain rfl : z32 = 117 := p34.trans rfl
                refine V_icmp_eq 56 z30E tc_117 d_Tape_isName_51 (by decide) (fun c35 => ?_) (fun c35 => ?_)
                ·
                  refine V_iinc (v := 3) 3 [some (.ref 89), some (.ref (135 + 0)), some (.int 6), some (.int 3)] d_Tape_isName_56 rfl (by decide) (by decide) rfl rfl ?_
                  refine V_goto 30 d_Tape_isName_59 (by decide) ?_
                  refine V_iload_n 3 d_Tape_isName_30 rfl rfl ?_
                  refine V_iload_n 2 d_Tape_isName_31 rfl rfl ?_
                  refine V_icmp_ge 62 tc_3 tc_6 d_Tape_isName_32 (by decide) (fun c37 => ?_) (fun c37 => ?_)
                  ·
                    exact absurd c37 (by decide)
                  ·
                    refine V_aload_n 0 d_Tape_isName_35 rfl rfl ?_
                    refine V_getR fa_Tape_9 sk_89 rfl d_Tape_isName_36 ?_
                    refine V_aload_n 0 d_Tape_isName_39 rfl rfl ?_
                    refine N_getK fa_Tape_19 sk_89 rfl d_Tape_isName_40 fK ?_
                    refine V_iload_n 3 d_Tape_isName_43 rfl rfl ?_
                    refine V_iadd fE tc_3 (by (first | decide +kernel | with_reducible assumption | omega)) d_Tape_isName_44 (fun z38 z38e z38E => ?_)
                    refine N_bald sk_90 z38E (by (first | decide +kernel | with_reducible assumption | omega)) d_Tape_isName_45 (fun z39 z39Z z39E z39e => ?_)
                    have g40 : z39Z = b (fZ + 3) := TP_rd (TP_fr f0 (fun _ => rfl) hy0) (by (first | decide +kernel | with_reducible assumption | omega)) z39E z39e
                    refine V_aload_n 1 d_Tape_isName_46 rfl rfl ?_
                    refine V_iload_n 3 d_Tape_isName_47 rfl rfl ?_
                    refine N_callVSI [.int 3] [.int z39] cv_Tape_47 sH rfl d_Tape_isName_48 rfl (Nat.le_of_ble_eq_true rfl) (by decide) (by decide) (c_Str_charAt h 0 sH 3 3 tc_3 (by decide)) (fun z41 h42 z41Z z41E p43 => ?_)
                    obtain ⟨eh42, p43⟩ := p43
                    subst eh42
                    obtain rfl : z41 = 110 := p43.trans rfl
                    refine V_icmp_eq 56 z39E tc_110 d_Tape_isName_51 (by decide) (fun c44 => ?_) (fun c44 => ?_)
                    ·
                      refine V_iinc (v := 4) 3 [some (.ref 89), some (.ref (135 + 0)), some (.int 6), some (.int 4)] d_Tape_isName_56 rfl (by decide) (by decide) rfl rfl ?_
                      refine V_goto 30 d_Tape_isName_59 (by decide) ?_
                      refine V_iload_n 3 d_Tape_isName_30 rfl rfl ?_
                      refine V_iload_n 2 d_Tape_isName_31 rfl rfl ?_
                      refine V_icmp_ge 62 tc_4 tc_6 d_Tape_isName_32 (by decide) (fun c46 => ?_) (fun c46 => ?_)
                      ·
                        exact absurd c46 (by decide)
                      ·
                        refine V_aload_n 0 d_Tape_isName_35 rfl rfl ?_
                        refine V_getR fa_Tape_9 sk_89 rfl d_Tape_isName_36 ?_
                        refine V_aload_n 0 d_Tape_isName_39 rfl rfl ?_
                        refine N_getK fa_Tape_19 sk_89 rfl d_Tape_isName_40 fK ?_
                        refine V_iload_n 3 d_Tape_isName_43 rfl rfl ?_
                        refine V_iadd fE tc_4 (by (first | decide +kernel | with_reducible assumption | omega)) d_Tape_isName_44 (fun z47 z47e z47E => ?_)
                        refine N_bald sk_90 z47E (by (first | decide +kernel | with_reducible assumption | omega)) d_Tape_isName_45 (fun z48 z48Z z48E z48e => ?_)
                        have g49 : z48Z = b (fZ + 4) := TP_rd (TP_fr f0 (fun _ => rfl) hy0) (by (first | decide +kernel | with_reducible assumption | omega)) z48E z48e
                        refine V_aload_n 1 d_Tape_isName_46 rfl rfl ?_
                        refine V_iload_n 3 d_Tape_isName_47 rfl rfl ?_
                        refine N_callVSI [.int 4] [.int z48] cv_Tape_47 sH rfl d_Tape_isName_48 rfl (Nat.le_of_ble_eq_true rfl) (by decide) (by decide) (c_Str_charAt h 0 sH 4 4 tc_4 (by decide)) (fun z50 h51 z50Z z50E p52 => ?_)
                        obtain ⟨eh51, p52⟩ := p52
                        subst eh51
                        obtain rfl : z50 = 116 := p52.trans rfl
                        refine V_icmp_eq 56 z48E tc_116 d_Tape_isName_51 (by decide) (fun c53 => ?_) (fun c53 => ?_)
                        ·
                          refine V_iinc (v := 5) 3 [some (.ref 89), some (.ref (135 + 0)), some (.int 6), some (.int 5)] d_Tape_isName_56 rfl (by decide) (by decide) rfl rfl ?_
                          refine V_goto 30 d_Tape_isName_59 (by decide) ?_
                          refine V_iload_n 3 d_Tape_isName_30 rfl rfl ?_
                          refine V_iload_n 2 d_Tape_isName_31 rfl rfl ?_
                          refine V_icmp_ge 62 tc_5 tc_6 d_Tape_isName_32 (by decide) (fun c55 => ?_) (fun c55 => ?_)
                          ·
                            exact absurd c55 (by decide)
                          ·
                            refine V_aload_n 0 d_Tape_isName_35 rfl rfl ?_
                            refine V_getR fa_Tape_9 sk_89 rfl d_Tape_isName_36 ?_
                            refine V_aload_n 0 d_Tape_isName_39 rfl rfl ?_
                            refine N_getK fa_Tape_19 sk_89 rfl d_Tape_isName_40 fK ?_
                            refine V_iload_n 3 d_Tape_isName_43 rfl rfl ?_
                            refine V_iadd fE tc_5 (by (first | decide +kernel | with_reducible assumption | omega)) d_Tape_isName_44 (fun z56 z56e z56E => ?_)
                            refine N_bald sk_90 z56E (by (first | decide +kernel | with_reducible assumption | omega)) d_Tape_isName_45 (fun z57 z57Z z57E z57e => ?_)
                            have g58 : z57Z = b (fZ + 5) := TP_rd (TP_fr f0 (fun _ => rfl) hy0) (by (first | decide +kernel | with_reducible assumption | omega)) z57E z57e
                            refine V_aload_n 1 d_Tape_isName_46 rfl rfl ?_
                            refine V_iload_n 3 d_Tape_isName_47 rfl rfl ?_
                            refine N_callVSI [.int 5] [.int z57] cv_Tape_47 sH rfl d_Tape_isName_48 rfl (Nat.le_of_ble_eq_true rfl) (by decide) (by decide) (c_Str_charAt h 0 sH 5 5 tc_5 (by decide)) (fun z59 h60 z59Z z59E p61 => ?_)
                            obtain ⟨eh60, p61⟩ := p61
                            subst eh60
                            obtain rfl : z59 = 121 := p61.trans rfl
                            refine V_icmp_eq 56 z57E tc_121 d_Tape_isName_51 (by decide) (fun c62 => ?_) (fun c62 => ?_)
                            ·
                              refine V_iinc (v := 6) 3 [some (.ref 89), some (.ref (135 + 0)), some (.int 6), some (.int 6)] d_Tape_isName_56 rfl (by decide) (by decide) rfl rfl ?_
                              refine V_goto 30 d_Tape_isName_59 (by decide) ?_
                              refine V_iload_n 3 d_Tape_isName_30 rfl rfl ?_
                              refine V_iload_n 2 d_Tape_isName_31 rfl rfl ?_
                              refine V_icmp_ge 62 tc_6 tc_6 d_Tape_isName_32 (by decide) (fun c64 => ?_) (fun c64 => ?_)
                              ·
                                refine V_iconst 1 d_Tape_isName_62 (by decide) ?_
                                exact V_zret rfl (by decide) d_Tape_isName_63 ⟨1, rfl, ⟨rfl, (Or.inr ⟨by (first | decide +kernel | with_reducible assumption | omega), tc_1.trans (x_nmy0 (b := b) (f := fZ) (e := uZ) (by (first | decide +kernel | with_reducible assumption | omega))).symm⟩)⟩⟩
                              ·
                                exact absurd c64 (by decide)
                            ·
                              refine V_iconst 0 d_Tape_isName_54 (by decide) ?_
                              exact V_zret rfl (by decide) d_Tape_isName_55 ⟨0, rfl, ⟨rfl, (Or.inr ⟨by (first | decide +kernel | with_reducible assumption | omega), tc_0.trans (x_nmn0 (b := b) (f := fZ) (e := uZ) (by (first | decide +kernel | with_reducible assumption | omega))).symm⟩)⟩⟩
                        ·
                          refine V_iconst 0 d_Tape_isName_54 (by decide) ?_
                          exact V_zret rfl (by decide) d_Tape_isName_55 ⟨0, rfl, ⟨rfl, (Or.inr ⟨by (first | decide +kernel | with_reducible assumption | omega), tc_0.trans (x_nmn0 (b := b) (f := fZ) (e := uZ) (by (first | decide +kernel | with_reducible assumption | omega))).symm⟩)⟩⟩
                    ·
                      refine V_iconst 0 d_Tape_isName_54 (by decide) ?_
                      exact V_zret rfl (by decide) d_Tape_isName_55 ⟨0, rfl, ⟨rfl, (Or.inr ⟨by (first | decide +kernel | with_reducible assumption | omega), tc_0.trans (x_nmn0 (b := b) (f := fZ) (e := uZ) (by (first | decide +kernel | with_reducible assumption | omega))).symm⟩)⟩⟩
                ·
                  refine V_iconst 0 d_Tape_isName_54 (by decide) ?_
                  exact V_zret rfl (by decide) d_Tape_isName_55 ⟨0, rfl, ⟨rfl, (Or.inr ⟨by (first | decide +kernel | with_reducible assumption | omega), tc_0.trans (x_nmn0 (b := b) (f := fZ) (e := uZ) (by (first | decide +kernel | with_reducible assumption | omega))).symm⟩)⟩⟩
            ·
              refine V_iconst 0 d_Tape_isName_54 (by decide) ?_
              exact V_zret rfl (by decide) d_Tape_isName_55 ⟨0, rfl, ⟨rfl, (Or.inr ⟨by (first | decide +kernel | with_reducible assumption | omega), tc_0.trans (x_nmn0 (b := b) (f := fZ) (e := uZ) (by (first | decide +kernel | with_reducible assumption | omega))).symm⟩)⟩⟩
        ·
          refine V_iconst 0 d_Tape_isName_54 (by decide) ?_
          exact V_zret rfl (by decide) d_Tape_isName_55 ⟨0, rfl, ⟨rfl, (Or.inr ⟨by (first | decide +kernel | with_reducible assumption | omega), tc_0.trans (x_nmn0 (b := b) (f := fZ) (e := uZ) (by (first | decide +kernel | with_reducible assumption | omega))).symm⟩)⟩⟩
    ·
      refine V_iconst 0 d_Tape_isName_26 (by decide) ?_
      exact V_zret rfl (by decide) d_Tape_isName_27 ⟨0, rfl, ⟨rfl, (if q : qZ = 1 then Or.inr ⟨q, tc_0.trans (x_nmn0 (b := b) (f := fZ) (e := uZ) (by (first | decide +kernel | with_reducible assumption | omega))).symm⟩ else Or.inl ⟨q, rfl⟩)⟩⟩
abbrev q_Tape_isNameX_1 (h : Hp) (b : Int → Int) (s : Int32) (sZ : Int) (q : Int32) (qZ : Int) (f : Int32) (fZ : Int) (u : Int32) (uZ : Int) : Option Value → Hp → Prop := pInt (fun r h' => h = h' ∧ (qZ ≠ 1 ∧ r.toInt = 0 ∨ qZ = 1 ∧ r.toInt = x_nm1 b fZ uZ))
set_option maxRecDepth 100000 in
theorem c_Tape_isNameX_1 (h : Hp) (b : Int → Int) (hI : Inv h) (s : Int32) (sZ : Int) (sE : s.toInt = sZ) (sK : h.1 89 1 = s) (q : Int32) (qZ : Int) (qE : q.toInt = qZ) (qK : h.1 89 2 = q) (f : Int32) (fZ : Int) (fE : f.toInt = fZ) (fK : h.1 89 3 = f) (u : Int32) (uZ : Int) (uE : u.toInt = uZ) (uK : h.1 89 4 = u) (hy0 : TP h 90 sZ b) (hy1 : 0 ≤ fZ ∧ fZ ≤ uZ ∧ uZ ≤ sZ ∧ sZ ≤ 160) : Ct y_Tape_isName b_Tape_isName 4 (some .boolean) 4 85 [.ref 89, .ref (135 + 1)] h (q_Tape_isNameX_1 h b s sZ q qZ f fZ u uZ) := by
  refine ct_ow R_Tape [some (.ref 89), some (.ref (135 + 1)), none, none] rfl (by decide) rfl (Nat.le_of_ble_eq_true rfl) ?_
  have f0 : fr [] h h := fr_rf
  have g1 : 0 ≤ sZ ∧ sZ ≤ 160 := inv_at hI sE sK.symm rfl
  have g2 : 0 ≤ fZ ∧ fZ ≤ 160 := inv_at hI fE fK.symm rfl
  have g3 : 0 ≤ uZ ∧ uZ ≤ 160 := inv_at hI uE uK.symm rfl
  have sH : 1 < 14 := by decide
  refine V_aload_n 1 d_Tape_isName_0 rfl rfl ?_
  refine N_callVSI [] [] cv_Tape_41 sH rfl d_Tape_isName_1 rfl (Nat.le_of_ble_eq_true rfl) (by decide) (by decide) (c_Str_length h 1 sH) (fun z4 h5 z4Z z4E p6 => ?_)
  obtain ⟨eh5, p6⟩ := p6
  subst eh5
  rw [z4E] at p6
  obtain rfl : z4 = 3 := (ti_eq z4E (show (3 : Int32).toInt = 3 from rfl)).mpr (p6.trans rfl)
  refine V_istore_n 2 [some (.ref 89), some (.ref (135 + 1)), some (.int 3), none] d_Tape_isName_4 rfl (by decide) rfl rfl ?_
  refine V_aload_n 0 d_Tape_isName_5 rfl rfl ?_
  refine N_getK fa_Tape_25 sk_89 rfl d_Tape_isName_6 qK ?_
  refine V_iconst 1 d_Tape_isName_9 (by decide) ?_
  refine V_icmp_ne 26 qE tc_1 d_Tape_isName_10 (by decide) (fun c7 => ?_) (fun c7 => ?_)
  ·
    refine V_iconst 0 d_Tape_isName_26 (by decide) ?_
    exact V_zret rfl (by decide) d_Tape_isName_27 ⟨0, rfl, ⟨rfl, (if q : qZ = 1 then Or.inr ⟨q, tc_0.trans (x_nmn1 (b := b) (f := fZ) (e := uZ) (by (first | decide +kernel | with_reducible assumption | omega))).symm⟩ else Or.inl ⟨q, rfl⟩)⟩⟩
  ·
    refine V_aload_n 0 d_Tape_isName_13 rfl rfl ?_
    refine N_getK fa_Tape_15 sk_89 rfl d_Tape_isName_14 uK ?_
    refine V_aload_n 0 d_Tape_isName_17 rfl rfl ?_
    refine N_getK fa_Tape_19 sk_89 rfl d_Tape_isName_18 fK ?_
    refine V_isub uE fE (by (first | decide +kernel | with_reducible assumption | omega)) d_Tape_isName_21 (fun z8 z8e z8E => ?_)
    refine V_iload_n 2 d_Tape_isName_22 rfl rfl ?_
    refine V_icmp_eq 28 z8E tc_3 d_Tape_isName_23 (by decide) (fun c9 => ?_) (fun c9 => ?_)
    ·
      refine V_iconst 0 d_Tape_isName_28 (by decide) ?_
      refine V_istore_n 3 [some (.ref 89), some (.ref (135 + 1)), some (.int 3), some (.int 0)] d_Tape_isName_29 rfl (by decide) rfl rfl ?_
      refine V_iload_n 3 d_Tape_isName_30 rfl rfl ?_
      refine V_iload_n 2 d_Tape_isName_31 rfl rfl ?_
      refine V_icmp_ge 62 tc_0 tc_3 d_Tape_isName_32 (by decide) (fun c10 => ?_) (fun c10 => ?_)
      ·
        exact absurd c10 (by decide)
      ·
        refine V_aload_n 0 d_Tape_isName_35 rfl rfl ?_
        refine V_getR fa_Tape_9 sk_89 rfl d_Tape_isName_36 ?_
        refine V_aload_n 0 d_Tape_isName_39 rfl rfl ?_
        refine N_getK fa_Tape_19 sk_89 rfl d_Tape_isName_40 fK ?_
        refine V_iload_n 3 d_Tape_isName_43 rfl rfl ?_
        refine V_iadd fE tc_0 (by (first | decide +kernel | with_reducible assumption | omega)) d_Tape_isName_44 (fun z11 z11e z11E => ?_)
        refine N_bald sk_90 z11E (by (first | decide +kernel | with_reducible assumption | omega)) d_Tape_isName_45 (fun z12 z12Z z12E z12e => ?_)
        have g13 : z12Z = b (fZ + 0) := TP_rd (TP_fr f0 (fun _ => rfl) hy0) (by (first | decide +kernel | with_reducible assumption | omega)) z12E z12e
        refine V_aload_n 1 d_Tape_isName_46 rfl rfl ?_
        refine V_iload_n 3 d_Tape_isName_47 rfl rfl ?_
        refine N_callVSI [.int 0] [.int z12] cv_Tape_47 sH rfl d_Tape_isName_48 rfl (Nat.le_of_ble_eq_true rfl) (by decide) (by decide) (c_Str_charAt h 1 sH 0 0 tc_0 (by decide)) (fun z14 h15 z14Z z14E p16 => ?_)
        obtain ⟨eh15, p16⟩ := p16
        subst eh15
        obtain rfl : z14 = 119 := p16.trans rfl
        refine V_icmp_eq 56 z12E tc_119 d_Tape_isName_51 (by decide) (fun c17 => ?_) (fun c17 => ?_)
        ·
          refine V_iinc (v := 1) 3 [some (.ref 89), some (.ref (135 + 1)), some (.int 3), some (.int 1)] d_Tape_isName_56 rfl (by decide) (by decide) rfl rfl ?_
          refine V_goto 30 d_Tape_isName_59 (by decide) ?_
          refine V_iload_n 3 d_Tape_isName_30 rfl rfl ?_
          refine V_iload_n 2 d_Tape_isName_31 rfl rfl ?_
          refine V_icmp_ge 62 tc_1 tc_3 d_Tape_isName_32 (by decide) (fun c19 => ?_) (fun c19 => ?_)
          ·
            exact absurd c19 (by decide)
          ·
            refine V_aload_n 0 d_Tape_isName_35 rfl rfl ?_
            refine V_getR fa_Tape_9 sk_89 rfl d_Tape_isName_36 ?_
            refine V_aload_n 0 d_Tape_isName_39 rfl rfl ?_
            refine N_getK fa_Tape_19 sk_89 rfl d_Tape_isName_40 fK ?_
            refine V_iload_n 3 d_Tape_isName_43 rfl rfl ?_
            refine V_iadd fE tc_1 (by (first | decide +kernel | with_reducible assumption | omega)) d_Tape_isName_44 (fun z20 z20e z20E => ?_)
            refine N_bald sk_90 z20E (by (first | decide +kernel | with_reducible assumption | omega)) d_Tape_isName_45 (fun z21 z21Z z21E z21e => ?_)
            have g22 : z21Z = b (fZ + 1) := TP_rd (TP_fr f0 (fun _ => rfl) hy0) (by (first | decide +kernel | with_reducible assumption | omega)) z21E z21e
            refine V_aload_n 1 d_Tape_isName_46 rfl rfl ?_
            refine V_iload_n 3 d_Tape_isName_47 rfl rfl ?_
            refine N_callVSI [.int 1] [.int z21] cv_Tape_47 sH rfl d_Tape_isName_48 rfl (Nat.le_of_ble_eq_true rfl) (by decide) (by decide) (c_Str_charAt h 1 sH 1 1 tc_1 (by decide)) (fun z23 h24 z23Z z23E p25 => ?_)
            obtain ⟨eh24, p25⟩ := p25
            subst eh24
            obtain rfl : z23 = 101 := p25.trans rfl
            refine V_icmp_eq 56 z21E tc_101 d_Tape_isName_51 (by decide) (fun c26 => ?_) (fun c26 => ?_)
            ·
              refine V_iinc (v := 2) 3 [some (.ref 89), some (.ref (135 + 1)), some (.int 3), some (.int 2)] d_Tape_isName_56 rfl (by decide) (by decide) rfl rfl ?_
              refine V_goto 30 d_Tape_isName_59 (by decide) ?_
              refine V_iload_n 3 d_Tape_isName_30 rfl rfl ?_
              refine V_iload_n 2 d_Tape_isName_31 rfl rfl ?_
              refine V_icmp_ge 62 tc_2 tc_3 d_Tape_isName_32 (by decide) (fun c28 => ?_) (fun c28 => ?_)
              ·
                exact absurd c28 (by decide)
              ·
                refine V_aload_n 0 d_Tape_isName_35 rfl rfl ?_
                refine V_getR fa_Tape_9 sk_89 rfl d_Tape_isName_36 ?_
                refine V_aload_n 0 d_Tape_isName_39 rfl rfl ?_
                refine N_getK fa_Tape_19 sk_89 rfl d_Tape_isName_40 fK ?_
                refine V_iload_n 3 d_Tape_isName_43 rfl rfl ?_
                refine V_iadd fE tc_2 (by (first | decide +kernel | with_reducible assumption | omega)) d_Tape_isName_44 (fun z29 z29e z29E => ?_)
                refine N_bald sk_90 z29E (by (first | decide +kernel | with_reducible assumption | omega)) d_Tape_isName_45 (fun z30 z30Z z30E z30e => ?_)
                have g31 : z30Z = b (fZ + 2) := TP_rd (TP_fr f0 (fun _ => rfl) hy0) (by (first | decide +kernel | with_reducible assumption | omega)) z30E z30e
                refine V_aload_n 1 d_Tape_isName_46 rfl rfl ?_
                refine V_iload_n 3 d_Tape_isName_47 rfl rfl ?_
                refine N_callVSI [.int 2] [.int z30] cv_Tape_47 sH rfl d_Tape_isName_48 rfl (Nat.le_of_ble_eq_true rfl) (by decide) (by decide) (c_Str_charAt h 1 sH 2 2 tc_2 (by decide)) (fun z32 h33 z32Z z32E p34 => ?_)
                obtain ⟨eh33, p34⟩ := p34
                subst eh33
                obtain rfl : z32 = 116 := p34.trans rfl
                refine V_icmp_eq 56 z30E tc_116 d_Tape_isName_51 (by decide) (fun c35 => ?_) (fun c35 => ?_)
                ·
                  refine V_iinc (v := 3) 3 [some (.ref 89), some (.ref (135 + 1)), some (.int 3), some (.int 3)] d_Tape_isName_56 rfl (by decide) (by decide) rfl rfl ?_
                  refine V_goto 30 d_Tape_isName_59 (by decide) ?_
                  refine V_iload_n 3 d_Tape_isName_30 rfl rfl ?_
                  refine V_iload_n 2 d_Tape_isName_31 rfl rfl ?_
                  refine V_icmp_ge 62 tc_3 tc_3 d_Tape_isName_32 (by decide) (fun c37 => ?_) (fun c37 => ?_)
                  ·
                    refine V_iconst 1 d_Tape_isName_62 (by decide) ?_
                    exact V_zret rfl (by decide) d_Tape_isName_63 ⟨1, rfl, ⟨rfl, (Or.inr ⟨by (first | decide +kernel | with_reducible assumption | omega), tc_1.trans (x_nmy1 (b := b) (f := fZ) (e := uZ) (by (first | decide +kernel | with_reducible assumption | omega))).symm⟩)⟩⟩
                  ·
                    exact absurd c37 (by decide)
                ·
                  refine V_iconst 0 d_Tape_isName_54 (by decide) ?_
                  exact V_zret rfl (by decide) d_Tape_isName_55 ⟨0, rfl, ⟨rfl, (Or.inr ⟨by (first | decide +kernel | with_reducible assumption | omega), tc_0.trans (x_nmn1 (b := b) (f := fZ) (e := uZ) (by (first | decide +kernel | with_reducible assumption | omega))).symm⟩)⟩⟩
            ·
              refine V_iconst 0 d_Tape_isName_54 (by decide) ?_
              exact V_zret rfl (by decide) d_Tape_isName_55 ⟨0, rfl, ⟨rfl, (Or.inr ⟨by (first | decide +kernel | with_reducible assumption | omega), tc_0.trans (x_nmn1 (b := b) (f := fZ) (e := uZ) (by (first | decide +kernel | with_reducible assumption | omega))).symm⟩)⟩⟩
        ·
          refine V_iconst 0 d_Tape_isName_54 (by decide) ?_
          exact V_zret rfl (by decide) d_Tape_isName_55 ⟨0, rfl, ⟨rfl, (Or.inr ⟨by (first | decide +kernel | with_reducible assumption | omega), tc_0.trans (x_nmn1 (b := b) (f := fZ) (e := uZ) (by (first | decide +kernel | with_reducible assumption | omega))).symm⟩)⟩⟩
    ·
      refine V_iconst 0 d_Tape_isName_26 (by decide) ?_
      exact V_zret rfl (by decide) d_Tape_isName_27 ⟨0, rfl, ⟨rfl, (if q : qZ = 1 then Or.inr ⟨q, tc_0.trans (x_nmn1 (b := b) (f := fZ) (e := uZ) (by (first | decide +kernel | with_reducible assumption | omega))).symm⟩ else Or.inl ⟨q, rfl⟩)⟩⟩
abbrev q_Tape_isNameX_2 (h : Hp) (b : Int → Int) (s : Int32) (sZ : Int) (q : Int32) (qZ : Int) (f : Int32) (fZ : Int) (u : Int32) (uZ : Int) : Option Value → Hp → Prop := pInt (fun r h' => h = h' ∧ (qZ ≠ 1 ∧ r.toInt = 0 ∨ qZ = 1 ∧ r.toInt = x_nm2 b fZ uZ))
set_option maxRecDepth 100000 in
theorem c_Tape_isNameX_2 (h : Hp) (b : Int → Int) (hI : Inv h) (s : Int32) (sZ : Int) (sE : s.toInt = sZ) (sK : h.1 89 1 = s) (q : Int32) (qZ : Int) (qE : q.toInt = qZ) (qK : h.1 89 2 = q) (f : Int32) (fZ : Int) (fE : f.toInt = fZ) (fK : h.1 89 3 = f) (u : Int32) (uZ : Int) (uE : u.toInt = uZ) (uK : h.1 89 4 = u) (hy0 : TP h 90 sZ b) (hy1 : 0 ≤ fZ ∧ fZ ≤ uZ ∧ uZ ≤ sZ ∧ sZ ≤ 160) : Ct y_Tape_isName b_Tape_isName 4 (some .boolean) 4 85 [.ref 89, .ref (135 + 2)] h (q_Tape_isNameX_2 h b s sZ q qZ f fZ u uZ) := by
  refine ct_ow R_Tape [some (.ref 89), some (.ref (135 + 2)), none, none] rfl (by decide) rfl (Nat.le_of_ble_eq_true rfl) ?_
  have f0 : fr [] h h := fr_rf
  have g1 : 0 ≤ sZ ∧ sZ ≤ 160 := inv_at hI sE sK.symm rfl
  have g2 : 0 ≤ fZ ∧ fZ ≤ 160 := inv_at hI fE fK.symm rfl
  have g3 : 0 ≤ uZ ∧ uZ ≤ 160 := inv_at hI uE uK.symm rfl
  have sH : 2 < 14 := by decide
  refine V_aload_n 1 d_Tape_isName_0 rfl rfl ?_
  refine N_callVSI [] [] cv_Tape_41 sH rfl d_Tape_isName_1 rfl (Nat.le_of_ble_eq_true rfl) (by decide) (by decide) (c_Str_length h 2 sH) (fun z4 h5 z4Z z4E p6 => ?_)
  obtain ⟨eh5, p6⟩ := p6
  subst eh5
  rw [z4E] at p6
  obtain rfl : z4 = 4 := (ti_eq z4E (show (4 : Int32).toInt = 4 from rfl)).mpr (p6.trans rfl)
  refine V_istore_n 2 [some (.ref 89), some (.ref (135 + 2)), some (.int 4), none] d_Tape_isName_4 rfl (by decide) rfl rfl ?_
  refine V_aload_n 0 d_Tape_isName_5 rfl rfl ?_
  refine N_getK fa_Tape_25 sk_89 rfl d_Tape_isName_6 qK ?_
  refine V_iconst 1 d_Tape_isName_9 (by decide) ?_
  refine V_icmp_ne 26 qE tc_1 d_Tape_isName_10 (by decide) (fun c7 => ?_) (fun c7 => ?_)
  ·
    refine V_iconst 0 d_Tape_isName_26 (by decide) ?_
    exact V_zret rfl (by decide) d_Tape_isName_27 ⟨0, rfl, ⟨rfl, (if q : qZ = 1 then Or.inr ⟨q, tc_0.trans (x_nmn2 (b := b) (f := fZ) (e := uZ) (by (first | decide +kernel | with_reducible assumption | omega))).symm⟩ else Or.inl ⟨q, rfl⟩)⟩⟩
  ·
    refine V_aload_n 0 d_Tape_isName_13 rfl rfl ?_
    refine N_getK fa_Tape_15 sk_89 rfl d_Tape_isName_14 uK ?_
    refine V_aload_n 0 d_Tape_isName_17 rfl rfl ?_
    refine N_getK fa_Tape_19 sk_89 rfl d_Tape_isName_18 fK ?_
    refine V_isub uE fE (by (first | decide +kernel | with_reducible assumption | omega)) d_Tape_isName_21 (fun z8 z8e z8E => ?_)
    refine V_iload_n 2 d_Tape_isName_22 rfl rfl ?_
    refine V_icmp_eq 28 z8E tc_4 d_Tape_isName_23 (by decide) (fun c9 => ?_) (fun c9 => ?_)
    ·
      refine V_iconst 0 d_Tape_isName_28 (by decide) ?_
      refine V_istore_n 3 [some (.ref 89), some (.ref (135 + 2)), some (.int 4), some (.int 0)] d_Tape_isName_29 rfl (by decide) rfl rfl ?_
      refine V_iload_n 3 d_Tape_isName_30 rfl rfl ?_
      refine V_iload_n 2 d_Tape_isName_31 rfl rfl ?_
      refine V_icmp_ge 62 tc_0 tc_4 d_Tape_isName_32 (by decide) (fun c10 => ?_) (fun c10 => ?_)
      ·
        exact absurd c10 (by decide)
      ·
        refine V_aload_n 0 d_Tape_isName_35 rfl rfl ?_
        refine V_getR fa_Tape_9 sk_89 rfl d_Tape_isName_36 ?_
        refine V_aload_n 0 d_Tape_isName_39 rfl rfl ?_
        refine N_getK fa_Tape_19 sk_89 rfl d_Tape_isName_40 fK ?_
        refine V_iload_n 3 d_Tape_isName_43 rfl rfl ?_
        refine V_iadd fE tc_0 (by (first | decide +kernel | with_reducible assumption | omega)) d_Tape_isName_44 (fun z11 z11e z11E => ?_)
        refine N_bald sk_90 z11E (by (first | decide +kernel | with_reducible assumption | omega)) d_Tape_isName_45 (fun z12 z12Z z12E z12e => ?_)
        have g13 : z12Z = b (fZ + 0) := TP_rd (TP_fr f0 (fun _ => rfl) hy0) (by (first | decide +kernel | with_reducible assumption | omega)) z12E z12e
        refine V_aload_n 1 d_Tape_isName_46 rfl rfl ?_
        refine V_iload_n 3 d_Tape_isName_47 rfl rfl ?_
        refine N_callVSI [.int 0] [.int z12] cv_Tape_47 sH rfl d_Tape_isName_48 rfl (Nat.le_of_ble_eq_true rfl) (by decide) (by decide) (c_Str_charAt h 2 sH 0 0 tc_0 (by decide)) (fun z14 h15 z14Z z14E p16 => ?_)
        obtain ⟨eh15, p16⟩ := p16
        subst eh15
        obtain rfl : z14 = 105 := p16.trans rfl
        refine V_icmp_eq 56 z12E tc_105 d_Tape_isName_51 (by decide) (fun c17 => ?_) (fun c17 => ?_)
        ·
          refine V_iinc (v := 1) 3 [some (.ref 89), some (.ref (135 + 2)), some (.int 4), some (.int 1)] d_Tape_isName_56 rfl (by decide) (by decide) rfl rfl ?_
          refine V_goto 30 d_Tape_isName_59 (by decide) ?_
          refine V_iload_n 3 d_Tape_isName_30 rfl rfl ?_
          refine V_iload_n 2 d_Tape_isName_31 rfl rfl ?_
          refine V_icmp_ge 62 tc_1 tc_4 d_Tape_isName_32 (by decide) (fun c19 => ?_) (fun c19 => ?_)
          ·
            exact absurd c19 (by decide)
          ·
            refine V_aload_n 0 d_Tape_isName_35 rfl rfl ?_
            refine V_getR fa_Tape_9 sk_89 rfl d_Tape_isName_36 ?_
            refine V_aload_n 0 d_Tape_isName_39 rfl rfl ?_
            refine N_getK fa_Tape_19 sk_89 rfl d_Tape_isName_40 fK ?_
            refine V_iload_n 3 d_Tape_isName_43 rfl rfl ?_
            refine V_iadd fE tc_1 (by (first | decide +kernel | with_reducible assumption | omega)) d_Tape_isName_44 (fun z20 z20e z20E => ?_)
            refine N_bald sk_90 z20E (by (first | decide +kernel | with_reducible assumption | omega)) d_Tape_isName_45 (fun z21 z21Z z21E z21e => ?_)
            have g22 : z21Z = b (fZ + 1) := TP_rd (TP_fr f0 (fun _ => rfl) hy0) (by (first | decide +kernel | with_reducible assumption | omega)) z21E z21e
            refine V_aload_n 1 d_Tape_isName_46 rfl rfl ?_
            refine V_iload_n 3 d_Tape_isName_47 rfl rfl ?_
            refine N_callVSI [.int 1] [.int z21] cv_Tape_47 sH rfl d_Tape_isName_48 rfl (Nat.le_of_ble_eq_true rfl) (by decide) (by decide) (c_Str_charAt h 2 sH 1 1 tc_1 (by decide)) (fun z23 h24 z23Z z23E p25 => ?_)
            obtain ⟨eh24, p25⟩ := p25
            subst eh24
            obtain rfl : z23 = 114 := p25.trans rfl
            refine V_icmp_eq 56 z21E tc_114 d_Tape_isName_51 (by decide) (fun c26 => ?_) (fun c26 => ?_)
            ·
              refine V_iinc (v := 2) 3 [some (.ref 89), some (.ref (135 + 2)), some (.int 4), some (.int 2)] d_Tape_isName_56 rfl (by decide) (by decide) rfl rfl ?_
              refine V_goto 30 d_Tape_isName_59 (by decide) ?_
              refine V_iload_n 3 d_Tape_isName_30 rfl rfl ?_
              refine V_iload_n 2 d_Tape_isName_31 rfl rfl ?_
              refine V_icmp_ge 62 tc_2 tc_4 d_Tape_isName_32 (by decide) (fun c28 => ?_) (fun c28 => ?_)
              ·
                exact absurd c28 (by decide)
              ·
                refine V_aload_n 0 d_Tape_isName_35 rfl rfl ?_
                refine V_getR fa_Tape_9 sk_89 rfl d_Tape_isName_36 ?_
                refine V_aload_n 0 d_Tape_isName_39 rfl rfl ?_
                refine N_getK fa_Tape_19 sk_89 rfl d_Tape_isName_40 fK ?_
                refine V_iload_n 3 d_Tape_isName_43 rfl rfl ?_
                refine V_iadd fE tc_2 (by (first | decide +kernel | with_reducible assumption | omega)) d_Tape_isName_44 (fun z29 z29e z29E => ?_)
                refine N_bald sk_90 z29E (by (first | decide +kernel | with_reducible assumption | omega)) d_Tape_isName_45 (fun z30 z30Z z30E z30e => ?_)
                have g31 : z30Z = b (fZ + 2) := TP_rd (TP_fr f0 (fun _ => rfl) hy0) (by (first | decide +kernel | with_reducible assumption | omega)) z30E z30e
                refine V_aload_n 1 d_Tape_isName_46 rfl rfl ?_
                refine V_iload_n 3 d_Tape_isName_47 rfl rfl ?_
                refine N_callVSI [.int 2] [.int z30] cv_Tape_47 sH rfl d_Tape_isName_48 rfl (Nat.le_of_ble_eq_true rfl) (by decide) (by decide) (c_Str_charAt h 2 sH 2 2 tc_2 (by decide)) (fun z32 h33 z32Z z32E p34 => ?_)
                obtain ⟨eh33, p34⟩ := p34
                subst eh33
                obtain rfl : z32 = 111 := p34.trans rfl
                refine V_icmp_eq 56 z30E tc_111 d_Tape_isName_51 (by decide) (fun c35 => ?_) (fun c35 => ?_)
                ·
                  refine V_iinc (v := 3) 3 [some (.ref 89), some (.ref (135 + 2)), some (.int 4), some (.int 3)] d_Tape_isName_56 rfl (by decide) (by decide) rfl rfl ?_
                  refine V_goto 30 d_Tape_isName_59 (by decide) ?_
                  refine V_iload_n 3 d_Tape_isName_30 rfl rfl ?_
                  refine V_iload_n 2 d_Tape_isName_31 rfl rfl ?_
                  refine V_icmp_ge 62 tc_3 tc_4 d_Tape_isName_32 (by decide) (fun c37 => ?_) (fun c37 => ?_)
                  ·
                    exact absurd c37 (by decide)
                  ·
                    refine V_aload_n 0 d_Tape_isName_35 rfl rfl ?_
                    refine V_getR fa_Tape_9 sk_89 rfl d_Tape_isName_36 ?_
                    refine V_aload_n 0 d_Tape_isName_39 rfl rfl ?_
                    refine N_getK fa_Tape_19 sk_89 rfl d_Tape_isName_40 fK ?_
                    refine V_iload_n 3 d_Tape_isName_43 rfl rfl ?_
                    refine V_iadd fE tc_3 (by (first | decide +kernel | with_reducible assumption | omega)) d_Tape_isName_44 (fun z38 z38e z38E => ?_)
                    refine N_bald sk_90 z38E (by (first | decide +kernel | with_reducible assumption | omega)) d_Tape_isName_45 (fun z39 z39Z z39E z39e => ?_)
                    have g40 : z39Z = b (fZ + 3) := TP_rd (TP_fr f0 (fun _ => rfl) hy0) (by (first | decide +kernel | with_reducible assumption | omega)) z39E z39e
                    refine V_aload_n 1 d_Tape_isName_46 rfl rfl ?_
                    refine V_iload_n 3 d_Tape_isName_47 rfl rfl ?_
                    refine N_callVSI [.int 3] [.int z39] cv_Tape_47 sH rfl d_Tape_isName_48 rfl (Nat.le_of_ble_eq_true rfl) (by decide) (by decide) (c_Str_charAt h 2 sH 3 3 tc_3 (by decide)) (fun z41 h42 z41Z z41E p43 => ?_)
                    obtain ⟨eh42, p43⟩ := p43
                    subst eh42
                    obtain rfl : z41 = 110 := p43.trans rfl
                    refine V_icmp_eq 56 z39E tc_110 d_Tape_isName_51 (by decide) (fun c44 => ?_) (fun c44 => ?_)
                    ·
                      refine V_iinc (v := 4) 3 [some (.ref 89), some (.ref (135 + 2)), some (.int 4), some (.int 4)] d_Tape_isName_56 rfl (by decide) (by decide) rfl rfl ?_
                      refine V_goto 30 d_Tape_isName_59 (by decide) ?_
                      refine V_iload_n 3 d_Tape_isName_30 rfl rfl ?_
                      refine V_iload_n 2 d_Tape_isName_31 rfl rfl ?_
                      refine V_icmp_ge 62 tc_4 tc_4 d_Tape_isName_32 (by decide) (fun c46 => ?_) (fun c46 => ?_)
                      ·
                        refine V_iconst 1 d_Tape_isName_62 (by decide) ?_
                        exact V_zret rfl (by decide) d_Tape_isName_63 ⟨1, rfl, ⟨rfl, (Or.inr ⟨by (first | decide +kernel | with_reducible assumption | omega), tc_1.trans (x_nmy2 (b := b) (f := fZ) (e := uZ) (by (first | decide +kernel | with_reducible assumption | omega))).symm⟩)⟩⟩
                      ·
                        exact absurd c46 (by decide)
                    ·
                      refine V_iconst 0 d_Tape_isName_54 (by decide) ?_
                      exact V_zret rfl (by decide) d_Tape_isName_55 ⟨0, rfl, ⟨rfl, (Or.inr ⟨by (first | decide +kernel | with_reducible assumption | omega), tc_0.trans (x_nmn2 (b := b) (f := fZ) (e := uZ) (by (first | decide +kernel | with_reducible assumption | omega))).symm⟩)⟩⟩
                ·
                  refine V_iconst 0 d_Tape_isName_54 (by decide) ?_
                  exact V_zret rfl (by decide) d_Tape_isName_55 ⟨0, rfl, ⟨rfl, (Or.inr ⟨by (first | decide +kernel | with_reducible assumption | omega), tc_0.trans (x_nmn2 (b := b) (f := fZ) (e := uZ) (by (first | decide +kernel | with_reducible assumption | omega))).symm⟩)⟩⟩
            ·
              refine V_iconst 0 d_Tape_isName_54 (by decide) ?_
              exact V_zret rfl (by decide) d_Tape_isName_55 ⟨0, rfl, ⟨rfl, (Or.inr ⟨by (first | decide +kernel | with_reducible assumption | omega), tc_0.trans (x_nmn2 (b := b) (f := fZ) (e := uZ) (by (first | decide +kernel | with_reducible assumption | omega))).symm⟩)⟩⟩
        ·
          refine V_iconst 0 d_Tape_isName_54 (by decide) ?_
          exact V_zret rfl (by decide) d_Tape_isName_55 ⟨0, rfl, ⟨rfl, (Or.inr ⟨by (first | decide +kernel | with_reducible assumption | omega), tc_0.trans (x_nmn2 (b := b) (f := fZ) (e := uZ) (by (first | decide +kernel | with_reducible assumption | omega))).symm⟩)⟩⟩
    ·
      refine V_iconst 0 d_Tape_isName_26 (by decide) ?_
      exact V_zret rfl (by decide) d_Tape_isName_27 ⟨0, rfl, ⟨rfl, (if q : qZ = 1 then Or.inr ⟨q, tc_0.trans (x_nmn2 (b := b) (f := fZ) (e := uZ) (by (first | decide +kernel | with_reducible assumption | omega))).symm⟩ else Or.inl ⟨q, rfl⟩)⟩⟩
abbrev q_Tape_isNameX_3 (h : Hp) (b : Int → Int) (s : Int32) (sZ : Int) (q : Int32) (qZ : Int) (f : Int32) (fZ : Int) (u : Int32) (uZ : Int) : Option Value → Hp → Prop := pInt (fun r h' => h = h' ∧ (qZ ≠ 1 ∧ r.toInt = 0 ∨ qZ = 1 ∧ r.toInt = x_nm3 b fZ uZ))
set_option maxRecDepth 100000 in
theorem c_Tape_isNameX_3 (h : Hp) (b : Int → Int) (hI : Inv h) (s : Int32) (sZ : Int) (sE : s.toInt = sZ) (sK : h.1 89 1 = s) (q : Int32) (qZ : Int) (qE : q.toInt = qZ) (qK : h.1 89 2 = q) (f : Int32) (fZ : Int) (fE : f.toInt = fZ) (fK : h.1 89 3 = f) (u : Int32) (uZ : Int) (uE : u.toInt = uZ) (uK : h.1 89 4 = u) (hy0 : TP h 90 sZ b) (hy1 : 0 ≤ fZ ∧ fZ ≤ uZ ∧ uZ ≤ sZ ∧ sZ ≤ 160) : Ct y_Tape_isName b_Tape_isName 4 (some .boolean) 4 85 [.ref 89, .ref (135 + 3)] h (q_Tape_isNameX_3 h b s sZ q qZ f fZ u uZ) := by
  refine ct_ow R_Tape [some (.ref 89), some (.ref (135 + 3)), none, none] rfl (by decide) rfl (Nat.le_of_ble_eq_true rfl) ?_
  have f0 : fr [] h h := fr_rf
  have g1 : 0 ≤ sZ ∧ sZ ≤ 160 := inv_at hI sE sK.symm rfl
  have g2 : 0 ≤ fZ ∧ fZ ≤ 160 := inv_at hI fE fK.symm rfl
  have g3 : 0 ≤ uZ ∧ uZ ≤ 160 := inv_at hI uE uK.symm rfl
  have sH : 3 < 14 := by decide
  refine V_aload_n 1 d_Tape_isName_0 rfl rfl ?_
  refine N_callVSI [] [] cv_Tape_41 sH rfl d_Tape_isName_1 rfl (Nat.le_of_ble_eq_true rfl) (by decide) (by decide) (c_Str_length h 3 sH) (fun z4 h5 z4Z z4E p6 => ?_)
  obtain ⟨eh5, p6⟩ := p6
  subst eh5
  rw [z4E] at p6
  obtain rfl : z4 = 4 := (ti_eq z4E (show (4 : Int32).toInt = 4 from rfl)).mpr (p6.trans rfl)
  refine V_istore_n 2 [some (.ref 89), some (.ref (135 + 3)), some (.int 4), none] d_Tape_isName_4 rfl (by decide) rfl rfl ?_
  refine V_aload_n 0 d_Tape_isName_5 rfl rfl ?_
  refine N_getK fa_Tape_25 sk_89 rfl d_Tape_isName_6 qK ?_
  refine V_iconst 1 d_Tape_isName_9 (by decide) ?_
  refine V_icmp_ne 26 qE tc_1 d_Tape_isName_10 (by decide) (fun c7 => ?_) (fun c7 => ?_)
  ·
    refine V_iconst 0 d_Tape_isName_26 (by decide) ?_
    exact V_zret rfl (by decide) d_Tape_isName_27 ⟨0, rfl, ⟨rfl, (if q : qZ = 1 then Or.inr ⟨q, tc_0.trans (x_nmn3 (b := b) (f := fZ) (e := uZ) (by (first | decide +kernel | with_reducible assumption | omega))).symm⟩ else Or.inl ⟨q, rfl⟩)⟩⟩
  ·
    refine V_aload_n 0 d_Tape_isName_13 rfl rfl ?_
    refine N_getK fa_Tape_15 sk_89 rfl d_Tape_isName_14 uK ?_
    refine V_aload_n 0 d_Tape_isName_17 rfl rfl ?_
    refine N_getK fa_Tape_19 sk_89 rfl d_Tape_isName_18 fK ?_
    refine V_isub uE fE (by (first | decide +kernel | with_reducible assumption | omega)) d_Tape_isName_21 (fun z8 z8e z8E => ?_)
    refine V_iload_n 2 d_Tape_isName_22 rfl rfl ?_
    refine V_icmp_eq 28 z8E tc_4 d_Tape_isName_23 (by decide) (fun c9 => ?_) (fun c9 => ?_)
    ·
      refine V_iconst 0 d_Tape_isName_28 (by decide) ?_
      refine V_istore_n 3 [some (.ref 89), some (.ref (135 + 3)), some (.int 4), some (.int 0)] d_Tape_isName_29 rfl (by decide) rfl rfl ?_
      refine V_iload_n 3 d_Tape_isName_30 rfl rfl ?_
      refine V_iload_n 2 d_Tape_isName_31 rfl rfl ?_
      refine V_icmp_ge 62 tc_0 tc_4 d_Tape_isName_32 (by decide) (fun c10 => ?_) (fun c10 => ?_)
      ·
        exact absurd c10 (by decide)
      ·
        refine V_aload_n 0 d_Tape_isName_35 rfl rfl ?_
        refine V_getR fa_Tape_9 sk_89 rfl d_Tape_isName_36 ?_
        refine V_aload_n 0 d_Tape_isName_39 rfl rfl ?_
        refine N_getK fa_Tape_19 sk_89 rfl d_Tape_isName_40 fK ?_
        refine V_iload_n 3 d_Tape_isName_43 rfl rfl ?_
        refine V_iadd fE tc_0 (by (first | decide +kernel | with_reducible assumption | omega)) d_Tape_isName_44 (fun z11 z11e z11E => ?_)
        refine N_bald sk_90 z11E (by (first | decide +kernel | with_reducible assumption | omega)) d_Tape_isName_45 (fun z12 z12Z z12E z12e => ?_)
        have g13 : z12Z = b (fZ + 0) := TP_rd (TP_fr f0 (fun _ => rfl) hy0) (by (first | decide +kernel | with_reducible assumption | omega)) z12E z12e
        refine V_aload_n 1 d_Tape_isName_46 rfl rfl ?_
        refine V_iload_n 3 d_Tape_isName_47 rfl rfl ?_
        refine N_callVSI [.int 0] [.int z12] cv_Tape_47 sH rfl d_Tape_isName_48 rfl (Nat.le_of_ble_eq_true rfl) (by decide) (by decide) (c_Str_charAt h 3 sH 0 0 tc_0 (by decide)) (fun z14 h15 z14Z z14E p16 => ?_)
        obtain ⟨eh15, p16⟩ := p16
        subst eh15
        obtain rfl : z14 = 111 := p16.trans rfl
        refine V_icmp_eq 56 z12E tc_111 d_Tape_isName_51 (by decide) (fun c17 => ?_) (fun c17 => ?_)
        ·
          refine V_iinc (v := 1) 3 [some (.ref 89), some (.ref (135 + 3)), some (.int 4), some (.int 1)] d_Tape_isName_56 rfl (by decide) (by decide) rfl rfl ?_
          refine V_goto 30 d_Tape_isName_59 (by decide) ?_
          refine V_iload_n 3 d_Tape_isName_30 rfl rfl ?_
          refine V_iload_n 2 d_Tape_isName_31 rfl rfl ?_
          refine V_icmp_ge 62 tc_1 tc_4 d_Tape_isName_32 (by decide) (fun c19 => ?_) (fun c19 => ?_)
          ·
            exact absurd c19 (by decide)
          ·
            refine V_aload_n 0 d_Tape_isName_35 rfl rfl ?_
            refine V_getR fa_Tape_9 sk_89 rfl d_Tape_isName_36 ?_
            refine V_aload_n 0 d_Tape_isName_39 rfl rfl ?_
            refine N_getK fa_Tape_19 sk_89 rfl d_Tape_isName_40 fK ?_
            refine V_iload_n 3 d_Tape_isName_43 rfl rfl ?_
            refine V_iadd fE tc_1 (by (first | decide +kernel | with_reducible assumption | omega)) d_Tape_isName_44 (fun z20 z20e z20E => ?_)
            refine N_bald sk_90 z20E (by (first | decide +kernel | with_reducible assumption | omega)) d_Tape_isName_45 (fun z21 z21Z z21E z21e => ?_)
            have g22 : z21Z = b (fZ + 1) := TP_rd (TP_fr f0 (fun _ => rfl) hy0) (by (first | decide +kernel | with_reducible assumption | omega)) z21E z21e
            refine V_aload_n 1 d_Tape_isName_46 rfl rfl ?_
            refine V_iload_n 3 d_Tape_isName_47 rfl rfl ?_
            refine N_callVSI [.int 1] [.int z21] cv_Tape_47 sH rfl d_Tape_isName_48 rfl (Nat.le_of_ble_eq_true rfl) (by decide) (by decide) (c_Str_charAt h 3 sH 1 1 tc_1 (by decide)) (fun z23 h24 z23Z z23E p25 => ?_)
            obtain ⟨eh24, p25⟩ := p25
            subst eh24
            obtain rfl : z23 = 100 := p25.trans rfl
            refine V_icmp_eq 56 z21E tc_100 d_Tape_isName_51 (by decide) (fun c26 => ?_) (fun c26 => ?_)
            ·
              refine V_iinc (v := 2) 3 [some (.ref 89), some (.ref (135 + 3)), some (.int 4), some (.int 2)] d_Tape_isName_56 rfl (by decide) (by decide) rfl rfl ?_
              refine V_goto 30 d_Tape_isName_59 (by decide) ?_
              refine V_iload_n 3 d_Tape_isName_30 rfl rfl ?_
              refine V_iload_n 2 d_Tape_isName_31 rfl rfl ?_
              refine V_icmp_ge 62 tc_2 tc_4 d_Tape_isName_32 (by decide) (fun c28 => ?_) (fun c28 => ?_)
              ·
                exact absurd c28 (by decide)
              ·
                refine V_aload_n 0 d_Tape_isName_35 rfl rfl ?_
                refine V_getR fa_Tape_9 sk_89 rfl d_Tape_isName_36 ?_
                refine V_aload_n 0 d_Tape_isName_39 rfl rfl ?_
                refine N_getK fa_Tape_19 sk_89 rfl d_Tape_isName_40 fK ?_
                refine V_iload_n 3 d_Tape_isName_43 rfl rfl ?_
                refine V_iadd fE tc_2 (by (first | decide +kernel | with_reducible assumption | omega)) d_Tape_isName_44 (fun z29 z29e z29E => ?_)
                refine N_bald sk_90 z29E (by (first | decide +kernel | with_reducible assumption | omega)) d_Tape_isName_45 (fun z30 z30Z z30E z30e => ?_)
                have g31 : z30Z = b (fZ + 2) := TP_rd (TP_fr f0 (fun _ => rfl) hy0) (by (first | decide +kernel | with_reducible assumption | omega)) z30E z30e
                refine V_aload_n 1 d_Tape_isName_46 rfl rfl ?_
                refine V_iload_n 3 d_Tape_isName_47 rfl rfl ?_
                refine N_callVSI [.int 2] [.int z30] cv_Tape_47 sH rfl d_Tape_isName_48 rfl (Nat.le_of_ble_eq_true rfl) (by decide) (by decide) (c_Str_charAt h 3 sH 2 2 tc_2 (by decide)) (fun z32 h33 z32Z z32E p34 => ?_)
                obtain ⟨eh33, p34⟩ := p34
                subst eh33
                obtain rfl : z32 = 100 := p34.trans rfl
                refine V_icmp_eq 56 z30E tc_100 d_Tape_isName_51 (by decide) (fun c35 => ?_) (fun c35 => ?_)
                ·
                  refine V_iinc (v := 3) 3 [some (.ref 89), some (.ref (135 + 3)), some (.int 4), some (.int 3)] d_Tape_isName_56 rfl (by decide) (by decide) rfl rfl ?_
                  refine V_goto 30 d_Tape_isName_59 (by decide) ?_
                  refine V_iload_n 3 d_Tape_isName_30 rfl rfl ?_
                  refine V_iload_n 2 d_Tape_isName_31 rfl rfl ?_
                  refine V_icmp_ge 62 tc_3 tc_4 d_Tape_isName_32 (by decide) (fun c37 => ?_) (fun c37 => ?_)
                  ·
                    exact absurd c37 (by decide)
                  ·
                    refine V_aload_n 0 d_Tape_isName_35 rfl rfl ?_
                    refine V_getR fa_Tape_9 sk_89 rfl d_Tape_isName_36 ?_
                    refine V_aload_n 0 d_Tape_isName_39 rfl rfl ?_
                    refine N_getK fa_Tape_19 sk_89 rfl d_Tape_isName_40 fK ?_
                    refine V_iload_n 3 d_Tape_isName_43 rfl rfl ?_
                    refine V_iadd fE tc_3 (by (first | decide +kernel | with_reducible assumption | omega)) d_Tape_isName_44 (fun z38 z38e z38E => ?_)
                    refine N_bald sk_90 z38E (by (first | decide +kernel | with_reducible assumption | omega)) d_Tape_isName_45 (fun z39 z39Z z39E z39e => ?_)
                    have g40 : z39Z = b (fZ + 3) := TP_rd (TP_fr f0 (fun _ => rfl) hy0) (by (first | decide +kernel | with_reducible assumption | omega)) z39E z39e
                    refine V_aload_n 1 d_Tape_isName_46 rfl rfl ?_
                    refine V_iload_n 3 d_Tape_isName_47 rfl rfl ?_
                    refine N_callVSI [.int 3] [.int z39] cv_Tape_47 sH rfl d_Tape_isName_48 rfl (Nat.le_of_ble_eq_true rfl) (by decide) (by decide) (c_Str_charAt h 3 sH 3 3 tc_3 (by decide)) (fun z41 h42 z41Z z41E p43 => ?_)
                    obtain ⟨eh42, p43⟩ := p43
                    subst eh42
                    obtain rfl : z41 = 115 := p43.trans rfl
                    refine V_icmp_eq 56 z39E tc_115 d_Tape_isName_51 (by decide) (fun c44 => ?_) (fun c44 => ?_)
                    ·
                      refine V_iinc (v := 4) 3 [some (.ref 89), some (.ref (135 + 3)), some (.int 4), some (.int 4)] d_Tape_isName_56 rfl (by decide) (by decide) rfl rfl ?_
                      refine V_goto 30 d_Tape_isName_59 (by decide) ?_
                      refine V_iload_n 3 d_Tape_isName_30 rfl rfl ?_
                      refine V_iload_n 2 d_Tape_isName_31 rfl rfl ?_
                      refine V_icmp_ge 62 tc_4 tc_4 d_Tape_isName_32 (by decide) (fun c46 => ?_) (fun c46 => ?_)
                      ·
                        refine V_iconst 1 d_Tape_isName_62 (by decide) ?_
                        exact V_zret rfl (by decide) d_Tape_isName_63 ⟨1, rfl, ⟨rfl, (Or.inr ⟨by (first | decide +kernel | with_reducible assumption | omega), tc_1.trans (x_nmy3 (b := b) (f := fZ) (e := uZ) (by (first | decide +kernel | with_reducible assumption | omega))).symm⟩)⟩⟩
                      ·
                        exact absurd c46 (by decide)
                    ·
                      refine V_iconst 0 d_Tape_isName_54 (by decide) ?_
                      exact V_zret rfl (by decide) d_Tape_isName_55 ⟨0, rfl, ⟨rfl, (Or.inr ⟨by (first | decide +kernel | with_reducible assumption | omega), tc_0.trans (x_nmn3 (b := b) (f := fZ) (e := uZ) (by (first | decide +kernel | with_reducible assumption | omega))).symm⟩)⟩⟩
                ·
                  refine V_iconst 0 d_Tape_isName_54 (by decide) ?_
                  exact V_zret rfl (by decide) d_Tape_isName_55 ⟨0, rfl, ⟨rfl, (Or.inr ⟨by (first | decide +kernel | with_reducible assumption | omega), tc_0.trans (x_nmn3 (b := b) (f := fZ) (e := uZ) (by (first | decide +kernel | with_reducible assumption | omega))).symm⟩)⟩⟩
            ·
              refine V_iconst 0 d_Tape_isName_54 (by decide) ?_
              exact V_zret rfl (by decide) d_Tape_isName_55 ⟨0, rfl, ⟨rfl, (Or.inr ⟨by (first | decide +kernel | with_reducible assumption | omega), tc_0.trans (x_nmn3 (b := b) (f := fZ) (e := uZ) (by (first | decide +kernel | with_reducible assumption | omega))).symm⟩)⟩⟩
        ·
          refine V_iconst 0 d_Tape_isName_54 (by decide) ?_
          exact V_zret rfl (by decide) d_Tape_isName_55 ⟨0, rfl, ⟨rfl, (Or.inr ⟨by (first | decide +kernel | with_reducible assumption | omega), tc_0.trans (x_nmn3 (b := b) (f := fZ) (e := uZ) (by (first | decide +kernel | with_reducible assumption | omega))).symm⟩)⟩⟩
    ·
      refine V_iconst 0 d_Tape_isName_26 (by decide) ?_
      exact V_zret rfl (by decide) d_Tape_isName_27 ⟨0, rfl, ⟨rfl, (if q : qZ = 1 then Or.inr ⟨q, tc_0.trans (x_nmn3 (b := b) (f := fZ) (e := uZ) (by (first | decide +kernel | with_reducible assumption | omega))).symm⟩ else Or.inl ⟨q, rfl⟩)⟩⟩
abbrev q_Tape_isNameX_4 (h : Hp) (b : Int → Int) (s : Int32) (sZ : Int) (q : Int32) (qZ : Int) (f : Int32) (fZ : Int) (u : Int32) (uZ : Int) : Option Value → Hp → Prop := pInt (fun r h' => h = h' ∧ (qZ ≠ 1 ∧ r.toInt = 0 ∨ qZ = 1 ∧ r.toInt = x_nm4 b fZ uZ))
set_option maxRecDepth 100000 in
theorem c_Tape_isNameX_4 (h : Hp) (b : Int → Int) (hI : Inv h) (s : Int32) (sZ : Int) (sE : s.toInt = sZ) (sK : h.1 89 1 = s) (q : Int32) (qZ : Int) (qE : q.toInt = qZ) (qK : h.1 89 2 = q) (f : Int32) (fZ : Int) (fE : f.toInt = fZ) (fK : h.1 89 3 = f) (u : Int32) (uZ : Int) (uE : u.toInt = uZ) (uK : h.1 89 4 = u) (hy0 : TP h 90 sZ b) (hy1 : 0 ≤ fZ ∧ fZ ≤ uZ ∧ uZ ≤ sZ ∧ sZ ≤ 160) : Ct y_Tape_isName b_Tape_isName 4 (some .boolean) 4 85 [.ref 89, .ref (135 + 4)] h (q_Tape_isNameX_4 h b s sZ q qZ f fZ u uZ) := by
  refine ct_ow R_Tape [some (.ref 89), some (.ref (135 + 4)), none, none] rfl (by decide) rfl (Nat.le_of_ble_eq_true rfl) ?_
  have f0 : fr [] h h := fr_rf
  have g1 : 0 ≤ sZ ∧ sZ ≤ 160 := inv_at hI sE sK.symm rfl
  have g2 : 0 ≤ fZ ∧ fZ ≤ 160 := inv_at hI fE fK.symm rfl
  have g3 : 0 ≤ uZ ∧ uZ ≤ 160 := inv_at hI uE uK.symm rfl
  have sH : 4 < 14 := by decide
  refine V_aload_n 1 d_Tape_isName_0 rfl rfl ?_
  refine N_callVSI [] [] cv_Tape_41 sH rfl d_Tape_isName_1 rfl (Nat.le_of_ble_eq_true rfl) (by decide) (by decide) (c_Str_length h 4 sH) (fun z4 h5 z4Z z4E p6 => ?_)
  obtain ⟨eh5, p6⟩ := p6
  subst eh5
  rw [z4E] at p6
  obtain rfl : z4 = 5 := (ti_eq z4E (show (5 : Int32).toInt = 5 from rfl)).mpr (p6.trans rfl)
  refine V_istore_n 2 [some (.ref 89), some (.ref (135 + 4)), some (.int 5), none] d_Tape_isName_4 rfl (by decide) rfl rfl ?_
  refine V_aload_n 0 d_Tape_isName_5 rfl rfl ?_
  refine N_getK fa_Tape_25 sk_89 rfl d_Tape_isName_6 qK ?_
  refine V_iconst 1 d_Tape_isName_9 (by decide) ?_
  refine V_icmp_ne 26 qE tc_1 d_Tape_isName_10 (by decide) (fun c7 => ?_) (fun c7 => ?_)
  ·
    refine V_iconst 0 d_Tape_isName_26 (by decide) ?_
    exact V_zret rfl (by decide) d_Tape_isName_27 ⟨0, rfl, ⟨rfl, (if q : qZ = 1 then Or.inr ⟨q, tc_0.trans (x_nmn4 (b := b) (f := fZ) (e := uZ) (by (first | decide +kernel | with_reducible assumption | omega))).symm⟩ else Or.inl ⟨q, rfl⟩)⟩⟩
  ·
    refine V_aload_n 0 d_Tape_isName_13 rfl rfl ?_
    refine N_getK fa_Tape_15 sk_89 rfl d_Tape_isName_14 uK ?_
    refine V_aload_n 0 d_Tape_isName_17 rfl rfl ?_
    refine N_getK fa_Tape_19 sk_89 rfl d_Tape_isName_18 fK ?_
    refine V_isub uE fE (by (first | decide +kernel | with_reducible assumption | omega)) d_Tape_isName_21 (fun z8 z8e z8E => ?_)
    refine V_iload_n 2 d_Tape_isName_22 rfl rfl ?_
    refine V_icmp_eq 28 z8E tc_5 d_Tape_isName_23 (by decide) (fun c9 => ?_) (fun c9 => ?_)
    ·
      refine V_iconst 0 d_Tape_isName_28 (by decide) ?_
      refine V_istore_n 3 [some (.ref 89), some (.ref (135 + 4)), some (.int 5), some (.int 0)] d_Tape_isName_29 rfl (by decide) rfl rfl ?_
      refine V_iload_n 3 d_Tape_isName_30 rfl rfl ?_
      refine V_iload_n 2 d_Tape_isName_31 rfl rfl ?_
      refine V_icmp_ge 62 tc_0 tc_5 d_Tape_isName_32 (by decide) (fun c10 => ?_) (fun c10 => ?_)
      ·
        exact absurd c10 (by decide)
      ·
        refine V_aload_n 0 d_Tape_isName_35 rfl rfl ?_
        refine V_getR fa_Tape_9 sk_89 rfl d_Tape_isName_36 ?_
        refine V_aload_n 0 d_Tape_isName_39 rfl rfl ?_
        refine N_getK fa_Tape_19 sk_89 rfl d_Tape_isName_40 fK ?_
        refine V_iload_n 3 d_Tape_isName_43 rfl rfl ?_
        refine V_iadd fE tc_0 (by (first | decide +kernel | with_reducible assumption | omega)) d_Tape_isName_44 (fun z11 z11e z11E => ?_)
        refine N_bald sk_90 z11E (by (first | decide +kernel | with_reducible assumption | omega)) d_Tape_isName_45 (fun z12 z12Z z12E z12e => ?_)
        have g13 : z12Z = b (fZ + 0) := TP_rd (TP_fr f0 (fun _ => rfl) hy0) (by (first | decide +kernel | with_reducible assumption | omega)) z12E z12e
        refine V_aload_n 1 d_Tape_isName_46 rfl rfl ?_
        refine V_iload_n 3 d_Tape_isName_47 rfl rfl ?_
        refine N_callVSI [.int 0] [.int z12] cv_Tape_47 sH rfl d_Tape_isName_48 rfl (Nat.le_of_ble_eq_true rfl) (by decide) (by decide) (c_Str_charAt h 4 sH 0 0 tc_0 (by decide)) (fun z14 h15 z14Z z14E p16 => ?_)
        obtain ⟨eh15, p16⟩ := p16
        subst eh15
        obtain rfl : z14 = 99 := p16.trans rfl
        refine V_icmp_eq 56 z12E tc_99 d_Tape_isName_51 (by decide) (fun c17 => ?_) (fun c17 => ?_)
        ·
          refine V_iinc (v := 1) 3 [some (.ref 89), some (.ref (135 + 4)), some (.int 5), some (.int 1)] d_Tape_isName_56 rfl (by decide) (by decide) rfl rfl ?_
          refine V_goto 30 d_Tape_isName_59 (by decide) ?_
          refine V_iload_n 3 d_Tape_isName_30 rfl rfl ?_
          refine V_iload_n 2 d_Tape_isName_31 rfl rfl ?_
          refine V_icmp_ge 62 tc_1 tc_5 d_Tape_isName_32 (by decide) (fun c19 => ?_) (fun c19 => ?_)
          ·
            exact absurd c19 (by decide)
          ·
            refine V_aload_n 0 d_Tape_isName_35 rfl rfl ?_
            refine V_getR fa_Tape_9 sk_89 rfl d_Tape_isName_36 ?_
            refine V_aload_n 0 d_Tape_isName_39 rfl rfl ?_
            refine N_getK fa_Tape_19 sk_89 rfl d_Tape_isName_40 fK ?_
            refine V_iload_n 3 d_Tape_isName_43 rfl rfl ?_
            refine V_iadd fE tc_1 (by (first | decide +kernel | with_reducible assumption | omega)) d_Tape_isName_44 (fun z20 z20e z20E => ?_)
            refine N_bald sk_90 z20E (by (first | decide +kernel | with_reducible assumption | omega)) d_Tape_isName_45 (fun z21 z21Z z21E z21e => ?_)
            have g22 : z21Z = b (fZ + 1) := TP_rd (TP_fr f0 (fun _ => rfl) hy0) (by (first | decide +kernel | with_reducible assumption | omega)) z21E z21e
            refine V_aload_n 1 d_Tape_isName_46 rfl rfl ?_
            refine V_iload_n 3 d_Tape_isName_47 rfl rfl ?_
            refine N_callVSI [.int 1] [.int z21] cv_Tape_47 sH rfl d_Tape_isName_48 rfl (Nat.le_of_ble_eq_true rfl) (by decide) (by decide) (c_Str_charAt h 4 sH 1 1 tc_1 (by decide)) (fun z23 h24 z23Z z23E p25 => ?_)
            obtain ⟨eh24, p25⟩ := p25
            subst eh24
            obtain rfl : z23 = 108 := p25.trans rfl
            refine V_icmp_eq 56 z21E tc_108 d_Tape_isName_51 (by decide) (fun c26 => ?_) (fun c26 => ?_)
            ·
              refine V_iinc (v := 2) 3 [some (.ref 89), some (.ref (135 + 4)), some (.int 5), some (.int 2)] d_Tape_isName_56 rfl (by decide) (by decide) rfl rfl ?_
              refine V_goto 30 d_Tape_isName_59 (by decide) ?_
              refine V_iload_n 3 d_Tape_isName_30 rfl rfl ?_
              refine V_iload_n 2 d_Tape_isName_31 rfl rfl ?_
              refine V_icmp_ge 62 tc_2 tc_5 d_Tape_isName_32 (by decide) (fun c28 => ?_) (fun c28 => ?_)
              ·
                exact absurd c28 (by decide)
              ·
                refine V_aload_n 0 d_Tape_isName_35 rfl rfl ?_
                refine V_getR fa_Tape_9 sk_89 rfl d_Tape_isName_36 ?_
                refine V_aload_n 0 d_Tape_isName_39 rfl rfl ?_
                refine N_getK fa_Tape_19 sk_89 rfl d_Tape_isName_40 fK ?_
                refine V_iload_n 3 d_Tape_isName_43 rfl rfl ?_
                refine V_iadd fE tc_2 (by (first | decide +kernel | with_reducible assumption | omega)) d_Tape_isName_44 (fun z29 z29e z29E => ?_)
                refine N_bald sk_90 z29E (by (first | decide +kernel | with_reducible assumption | omega)) d_Tape_isName_45 (fun z30 z30Z z30E z30e => ?_)
                have g31 : z30Z = b (fZ + 2) := TP_rd (TP_fr f0 (fun _ => rfl) hy0) (by (first | decide +kernel | with_reducible assumption | omega)) z30E z30e
                refine V_aload_n 1 d_Tape_isName_46 rfl rfl ?_
                refine V_iload_n 3 d_Tape_isName_47 rfl rfl ?_
                refine N_callVSI [.int 2] [.int z30] cv_Tape_47 sH rfl d_Tape_isName_48 rfl (Nat.le_of_ble_eq_true rfl) (by decide) (by decide) (c_Str_charAt h 4 sH 2 2 tc_2 (by decide)) (fun z32 h33 z32Z z32E p34 => ?_)
                obtain ⟨eh33, p34⟩ := p34
                subst eh33
                obtain rfl : z32 = 97 := p34.trans rfl
                refine V_icmp_eq 56 z30E tc_97 d_Tape_isName_51 (by decide) (fun c35 => ?_) (fun c35 => ?_)
                ·
                  refine V_iinc (v := 3) 3 [some (.ref 89), some (.ref (135 + 4)), some (.int 5), some (.int 3)] d_Tape_isName_56 rfl (by decide) (by decide) rfl rfl ?_
                  refine V_goto 30 d_Tape_isName_59 (by decide) ?_
                  refine V_iload_n 3 d_Tape_isName_30 rfl rfl ?_
                  refine V_iload_n 2 d_Tape_isName_31 rfl rfl ?_
                  refine V_icmp_ge 62 tc_3 tc_5 d_Tape_isName_32 (by decide) (fun c37 => ?_) (fun c37 => ?_)
                  ·
                    exact absurd c37 (by decide)
                  ·
                    refine V_aload_n 0 d_Tape_isName_35 rfl rfl ?_
                    refine V_getR fa_Tape_9 sk_89 rfl d_Tape_isName_36 ?_
                    refine V_aload_n 0 d_Tape_isName_39 rfl rfl ?_
                    refine N_getK fa_Tape_19 sk_89 rfl d_Tape_isName_40 fK ?_
                    refine V_iload_n 3 d_Tape_isName_43 rfl rfl ?_
                    refine V_iadd fE tc_3 (by (first | decide +kernel | with_reducible assumption | omega)) d_Tape_isName_44 (fun z38 z38e z38E => ?_)
                    refine N_bald sk_90 z38E (by (first | decide +kernel | with_reducible assumption | omega)) d_Tape_isName_45 (fun z39 z39Z z39E z39e => ?_)
                    have g40 : z39Z = b (fZ + 3) := TP_rd (TP_fr f0 (fun _ => rfl) hy0) (by (first | decide +kernel | with_reducible assumption | omega)) z39E z39e
                    refine V_aload_n 1 d_Tape_isName_46 rfl rfl ?_
                    refine V_iload_n 3 d_Tape_isName_47 rfl rfl ?_
                    refine N_callVSI [.int 3] [.int z39] cv_Tape_47 sH rfl d_Tape_isName_48 rfl (Nat.le_of_ble_eq_true rfl) (by decide) (by decide) (c_Str_charAt h 4 sH 3 3 tc_3 (by decide)) (fun z41 h42 z41Z z41E p43 => ?_)
                    obtain ⟨eh42, p43⟩ := p43
                    subst eh42
                    obtain rfl : z41 = 105 := p43.trans rfl
                    refine V_icmp_eq 56 z39E tc_105 d_Tape_isName_51 (by decide) (fun c44 => ?_) (fun c44 => ?_)
                    ·
                      refine V_iinc (v := 4) 3 [some (.ref 89), some (.ref (135 + 4)), some (.int 5), some (.int 4)] d_Tape_isName_56 rfl (by decide) (by decide) rfl rfl ?_
                      refine V_goto 30 d_Tape_isName_59 (by decide) ?_
                      refine V_iload_n 3 d_Tape_isName_30 rfl rfl ?_
                      refine V_iload_n 2 d_Tape_isName_31 rfl rfl ?_
                      refine V_icmp_ge 62 tc_4 tc_5 d_Tape_isName_32 (by decide) (fun c46 => ?_) (fun c46 => ?_)
                      ·
                        exact absurd c46 (by decide)
                      ·
                        refine V_aload_n 0 d_Tape_isName_35 rfl rfl ?_
                        refine V_getR fa_Tape_9 sk_89 rfl d_Tape_isName_36 ?_
                        refine V_aload_n 0 d_Tape_isName_39 rfl rfl ?_
                        refine N_getK fa_Tape_19 sk_89 rfl d_Tape_isName_40 fK ?_
                        refine V_iload_n 3 d_Tape_isName_43 rfl rfl ?_
                        refine V_iadd fE tc_4 (by (first | decide +kernel | with_reducible assumption | omega)) d_Tape_isName_44 (fun z47 z47e z47E => ?_)
                        refine N_bald sk_90 z47E (by (first | decide +kernel | with_reducible assumption | omega)) d_Tape_isName_45 (fun z48 z48Z z48E z48e => ?_)
                        have g49 : z48Z = b (fZ + 4) := TP_rd (TP_fr f0 (fun _ => rfl) hy0) (by (first | decide +kernel | with_reducible assumption | omega)) z48E z48e
                        refine V_aload_n 1 d_Tape_isName_46 rfl rfl ?_
                        refine V_iload_n 3 d_Tape_isName_47 rfl rfl ?_
                        refine N_callVSI [.int 4] [.int z48] cv_Tape_47 sH rfl d_Tape_isName_48 rfl (Nat.le_of_ble_eq_true rfl) (by decide) (by decide) (c_Str_charAt h 4 sH 4 4 tc_4 (by decide)) (fun z50 h51 z50Z z50E p52 => ?_)
                        obtain ⟨eh51, p52⟩ := p52
                        subst eh51
                        obtain rfl : z50 = 109 := p52.trans rfl
                        refine V_icmp_eq 56 z48E tc_109 d_Tape_isName_51 (by decide) (fun c53 => ?_) (fun c53 => ?_)
                        ·
                          refine V_iinc (v := 5) 3 [some (.ref 89), some (.ref (135 + 4)), some (.int 5), some (.int 5)] d_Tape_isName_56 rfl (by decide) (by decide) rfl rfl ?_
                          refine V_goto 30 d_Tape_isName_59 (by decide) ?_
                          refine V_iload_n 3 d_Tape_isName_30 rfl rfl ?_
                          refine V_iload_n 2 d_Tape_isName_31 rfl rfl ?_
                          refine V_icmp_ge 62 tc_5 tc_5 d_Tape_isName_32 (by decide) (fun c55 => ?_) (fun c55 => ?_)
                          ·
                            refine V_iconst 1 d_Tape_isName_62 (by decide) ?_
                            exact V_zret rfl (by decide) d_Tape_isName_63 ⟨1, rfl, ⟨rfl, (Or.inr ⟨by (first | decide +kernel | with_reducible assumption | omega), tc_1.trans (x_nmy4 (b := b) (f := fZ) (e := uZ) (by (first | decide +kernel | with_reducible assumption | omega))).symm⟩)⟩⟩
                          ·
                            exact absurd c55 (by decide)
                        ·
                          refine V_iconst 0 d_Tape_isName_54 (by decide) ?_
                          exact V_zret rfl (by decide) d_Tape_isName_55 ⟨0, rfl, ⟨rfl, (Or.inr ⟨by (first | decide +kernel | with_reducible assumption | omega), tc_0.trans (x_nmn4 (b := b) (f := fZ) (e := uZ) (by (first | decide +kernel | with_reducible assumption | omega))).symm⟩)⟩⟩
                    ·
                      refine V_iconst 0 d_Tape_isName_54 (by decide) ?_
                      exact V_zret rfl (by decide) d_Tape_isName_55 ⟨0, rfl, ⟨rfl, (Or.inr ⟨by (first | decide +kernel | with_reducible assumption | omega), tc_0.trans (x_nmn4 (b := b) (f := fZ) (e := uZ) (by (first | decide +kernel | with_reducible assumption | omega))).symm⟩)⟩⟩
                ·
                  refine V_iconst 0 d_Tape_isName_54 (by decide) ?_
                  exact V_zret rfl (by decide) d_Tape_isName_55 ⟨0, rfl, ⟨rfl, (Or.inr ⟨by (first | decide +kernel | with_reducible assumption | omega), tc_0.trans (x_nmn4 (b := b) (f := fZ) (e := uZ) (by (first | decide +kernel | with_reducible assumption | omega))).symm⟩)⟩⟩
            ·
              refine V_iconst 0 d_Tape_isName_54 (by decide) ?_
              exact V_zret rfl (by decide) d_Tape_isName_55 ⟨0, rfl, ⟨rfl, (Or.inr ⟨by (first | decide +kernel | with_reducible assumption | omega), tc_0.trans (x_nmn4 (b := b) (f := fZ) (e := uZ) (by (first | decide +kernel | with_reducible assumption | omega))).symm⟩)⟩⟩
        ·
          refine V_iconst 0 d_Tape_isName_54 (by decide) ?_
          exact V_zret rfl (by decide) d_Tape_isName_55 ⟨0, rfl, ⟨rfl, (Or.inr ⟨by (first | decide +kernel | with_reducible assumption | omega), tc_0.trans (x_nmn4 (b := b) (f := fZ) (e := uZ) (by (first | decide +kernel | with_reducible assumption | omega))).symm⟩)⟩⟩
    ·
      refine V_iconst 0 d_Tape_isName_26 (by decide) ?_
      exact V_zret rfl (by decide) d_Tape_isName_27 ⟨0, rfl, ⟨rfl, (if q : qZ = 1 then Or.inr ⟨q, tc_0.trans (x_nmn4 (b := b) (f := fZ) (e := uZ) (by (first | decide +kernel | with_reducible assumption | omega))).symm⟩ else Or.inl ⟨q, rfl⟩)⟩⟩
abbrev q_Tape_isNameX_5 (h : Hp) (b : Int → Int) (s : Int32) (sZ : Int) (q : Int32) (qZ : Int) (f : Int32) (fZ : Int) (u : Int32) (uZ : Int) : Option Value → Hp → Prop := pInt (fun r h' => h = h' ∧ (qZ ≠ 1 ∧ r.toInt = 0 ∨ qZ = 1 ∧ r.toInt = x_nm5 b fZ uZ))
set_option maxRecDepth 100000 in
theorem c_Tape_isNameX_5 (h : Hp) (b : Int → Int) (hI : Inv h) (s : Int32) (sZ : Int) (sE : s.toInt = sZ) (sK : h.1 89 1 = s) (q : Int32) (qZ : Int) (qE : q.toInt = qZ) (qK : h.1 89 2 = q) (f : Int32) (fZ : Int) (fE : f.toInt = fZ) (fK : h.1 89 3 = f) (u : Int32) (uZ : Int) (uE : u.toInt = uZ) (uK : h.1 89 4 = u) (hy0 : TP h 90 sZ b) (hy1 : 0 ≤ fZ ∧ fZ ≤ uZ ∧ uZ ≤ sZ ∧ sZ ≤ 160) : Ct y_Tape_isName b_Tape_isName 4 (some .boolean) 4 85 [.ref 89, .ref (135 + 5)] h (q_Tape_isNameX_5 h b s sZ q qZ f fZ u uZ) := by
  refine ct_ow R_Tape [some (.ref 89), some (.ref (135 + 5)), none, none] rfl (by decide) rfl (Nat.le_of_ble_eq_true rfl) ?_
  have f0 : fr [] h h := fr_rf
  have g1 : 0 ≤ sZ ∧ sZ ≤ 160 := inv_at hI sE sK.symm rfl
  have g2 : 0 ≤ fZ ∧ fZ ≤ 160 := inv_at hI fE fK.symm rfl
  have g3 : 0 ≤ uZ ∧ uZ ≤ 160 := inv_at hI uE uK.symm rfl
  have sH : 5 < 14 := by decide
  refine V_aload_n 1 d_Tape_isName_0 rfl rfl ?_
  refine N_callVSI [] [] cv_Tape_41 sH rfl d_Tape_isName_1 rfl (Nat.le_of_ble_eq_true rfl) (by decide) (by decide) (c_Str_length h 5 sH) (fun z4 h5 z4Z z4E p6 => ?_)
  obtain ⟨eh5, p6⟩ := p6
  subst eh5
  rw [z4E] at p6
  obtain rfl : z4 = 5 := (ti_eq z4E (show (5 : Int32).toInt = 5 from rfl)).mpr (p6.trans rfl)
  refine V_istore_n 2 [some (.ref 89), some (.ref (135 + 5)), some (.int 5), none] d_Tape_isName_4 rfl (by decide) rfl rfl ?_
  refine V_aload_n 0 d_Tape_isName_5 rfl rfl ?_
  refine N_getK fa_Tape_25 sk_89 rfl d_Tape_isName_6 qK ?_
  refine V_iconst 1 d_Tape_isName_9 (by decide) ?_
  refine V_icmp_ne 26 qE tc_1 d_Tape_isName_10 (by decide) (fun c7 => ?_) (fun c7 => ?_)
  ·
    refine V_iconst 0 d_Tape_isName_26 (by decide) ?_
    exact V_zret rfl (by decide) d_Tape_isName_27 ⟨0, rfl, ⟨rfl, (if q : qZ = 1 then Or.inr ⟨q, tc_0.trans (x_nmn5 (b := b) (f := fZ) (e := uZ) (by (first | decide +kernel | with_reducible assumption | omega))).symm⟩ else Or.inl ⟨q, rfl⟩)⟩⟩
  ·
    refine V_aload_n 0 d_Tape_isName_13 rfl rfl ?_
    refine N_getK fa_Tape_15 sk_89 rfl d_Tape_isName_14 uK ?_
    refine V_aload_n 0 d_Tape_isName_17 rfl rfl ?_
    refine N_getK fa_Tape_19 sk_89 rfl d_Tape_isName_18 fK ?_
    refine V_isub uE fE (by (first | decide +kernel | with_reducible assumption | omega)) d_Tape_isName_21 (fun z8 z8e z8E => ?_)
    refine V_iload_n 2 d_Tape_isName_22 rfl rfl ?_
    refine V_icmp_eq 28 z8E tc_5 d_Tape_isName_23 (by decide) (fun c9 => ?_) (fun c9 => ?_)
    ·
      refine V_iconst 0 d_Tape_isName_28 (by decide) ?_
      refine V_istore_n 3 [some (.ref 89), some (.ref (135 + 5)), some (.int 5), some (.int 0)] d_Tape_isName_29 rfl (by decide) rfl rfl ?_
      refine V_iload_n 3 d_Tape_isName_30 rfl rfl ?_
      refine V_iload_n 2 d_Tape_isName_31 rfl rfl ?_
      refine V_icmp_ge 62 tc_0 tc_5 d_Tape_isName_32 (by decide) (fun c10 => ?_) (fun c10 => ?_)
      ·
        exact absurd c10 (by decide)
      ·
        refine V_aload_n 0 d_Tape_isName_35 rfl rfl ?_
        refine V_getR fa_Tape_9 sk_89 rfl d_Tape_isName_36 ?_
        refine V_aload_n 0 d_Tape_isName_39 rfl rfl ?_
        refine N_getK fa_Tape_19 sk_89 rfl d_Tape_isName_40 fK ?_
        refine V_iload_n 3 d_Tape_isName_43 rfl rfl ?_
        refine V_iadd fE tc_0 (by (first | decide +kernel | with_reducible assumption | omega)) d_Tape_isName_44 (fun z11 z11e z11E => ?_)
        refine N_bald sk_90 z11E (by (first | decide +kernel | with_reducible assumption | omega)) d_Tape_isName_45 (fun z12 z12Z z12E z12e => ?_)
        have g13 : z12Z = b (fZ + 0) := TP_rd (TP_fr f0 (fun _ => rfl) hy0) (by (first | decide +kernel | with_reducible assumption | omega)) z12E z12e
        refine V_aload_n 1 d_Tape_isName_46 rfl rfl ?_
        refine V_iload_n 3 d_Tape_isName_47 rfl rfl ?_
        refine N_callVSI [.int 0] [.int z12] cv_Tape_47 sH rfl d_Tape_isName_48 rfl (Nat.le_of_ble_eq_true rfl) (by decide) (by decide) (c_Str_charAt h 5 sH 0 0 tc_0 (by decide)) (fun z14 h15 z14Z z14E p16 => ?_)
        obtain ⟨eh15, p16⟩ := p16
        subst eh15
        obtain rfl : z14 = 112 := p16.trans rfl
        refine V_icmp_eq 56 z12E tc_112 d_Tape_isName_51 (by decide) (fun c17 => ?_) (fun c17 => ?_)
        ·
          refine V_iinc (v := 1) 3 [some (.ref 89), some (.ref (135 + 5)), some (.int 5), some (.int 1)] d_Tape_isName_56 rfl (by decide) (by decide) rfl rfl ?_
          refine V_goto 30 d_Tape_isName_59 (by decide) ?_
          refine V_iload_n 3 d_Tape_isName_30 rfl rfl ?_
          refine V_iload_n 2 d_Tape_isName_31 rfl rfl ?_
          refine V_icmp_ge 62 tc_1 tc_5 d_Tape_isName_32 (by decide) (fun c19 => ?_) (fun c19 => ?_)
          ·
            exact absurd c19 (by decide)
          ·
            refine V_aload_n 0 d_Tape_isName_35 rfl rfl ?_
            refine V_getR fa_Tape_9 sk_89 rfl d_Tape_isName_36 ?_
            refine V_aload_n 0 d_Tape_isName_39 rfl rfl ?_
            refine N_getK fa_Tape_19 sk_89 rfl d_Tape_isName_40 fK ?_
            refine V_iload_n 3 d_Tape_isName_43 rfl rfl ?_
            refine V_iadd fE tc_1 (by (first | decide +kernel | with_reducible assumption | omega)) d_Tape_isName_44 (fun z20 z20e z20E => ?_)
            refine N_bald sk_90 z20E (by (first | decide +kernel | with_reducible assumption | omega)) d_Tape_isName_45 (fun z21 z21Z z21E z21e => ?_)
            have g22 : z21Z = b (fZ + 1) := TP_rd (TP_fr f0 (fun _ => rfl) hy0) (by (first | decide +kernel | with_reducible assumption | omega)) z21E z21e
            refine V_aload_n 1 d_Tape_isName_46 rfl rfl ?_
            refine V_iload_n 3 d_Tape_isName_47 rfl rfl ?_
            refine N_callVSI [.int 1] [.int z21] cv_Tape_47 sH rfl d_Tape_isName_48 rfl (Nat.le_of_ble_eq_true rfl) (by decide) (by decide) (c_Str_charAt h 5 sH 1 1 tc_1 (by decide)) (fun z23 h24 z23Z z23E p25 => ?_)
            obtain ⟨eh24, p25⟩ := p25
            subst eh24
            obtain rfl : z23 = 117 := p25.trans rfl
            refine V_icmp_eq 56 z21E tc_117 d_Tape_isName_51 (by decide) (fun c26 => ?_) (fun c26 => ?_)
            ·
              refine V_iinc (v := 2) 3 [some (.ref 89), some (.ref (135 + 5)), some (.int 5), some (.int 2)] d_Tape_isName_56 rfl (by decide) (by decide) rfl rfl ?_
              refine V_goto 30 d_Tape_isName_59 (by decide) ?_
              refine V_iload_n 3 d_Tape_isName_30 rfl rfl ?_
              refine V_iload_n 2 d_Tape_isName_31 rfl rfl ?_
              refine V_icmp_ge 62 tc_2 tc_5 d_Tape_isName_32 (by decide) (fun c28 => ?_) (fun c28 => ?_)
              ·
                exact absurd c28 (by decide)
              ·
                refine V_aload_n 0 d_Tape_isName_35 rfl rfl ?_
                refine V_getR fa_Tape_9 sk_89 rfl d_Tape_isName_36 ?_
                refine V_aload_n 0 d_Tape_isName_39 rfl rfl ?_
                refine N_getK fa_Tape_19 sk_89 rfl d_Tape_isName_40 fK ?_
                refine V_iload_n 3 d_Tape_isName_43 rfl rfl ?_
                refine V_iadd fE tc_2 (by (first | decide +kernel | with_reducible assumption | omega)) d_Tape_isName_44 (fun z29 z29e z29E => ?_)
                refine N_bald sk_90 z29E (by (first | decide +kernel | with_reducible assumption | omega)) d_Tape_isName_45 (fun z30 z30Z z30E z30e => ?_)
                have g31 : z30Z = b (fZ + 2) := TP_rd (TP_fr f0 (fun _ => rfl) hy0) (by (first | decide +kernel | with_reducible assumption | omega)) z30E z30e
                refine V_aload_n 1 d_Tape_isName_46 rfl rfl ?_
                refine V_iload_n 3 d_Tape_isName_47 rfl rfl ?_
                refine N_callVSI [.int 2] [.int z30] cv_Tape_47 sH rfl d_Tape_isName_48 rfl (Nat.le_of_ble_eq_true rfl) (by decide) (by decide) (c_Str_charAt h 5 sH 2 2 tc_2 (by decide)) (fun z32 h33 z32Z z32E p34 => ?_)
                obtain ⟨eh33, p34⟩ := p34
                subst eh33
                obtain rfl : z32 = 114 := p34.trans rfl
                refine V_icmp_eq 56 z30E tc_114 d_Tape_isName_51 (by decide) (fun c35 => ?_) (fun c35 => ?_)
                ·
                  refine V_iinc (v := 3) 3 [some (.ref 89), some (.ref (135 + 5)), some (.int 5), some (.int 3)] d_Tape_isName_56 rfl (by decide) (by decide) rfl rfl ?_
                  refine V_goto 30 d_Tape_isName_59 (by decide) ?_
                  refine V_iload_n 3 d_Tape_isName_30 rfl rfl ?_
                  refine V_iload_n 2 d_Tape_isName_31 rfl rfl ?_
                  refine V_icmp_ge 62 tc_3 tc_5 d_Tape_isName_32 (by decide) (fun c37 => ?_) (fun c37 => ?_)
                  ·
                    exact absurd c37 (by decide)
                  ·
                    refine V_aload_n 0 d_Tape_isName_35 rfl rfl ?_
                    refine V_getR fa_Tape_9 sk_89 rfl d_Tape_isName_36 ?_
                    refine V_aload_n 0 d_Tape_isName_39 rfl rfl ?_
                    refine N_getK fa_Tape_19 sk_89 rfl d_Tape_isName_40 fK ?_
                    refine V_iload_n 3 d_Tape_isName_43 rfl rfl ?_
                    refine V_iadd fE tc_3 (by (first | decide +kernel | with_reducible assumption | omega)) d_Tape_isName_44 (fun z38 z38e z38E => ?_)
                    refine N_bald sk_90 z38E (by (first | decide +kernel | with_reducible assumption | omega)) d_Tape_isName_45 (fun z39 z39Z z39E z39e => ?_)
                    have g40 : z39Z = b (fZ + 3) := TP_rd (TP_fr f0 (fun _ => rfl) hy0) (by (first | decide +kernel | with_reducible assumption | omega)) z39E z39e
                    refine V_aload_n 1 d_Tape_isName_46 rfl rfl ?_
                    refine V_iload_n 3 d_Tape_isName_47 rfl rfl ?_
                    refine N_callVSI [.int 3] [.int z39] cv_Tape_47 sH rfl d_Tape_isName_48 rfl (Nat.le_of_ble_eq_true rfl) (by decide) (by decide) (c_Str_charAt h 5 sH 3 3 tc_3 (by decide)) (fun z41 h42 z41Z z41E p43 => ?_)
                    obtain ⟨eh42, p43⟩ := p43
                    subst eh42
                    obtain rfl : z41 = 115 := p43.trans rfl
                    refine V_icmp_eq 56 z39E tc_115 d_Tape_isName_51 (by decide) (fun c44 => ?_) (fun c44 => ?_)
                    ·
                      refine V_iinc (v := 4) 3 [some (.ref 89), some (.ref (135 + 5)), some (.int 5), some (.int 4)] d_Tape_isName_56 rfl (by decide) (by decide) rfl rfl ?_
                      refine V_goto 30 d_Tape_isName_59 (by decide) ?_
                      refine V_iload_n 3 d_Tape_isName_30 rfl rfl ?_
                      refine V_iload_n 2 d_Tape_isName_31 rfl rfl ?_
                      refine V_icmp_ge 62 tc_4 tc_5 d_Tape_isName_32 (by decide) (fun c46 => ?_) (fun c46 => ?_)
                      ·
                        exact absurd c46 (by decide)
                      ·
                        refine V_aload_n 0 d_Tape_isName_35 rfl rfl ?_
                        refine V_getR fa_Tape_9 sk_89 rfl d_Tape_isName_36 ?_
                        refine V_aload_n 0 d_Tape_isName_39 rfl rfl ?_
                        refine N_getK fa_Tape_19 sk_89 rfl d_Tape_isName_40 fK ?_
                        refine V_iload_n 3 d_Tape_isName_43 rfl rfl ?_
                        refine V_iadd fE tc_4 (by (first | decide +kernel | with_reducible assumption | omega)) d_Tape_isName_44 (fun z47 z47e z47E => ?_)
                        refine N_bald sk_90 z47E (by (first | decide +kernel | with_reducible assumption | omega)) d_Tape_isName_45 (fun z48 z48Z z48E z48e => ?_)
                        have g49 : z48Z = b (fZ + 4) := TP_rd (TP_fr f0 (fun _ => rfl) hy0) (by (first | decide +kernel | with_reducible assumption | omega)) z48E z48e
                        refine V_aload_n 1 d_Tape_isName_46 rfl rfl ?_
                        refine V_iload_n 3 d_Tape_isName_47 rfl rfl ?_
                        refine N_callVSI [.int 4] [.int z48] cv_Tape_47 sH rfl d_Tape_isName_48 rfl (Nat.le_of_ble_eq_true rfl) (by decide) (by decide) (c_Str_charAt h 5 sH 4 4 tc_4 (by decide)) (fun z50 h51 z50Z z50E p52 => ?_)
                        obtain ⟨eh51, p52⟩ := p52
                        subst eh51
                        obtain rfl : z50 = 101 := p52.trans rfl
                        refine V_icmp_eq 56 z48E tc_101 d_Tape_isName_51 (by decide) (fun c53 => ?_) (fun c53 => ?_)
                        ·
                          refine V_iinc (v := 5) 3 [some (.ref 89), some (.ref (135 + 5)), some (.int 5), some (.int 5)] d_Tape_isName_56 rfl (by decide) (by decide) rfl rfl ?_
                          refine V_goto 30 d_Tape_isName_59 (by decide) ?_
                          refine V_iload_n 3 d_Tape_isName_30 rfl rfl ?_
                          refine V_iload_n 2 d_Tape_isName_31 rfl rfl ?_
                          refine V_icmp_ge 62 tc_5 tc_5 d_Tape_isName_32 (by decide) (fun c55 => ?_) (fun c55 => ?_)
                          ·
                            refine V_iconst 1 d_Tape_isName_62 (by decide) ?_
                            exact V_zret rfl (by decide) d_Tape_isName_63 ⟨1, rfl, ⟨rfl, (Or.inr ⟨by (first | decide +kernel | with_reducible assumption | omega), tc_1.trans (x_nmy5 (b := b) (f := fZ) (e := uZ) (by (first | decide +kernel | with_reducible assumption | omega))).symm⟩)⟩⟩
                          ·
                            exact absurd c55 (by decide)
                        ·
                          refine V_iconst 0 d_Tape_isName_54 (by decide) ?_
                          exact V_zret rfl (by decide) d_Tape_isName_55 ⟨0, rfl, ⟨rfl, (Or.inr ⟨by (first | decide +kernel | with_reducible assumption | omega), tc_0.trans (x_nmn5 (b := b) (f := fZ) (e := uZ) (by (first | decide +kernel | with_reducible assumption | omega))).symm⟩)⟩⟩
                    ·
                      refine V_iconst 0 d_Tape_isName_54 (by decide) ?_
                      exact V_zret rfl (by decide) d_Tape_isName_55 ⟨0, rfl, ⟨rfl, (Or.inr ⟨by (first | decide +kernel | with_reducible assumption | omega), tc_0.trans (x_nmn5 (b := b) (f := fZ) (e := uZ) (by (first | decide +kernel | with_reducible assumption | omega))).symm⟩)⟩⟩
                ·
                  refine V_iconst 0 d_Tape_isName_54 (by decide) ?_
                  exact V_zret rfl (by decide) d_Tape_isName_55 ⟨0, rfl, ⟨rfl, (Or.inr ⟨by (first | decide +kernel | with_reducible assumption | omega), tc_0.trans (x_nmn5 (b := b) (f := fZ) (e := uZ) (by (first | decide +kernel | with_reducible assumption | omega))).symm⟩)⟩⟩
            ·
              refine V_iconst 0 d_Tape_isName_54 (by decide) ?_
              exact V_zret rfl (by decide) d_Tape_isName_55 ⟨0, rfl, ⟨rfl, (Or.inr ⟨by (first | decide +kernel | with_reducible assumption | omega), tc_0.trans (x_nmn5 (b := b) (f := fZ) (e := uZ) (by (first | decide +kernel | with_reducible assumption | omega))).symm⟩)⟩⟩
        ·
          refine V_iconst 0 d_Tape_isName_54 (by decide) ?_
          exact V_zret rfl (by decide) d_Tape_isName_55 ⟨0, rfl, ⟨rfl, (Or.inr ⟨by (first | decide +kernel | with_reducible assumption | omega), tc_0.trans (x_nmn5 (b := b) (f := fZ) (e := uZ) (by (first | decide +kernel | with_reducible assumption | omega))).symm⟩)⟩⟩
    ·
      refine V_iconst 0 d_Tape_isName_26 (by decide) ?_
      exact V_zret rfl (by decide) d_Tape_isName_27 ⟨0, rfl, ⟨rfl, (if q : qZ = 1 then Or.inr ⟨q, tc_0.trans (x_nmn5 (b := b) (f := fZ) (e := uZ) (by (first | decide +kernel | with_reducible assumption | omega))).symm⟩ else Or.inl ⟨q, rfl⟩)⟩⟩
abbrev q_Tape_isNameX_6 (h : Hp) (b : Int → Int) (s : Int32) (sZ : Int) (q : Int32) (qZ : Int) (f : Int32) (fZ : Int) (u : Int32) (uZ : Int) : Option Value → Hp → Prop := pInt (fun r h' => h = h' ∧ (qZ ≠ 1 ∧ r.toInt = 0 ∨ qZ = 1 ∧ r.toInt = x_nm6 b fZ uZ))
set_option maxRecDepth 100000 in
theorem c_Tape_isNameX_6 (h : Hp) (b : Int → Int) (hI : Inv h) (s : Int32) (sZ : Int) (sE : s.toInt = sZ) (sK : h.1 89 1 = s) (q : Int32) (qZ : Int) (qE : q.toInt = qZ) (qK : h.1 89 2 = q) (f : Int32) (fZ : Int) (fE : f.toInt = fZ) (fK : h.1 89 3 = f) (u : Int32) (uZ : Int) (uE : u.toInt = uZ) (uK : h.1 89 4 = u) (hy0 : TP h 90 sZ b) (hy1 : 0 ≤ fZ ∧ fZ ≤ uZ ∧ uZ ≤ sZ ∧ sZ ≤ 160) : Ct y_Tape_isName b_Tape_isName 4 (some .boolean) 4 85 [.ref 89, .ref (135 + 6)] h (q_Tape_isNameX_6 h b s sZ q qZ f fZ u uZ) := by
  refine ct_ow R_Tape [some (.ref 89), some (.ref (135 + 6)), none, none] rfl (by decide) rfl (Nat.le_of_ble_eq_true rfl) ?_
  have f0 : fr [] h h := fr_rf
  have g1 : 0 ≤ sZ ∧ sZ ≤ 160 := inv_at hI sE sK.symm rfl
  have g2 : 0 ≤ fZ ∧ fZ ≤ 160 := inv_at hI fE fK.symm rfl
  have g3 : 0 ≤ uZ ∧ uZ ≤ 160 := inv_at hI uE uK.symm rfl
  have sH : 6 < 14 := by decide
  refine V_aload_n 1 d_Tape_isName_0 rfl rfl ?_
  refine N_callVSI [] [] cv_Tape_41 sH rfl d_Tape_isName_1 rfl (Nat.le_of_ble_eq_true rfl) (by decide) (by decide) (c_Str_length h 6 sH) (fun z4 h5 z4Z z4E p6 => ?_)
  obtain ⟨eh5, p6⟩ := p6
  subst eh5
  rw [z4E] at p6
  obtain rfl : z4 = 4 := (ti_eq z4E (show (4 : Int32).toInt = 4 from rfl)).mpr (p6.trans rfl)
  refine V_istore_n 2 [some (.ref 89), some (.ref (135 + 6)), some (.int 4), none] d_Tape_isName_4 rfl (by decide) rfl rfl ?_
  refine V_aload_n 0 d_Tape_isName_5 rfl rfl ?_
  refine N_getK fa_Tape_25 sk_89 rfl d_Tape_isName_6 qK ?_
  refine V_iconst 1 d_Tape_isName_9 (by decide) ?_
  refine V_icmp_ne 26 qE tc_1 d_Tape_isName_10 (by decide) (fun c7 => ?_) (fun c7 => ?_)
  ·
    refine V_iconst 0 d_Tape_isName_26 (by decide) ?_
    exact V_zret rfl (by decide) d_Tape_isName_27 ⟨0, rfl, ⟨rfl, (if q : qZ = 1 then Or.inr ⟨q, tc_0.trans (x_nmn6 (b := b) (f := fZ) (e := uZ) (by (first | decide +kernel | with_reducible assumption | omega))).symm⟩ else Or.inl ⟨q, rfl⟩)⟩⟩
  ·
    refine V_aload_n 0 d_Tape_isName_13 rfl rfl ?_
    refine N_getK fa_Tape_15 sk_89 rfl d_Tape_isName_14 uK ?_
    refine V_aload_n 0 d_Tape_isName_17 rfl rfl ?_
    refine N_getK fa_Tape_19 sk_89 rfl d_Tape_isName_18 fK ?_
    refine V_isub uE fE (by (first | decide +kernel | with_reducible assumption | omega)) d_Tape_isName_21 (fun z8 z8e z8E => ?_)
    refine V_iload_n 2 d_Tape_isName_22 rfl rfl ?_
    refine V_icmp_eq 28 z8E tc_4 d_Tape_isName_23 (by decide) (fun c9 => ?_) (fun c9 => ?_)
    ·
      refine V_iconst 0 d_Tape_isName_28 (by decide) ?_
      refine V_istore_n 3 [some (.ref 89), some (.ref (135 + 6)), some (.int 4), some (.int 0)] d_Tape_isName_29 rfl (by decide) rfl rfl ?_
      refine V_iload_n 3 d_Tape_isName_30 rfl rfl ?_
      refine V_iload_n 2 d_Tape_isName_31 rfl rfl ?_
      refine V_icmp_ge 62 tc_0 tc_4 d_Tape_isName_32 (by decide) (fun c10 => ?_) (fun c10 => ?_)
      ·
        exact absurd c10 (by decide)
      ·
        refine V_aload_n 0 d_Tape_isName_35 rfl rfl ?_
        refine V_getR fa_Tape_9 sk_89 rfl d_Tape_isName_36 ?_
        refine V_aload_n 0 d_Tape_isName_39 rfl rfl ?_
        refine N_getK fa_Tape_19 sk_89 rfl d_Tape_isName_40 fK ?_
        refine V_iload_n 3 d_Tape_isName_43 rfl rfl ?_
        refine V_iadd fE tc_0 (by (first | decide +kernel | with_reducible assumption | omega)) d_Tape_isName_44 (fun z11 z11e z11E => ?_)
        refine N_bald sk_90 z11E (by (first | decide +kernel | with_reducible assumption | omega)) d_Tape_isName_45 (fun z12 z12Z z12E z12e => ?_)
        have g13 : z12Z = b (fZ + 0) := TP_rd (TP_fr f0 (fun _ => rfl) hy0) (by (first | decide +kernel | with_reducible assumption | omega)) z12E z12e
        refine V_aload_n 1 d_Tape_isName_46 rfl rfl ?_
        refine V_iload_n 3 d_Tape_isName_47 rfl rfl ?_
        refine N_callVSI [.int 0] [.int z12] cv_Tape_47 sH rfl d_Tape_isName_48 rfl (Nat.le_of_ble_eq_true rfl) (by decide) (by decide) (c_Str_charAt h 6 sH 0 0 tc_0 (by decide)) (fun z14 h15 z14Z z14E p16 => ?_)
        obtain ⟨eh15, p16⟩ := p16
        subst eh15
        obtain rfl : z14 = 99 := p16.trans rfl
        refine V_icmp_eq 56 z12E tc_99 d_Tape_isName_51 (by decide) (fun c17 => ?_) (fun c17 => ?_)
        ·
          refine V_iinc (v := 1) 3 [some (.ref 89), some (.ref (135 + 6)), some (.int 4), some (.int 1)] d_Tape_isName_56 rfl (by decide) (by decide) rfl rfl ?_
          refine V_goto 30 d_Tape_isName_59 (by decide) ?_
          refine V_iload_n 3 d_Tape_isName_30 rfl rfl ?_
          refine V_iload_n 2 d_Tape_isName_31 rfl rfl ?_
          refine V_icmp_ge 62 tc_1 tc_4 d_Tape_isName_32 (by decide) (fun c19 => ?_) (fun c19 => ?_)
          ·
            exact absurd c19 (by decide)
          ·
            refine V_aload_n 0 d_Tape_isName_35 rfl rfl ?_
            refine V_getR fa_Tape_9 sk_89 rfl d_Tape_isName_36 ?_
            refine V_aload_n 0 d_Tape_isName_39 rfl rfl ?_
            refine N_getK fa_Tape_19 sk_89 rfl d_Tape_isName_40 fK ?_
            refine V_iload_n 3 d_Tape_isName_43 rfl rfl ?_
            refine V_iadd fE tc_1 (by (first | decide +kernel | with_reducible assumption | omega)) d_Tape_isName_44 (fun z20 z20e z20E => ?_)
            refine N_bald sk_90 z20E (by (first | decide +kernel | with_reducible assumption | omega)) d_Tape_isName_45 (fun z21 z21Z z21E z21e => ?_)
            have g22 : z21Z = b (fZ + 1) := TP_rd (TP_fr f0 (fun _ => rfl) hy0) (by (first | decide +kernel | with_reducible assumption | omega)) z21E z21e
            refine V_aload_n 1 d_Tape_isName_46 rfl rfl ?_
            refine V_iload_n 3 d_Tape_isName_47 rfl rfl ?_
            refine N_callVSI [.int 1] [.int z21] cv_Tape_47 sH rfl d_Tape_isName_48 rfl (Nat.le_of_ble_eq_true rfl) (by decide) (by decide) (c_Str_charAt h 6 sH 1 1 tc_1 (by decide)) (fun z23 h24 z23Z z23E p25 => ?_)
            obtain ⟨eh24, p25⟩ := p25
            subst eh24
            obtain rfl : z23 = 111 := p25.trans rfl
            refine V_icmp_eq 56 z21E tc_111 d_Tape_isName_51 (by decide) (fun c26 => ?_) (fun c26 => ?_)
            ·
              refine V_iinc (v := 2) 3 [some (.ref 89), some (.ref (135 + 6)), some (.int 4), some (.int 2)] d_Tape_isName_56 rfl (by decide) (by decide) rfl rfl ?_
              refine V_goto 30 d_Tape_isName_59 (by decide) ?_
              refine V_iload_n 3 d_Tape_isName_30 rfl rfl ?_
              refine V_iload_n 2 d_Tape_isName_31 rfl rfl ?_
              refine V_icmp_ge 62 tc_2 tc_4 d_Tape_isName_32 (by decide) (fun c28 => ?_) (fun c28 => ?_)
              ·
                exact absurd c28 (by decide)
              ·
                refine V_aload_n 0 d_Tape_isName_35 rfl rfl ?_
                refine V_getR fa_Tape_9 sk_89 rfl d_Tape_isName_36 ?_
                refine V_aload_n 0 d_Tape_isName_39 rfl rfl ?_
                refine N_getK fa_Tape_19 sk_89 rfl d_Tape_isName_40 fK ?_
                refine V_iload_n 3 d_Tape_isName_43 rfl rfl ?_
                refine V_iadd fE tc_2 (by (first | decide +kernel | with_reducible assumption | omega)) d_Tape_isName_44 (fun z29 z29e z29E => ?_)
                refine N_bald sk_90 z29E (by (first | decide +kernel | with_reducible assumption | omega)) d_Tape_isName_45 (fun z30 z30Z z30E z30e => ?_)
                have g31 : z30Z = b (fZ + 2) := TP_rd (TP_fr f0 (fun _ => rfl) hy0) (by (first | decide +kernel | with_reducible assumption | omega)) z30E z30e
                refine V_aload_n 1 d_Tape_isName_46 rfl rfl ?_
                refine V_iload_n 3 d_Tape_isName_47 rfl rfl ?_
                refine N_callVSI [.int 2] [.int z30] cv_Tape_47 sH rfl d_Tape_isName_48 rfl (Nat.le_of_ble_eq_true rfl) (by decide) (by decide) (c_Str_charAt h 6 sH 2 2 tc_2 (by decide)) (fun z32 h33 z32Z z32E p34 => ?_)
                obtain ⟨eh33, p34⟩ := p34
                subst eh33
                obtain rfl : z32 = 115 := p34.trans rfl
                refine V_icmp_eq 56 z30E tc_115 d_Tape_isName_51 (by decide) (fun c35 => ?_) (fun c35 => ?_)
                ·
                  refine V_iinc (v := 3) 3 [some (.ref 89), some (.ref (135 + 6)), some (.int 4), some (.int 3)] d_Tape_isName_56 rfl (by decide) (by decide) rfl rfl ?_
                  refine V_goto 30 d_Tape_isName_59 (by decide) ?_
                  refine V_iload_n 3 d_Tape_isName_30 rfl rfl ?_
                  refine V_iload_n 2 d_Tape_isName_31 rfl rfl ?_
                  refine V_icmp_ge 62 tc_3 tc_4 d_Tape_isName_32 (by decide) (fun c37 => ?_) (fun c37 => ?_)
                  ·
                    exact absurd c37 (by decide)
                  ·
                    refine V_aload_n 0 d_Tape_isName_35 rfl rfl ?_
                    refine V_getR fa_Tape_9 sk_89 rfl d_Tape_isName_36 ?_
                    refine V_aload_n 0 d_Tape_isName_39 rfl rfl ?_
                    refine N_getK fa_Tape_19 sk_89 rfl d_Tape_isName_40 fK ?_
                    refine V_iload_n 3 d_Tape_isName_43 rfl rfl ?_
                    refine V_iadd fE tc_3 (by (first | decide +kernel | with_reducible assumption | omega)) d_Tape_isName_44 (fun z38 z38e z38E => ?_)
                    refine N_bald sk_90 z38E (by (first | decide +kernel | with_reducible assumption | omega)) d_Tape_isName_45 (fun z39 z39Z z39E z39e => ?_)
                    have g40 : z39Z = b (fZ + 3) := TP_rd (TP_fr f0 (fun _ => rfl) hy0) (by (first | decide +kernel | with_reducible assumption | omega)) z39E z39e
                    refine V_aload_n 1 d_Tape_isName_46 rfl rfl ?_
                    refine V_iload_n 3 d_Tape_isName_47 rfl rfl ?_
                    refine N_callVSI [.int 3] [.int z39] cv_Tape_47 sH rfl d_Tape_isName_48 rfl (Nat.le_of_ble_eq_true rfl) (by decide) (by decide) (c_Str_charAt h 6 sH 3 3 tc_3 (by decide)) (fun z41 h42 z41Z z41E p43 => ?_)
                    obtain ⟨eh42, p43⟩ := p43
                    subst eh42
                    obtain rfl : z41 = 116 := p43.trans rfl
                    refine V_icmp_eq 56 z39E tc_116 d_Tape_isName_51 (by decide) (fun c44 => ?_) (fun c44 => ?_)
                    ·
                      refine V_iinc (v := 4) 3 [some (.ref 89), some (.ref (135 + 6)), some (.int 4), some (.int 4)] d_Tape_isName_56 rfl (by decide) (by decide) rfl rfl ?_
                      refine V_goto 30 d_Tape_isName_59 (by decide) ?_
                      refine V_iload_n 3 d_Tape_isName_30 rfl rfl ?_
                      refine V_iload_n 2 d_Tape_isName_31 rfl rfl ?_
                      refine V_icmp_ge 62 tc_4 tc_4 d_Tape_isName_32 (by decide) (fun c46 => ?_) (fun c46 => ?_)
                      ·
                        refine V_iconst 1 d_Tape_isName_62 (by decide) ?_
                        exact V_zret rfl (by decide) d_Tape_isName_63 ⟨1, rfl, ⟨rfl, (Or.inr ⟨by (first | decide +kernel | with_reducible assumption | omega), tc_1.trans (x_nmy6 (b := b) (f := fZ) (e := uZ) (by (first | decide +kernel | with_reducible assumption | omega))).symm⟩)⟩⟩
                      ·
                        exact absurd c46 (by decide)
                    ·
                      refine V_iconst 0 d_Tape_isName_54 (by decide) ?_
                      exact V_zret rfl (by decide) d_Tape_isName_55 ⟨0, rfl, ⟨rfl, (Or.inr ⟨by (first | decide +kernel | with_reducible assumption | omega), tc_0.trans (x_nmn6 (b := b) (f := fZ) (e := uZ) (by (first | decide +kernel | with_reducible assumption | omega))).symm⟩)⟩⟩
                ·
                  refine V_iconst 0 d_Tape_isName_54 (by decide) ?_
                  exact V_zret rfl (by decide) d_Tape_isName_55 ⟨0, rfl, ⟨rfl, (Or.inr ⟨by (first | decide +kernel | with_reducible assumption | omega), tc_0.trans (x_nmn6 (b := b) (f := fZ) (e := uZ) (by (first | decide +kernel | with_reducible assumption | omega))).symm⟩)⟩⟩
            ·
              refine V_iconst 0 d_Tape_isName_54 (by decide) ?_
              exact V_zret rfl (by decide) d_Tape_isName_55 ⟨0, rfl, ⟨rfl, (Or.inr ⟨by (first | decide +kernel | with_reducible assumption | omega), tc_0.trans (x_nmn6 (b := b) (f := fZ) (e := uZ) (by (first | decide +kernel | with_reducible assumption | omega))).symm⟩)⟩⟩
        ·
          refine V_iconst 0 d_Tape_isName_54 (by decide) ?_
          exact V_zret rfl (by decide) d_Tape_isName_55 ⟨0, rfl, ⟨rfl, (Or.inr ⟨by (first | decide +kernel | with_reducible assumption | omega), tc_0.trans (x_nmn6 (b := b) (f := fZ) (e := uZ) (by (first | decide +kernel | with_reducible assumption | omega))).symm⟩)⟩⟩
    ·
      refine V_iconst 0 d_Tape_isName_26 (by decide) ?_
      exact V_zret rfl (by decide) d_Tape_isName_27 ⟨0, rfl, ⟨rfl, (if q : qZ = 1 then Or.inr ⟨q, tc_0.trans (x_nmn6 (b := b) (f := fZ) (e := uZ) (by (first | decide +kernel | with_reducible assumption | omega))).symm⟩ else Or.inl ⟨q, rfl⟩)⟩⟩
abbrev q_Tape_isNameX_7 (h : Hp) (b : Int → Int) (s : Int32) (sZ : Int) (q : Int32) (qZ : Int) (f : Int32) (fZ : Int) (u : Int32) (uZ : Int) : Option Value → Hp → Prop := pInt (fun r h' => h = h' ∧ (qZ ≠ 1 ∧ r.toInt = 0 ∨ qZ = 1 ∧ r.toInt = x_nm7 b fZ uZ))
set_option maxRecDepth 100000 in
theorem c_Tape_isNameX_7 (h : Hp) (b : Int → Int) (hI : Inv h) (s : Int32) (sZ : Int) (sE : s.toInt = sZ) (sK : h.1 89 1 = s) (q : Int32) (qZ : Int) (qE : q.toInt = qZ) (qK : h.1 89 2 = q) (f : Int32) (fZ : Int) (fE : f.toInt = fZ) (fK : h.1 89 3 = f) (u : Int32) (uZ : Int) (uE : u.toInt = uZ) (uK : h.1 89 4 = u) (hy0 : TP h 90 sZ b) (hy1 : 0 ≤ fZ ∧ fZ ≤ uZ ∧ uZ ≤ sZ ∧ sZ ≤ 160) : Ct y_Tape_isName b_Tape_isName 4 (some .boolean) 4 85 [.ref 89, .ref (135 + 7)] h (q_Tape_isNameX_7 h b s sZ q qZ f fZ u uZ) := by
  refine ct_ow R_Tape [some (.ref 89), some (.ref (135 + 7)), none, none] rfl (by decide) rfl (Nat.le_of_ble_eq_true rfl) ?_
  have f0 : fr [] h h := fr_rf
  have g1 : 0 ≤ sZ ∧ sZ ≤ 160 := inv_at hI sE sK.symm rfl
  have g2 : 0 ≤ fZ ∧ fZ ≤ 160 := inv_at hI fE fK.symm rfl
  have g3 : 0 ≤ uZ ∧ uZ ≤ 160 := inv_at hI uE uK.symm rfl
  have sH : 7 < 14 := by decide
  refine V_aload_n 1 d_Tape_isName_0 rfl rfl ?_
  refine N_callVSI [] [] cv_Tape_41 sH rfl d_Tape_isName_1 rfl (Nat.le_of_ble_eq_true rfl) (by decide) (by decide) (c_Str_length h 7 sH) (fun z4 h5 z4Z z4E p6 => ?_)
  obtain ⟨eh5, p6⟩ := p6
  subst eh5
  rw [z4E] at p6
  obtain rfl : z4 = 5 := (ti_eq z4E (show (5 : Int32).toInt = 5 from rfl)).mpr (p6.trans rfl)
  refine V_istore_n 2 [some (.ref 89), some (.ref (135 + 7)), some (.int 5), none] d_Tape_isName_4 rfl (by decide) rfl rfl ?_
  refine V_aload_n 0 d_Tape_isName_5 rfl rfl ?_
  refine N_getK fa_Tape_25 sk_89 rfl d_Tape_isName_6 qK ?_
  refine V_iconst 1 d_Tape_isName_9 (by decide) ?_
  refine V_icmp_ne 26 qE tc_1 d_Tape_isName_10 (by decide) (fun c7 => ?_) (fun c7 => ?_)
  ·
    refine V_iconst 0 d_Tape_isName_26 (by decide) ?_
    exact V_zret rfl (by decide) d_Tape_isName_27 ⟨0, rfl, ⟨rfl, (if q : qZ = 1 then Or.inr ⟨q, tc_0.trans (x_nmn7 (b := b) (f := fZ) (e := uZ) (by (first | decide +kernel | with_reducible assumption | omega))).symm⟩ else Or.inl ⟨q, rfl⟩)⟩⟩
  ·
    refine V_aload_n 0 d_Tape_isName_13 rfl rfl ?_
    refine N_getK fa_Tape_15 sk_89 rfl d_Tape_isName_14 uK ?_
    refine V_aload_n 0 d_Tape_isName_17 rfl rfl ?_
    refine N_getK fa_Tape_19 sk_89 rfl d_Tape_isName_18 fK ?_
    refine V_isub uE fE (by (first | decide +kernel | with_reducible assumption | omega)) d_Tape_isName_21 (fun z8 z8e z8E => ?_)
    refine V_iload_n 2 d_Tape_isName_22 rfl rfl ?_
    refine V_icmp_eq 28 z8E tc_5 d_Tape_isName_23 (by decide) (fun c9 => ?_) (fun c9 => ?_)
    ·
      refine V_iconst 0 d_Tape_isName_28 (by decide) ?_
      refine V_istore_n 3 [some (.ref 89), some (.ref (135 + 7)), some (.int 5), some (.int 0)] d_Tape_isName_29 rfl (by decide) rfl rfl ?_
      refine V_iload_n 3 d_Tape_isName_30 rfl rfl ?_
      refine V_iload_n 2 d_Tape_isName_31 rfl rfl ?_
      refine V_icmp_ge 62 tc_0 tc_5 d_Tape_isName_32 (by decide) (fun c10 => ?_) (fun c10 => ?_)
      ·
        exact absurd c10 (by decide)
      ·
        refine V_aload_n 0 d_Tape_isName_35 rfl rfl ?_
        refine V_getR fa_Tape_9 sk_89 rfl d_Tape_isName_36 ?_
        refine V_aload_n 0 d_Tape_isName_39 rfl rfl ?_
        refine N_getK fa_Tape_19 sk_89 rfl d_Tape_isName_40 fK ?_
        refine V_iload_n 3 d_Tape_isName_43 rfl rfl ?_
        refine V_iadd fE tc_0 (by (first | decide +kernel | with_reducible assumption | omega)) d_Tape_isName_44 (fun z11 z11e z11E => ?_)
        refine N_bald sk_90 z11E (by (first | decide +kernel | with_reducible assumption | omega)) d_Tape_isName_45 (fun z12 z12Z z12E z12e => ?_)
        have g13 : z12Z = b (fZ + 0) := TP_rd (TP_fr f0 (fun _ => rfl) hy0) (by (first | decide +kernel | with_reducible assumption | omega)) z12E z12e
        refine V_aload_n 1 d_Tape_isName_46 rfl rfl ?_
        refine V_iload_n 3 d_Tape_isName_47 rfl rfl ?_
        refine N_callVSI [.int 0] [.int z12] cv_Tape_47 sH rfl d_Tape_isName_48 rfl (Nat.le_of_ble_eq_true rfl) (by decide) (by decide) (c_Str_charAt h 7 sH 0 0 tc_0 (by decide)) (fun z14 h15 z14Z z14E p16 => ?_)
        obtain ⟨eh15, p16⟩ := p16
        subst eh15
        obtain rfl : z14 = 112 := p16.trans rfl
        refine V_icmp_eq 56 z12E tc_112 d_Tape_isName_51 (by decide) (fun c17 => ?_) (fun c17 => ?_)
        ·
          refine V_iinc (v := 1) 3 [some (.ref 89), some (.ref (135 + 7)), some (.int 5), some (.int 1)] d_Tape_isName_56 rfl (by decide) (by decide) rfl rfl ?_
          refine V_goto 30 d_Tape_isName_59 (by decide) ?_
          refine V_iload_n 3 d_Tape_isName_30 rfl rfl ?_
          refine V_iload_n 2 d_Tape_isName_31 rfl rfl ?_
          refine V_icmp_ge 62 tc_1 tc_5 d_Tape_isName_32 (by decide) (fun c19 => ?_) (fun c19 => ?_)
          ·
            exact absurd c19 (by decide)
          ·
            refine V_aload_n 0 d_Tape_isName_35 rfl rfl ?_
            refine V_getR fa_Tape_9 sk_89 rfl d_Tape_isName_36 ?_
            refine V_aload_n 0 d_Tape_isName_39 rfl rfl ?_
            refine N_getK fa_Tape_19 sk_89 rfl d_Tape_isName_40 fK ?_
            refine V_iload_n 3 d_Tape_isName_43 rfl rfl ?_
            refine V_iadd fE tc_1 (by (first | decide +kernel | with_reducible assumption | omega)) d_Tape_isName_44 (fun z20 z20e z20E => ?_)
            refine N_bald sk_90 z20E (by (first | decide +kernel | with_reducible assumption | omega)) d_Tape_isName_45 (fun z21 z21Z z21E z21e => ?_)
            have g22 : z21Z = b (fZ + 1) := TP_rd (TP_fr f0 (fun _ => rfl) hy0) (by (first | decide +kernel | with_reducible assumption | omega)) z21E z21e
            refine V_aload_n 1 d_Tape_isName_46 rfl rfl ?_
            refine V_iload_n 3 d_Tape_isName_47 rfl rfl ?_
            refine N_callVSI [.int 1] [.int z21] cv_Tape_47 sH rfl d_Tape_isName_48 rfl (Nat.le_of_ble_eq_true rfl) (by decide) (by decide) (c_Str_charAt h 7 sH 1 1 tc_1 (by decide)) (fun z23 h24 z23Z z23E p25 => ?_)
            obtain ⟨eh24, p25⟩ := p25
            subst eh24
            obtain rfl : z23 = 114 := p25.trans rfl
            refine V_icmp_eq 56 z21E tc_114 d_Tape_isName_51 (by decide) (fun c26 => ?_) (fun c26 => ?_)
            ·
              refine V_iinc (v := 2) 3 [some (.ref 89), some (.ref (135 + 7)), some (.int 5), some (.int 2)] d_Tape_isName_56 rfl (by decide) (by decide) rfl rfl ?_
              refine V_goto 30 d_Tape_isName_59 (by decide) ?_
              refine V_iload_n 3 d_Tape_isName_30 rfl rfl ?_
              refine V_iload_n 2 d_Tape_isName_31 rfl rfl ?_
              refine V_icmp_ge 62 tc_2 tc_5 d_Tape_isName_32 (by decide) (fun c28 => ?_) (fun c28 => ?_)
              ·
                exact absurd c28 (by decide)
              ·
                refine V_aload_n 0 d_Tape_isName_35 rfl rfl ?_
                refine V_getR fa_Tape_9 sk_89 rfl d_Tape_isName_36 ?_
                refine V_aload_n 0 d_Tape_isName_39 rfl rfl ?_
                refine N_getK fa_Tape_19 sk_89 rfl d_Tape_isName_40 fK ?_
                refine V_iload_n 3 d_Tape_isName_43 rfl rfl ?_
                refine V_iadd fE tc_2 (by (first | decide +kernel | with_reducible assumption | omega)) d_Tape_isName_44 (fun z29 z29e z29E => ?_)
                refine N_bald sk_90 z29E (by (first | decide +kernel | with_reducible assumption | omega)) d_Tape_isName_45 (fun z30 z30Z z30E z30e => ?_)
                have g31 : z30Z = b (fZ + 2) := TP_rd (TP_fr f0 (fun _ => rfl) hy0) (by (first | decide +kernel | with_reducible assumption | omega)) z30E z30e
                refine V_aload_n 1 d_Tape_isName_46 rfl rfl ?_
                refine V_iload_n 3 d_Tape_isName_47 rfl rfl ?_
                refine N_callVSI [.int 2] [.int z30] cv_Tape_47 sH rfl d_Tape_isName_48 rfl (Nat.le_of_ble_eq_true rfl) (by decide) (by decide) (c_Str_charAt h 7 sH 2 2 tc_2 (by decide)) (fun z32 h33 z32Z z32E p34 => ?_)
                obtain ⟨eh33, p34⟩ := p34
                subst eh33
                obtain rfl : z32 = 105 := p34.trans rfl
                refine V_icmp_eq 56 z30E tc_105 d_Tape_isName_51 (by decide) (fun c35 => ?_) (fun c35 => ?_)
                ·
                  refine V_iinc (v := 3) 3 [some (.ref 89), some (.ref (135 + 7)), some (.int 5), some (.int 3)] d_Tape_isName_56 rfl (by decide) (by decide) rfl rfl ?_
                  refine V_goto 30 d_Tape_isName_59 (by decide) ?_
                  refine V_iload_n 3 d_Tape_isName_30 rfl rfl ?_
                  refine V_iload_n 2 d_Tape_isName_31 rfl rfl ?_
                  refine V_icmp_ge 62 tc_3 tc_5 d_Tape_isName_32 (by decide) (fun c37 => ?_) (fun c37 => ?_)
                  ·
                    exact absurd c37 (by decide)
                  ·
                    refine V_aload_n 0 d_Tape_isName_35 rfl rfl ?_
                    refine V_getR fa_Tape_9 sk_89 rfl d_Tape_isName_36 ?_
                    refine V_aload_n 0 d_Tape_isName_39 rfl rfl ?_
                    refine N_getK fa_Tape_19 sk_89 rfl d_Tape_isName_40 fK ?_
                    refine V_iload_n 3 d_Tape_isName_43 rfl rfl ?_
                    refine V_iadd fE tc_3 (by (first | decide +kernel | with_reducible assumption | omega)) d_Tape_isName_44 (fun z38 z38e z38E => ?_)
                    refine N_bald sk_90 z38E (by (first | decide +kernel | with_reducible assumption | omega)) d_Tape_isName_45 (fun z39 z39Z z39E z39e => ?_)
                    have g40 : z39Z = b (fZ + 3) := TP_rd (TP_fr f0 (fun _ => rfl) hy0) (by (first | decide +kernel | with_reducible assumption | omega)) z39E z39e
                    refine V_aload_n 1 d_Tape_isName_46 rfl rfl ?_
                    refine V_iload_n 3 d_Tape_isName_47 rfl rfl ?_
                    refine N_callVSI [.int 3] [.int z39] cv_Tape_47 sH rfl d_Tape_isName_48 rfl (Nat.le_of_ble_eq_true rfl) (by decide) (by decide) (c_Str_charAt h 7 sH 3 3 tc_3 (by decide)) (fun z41 h42 z41Z z41E p43 => ?_)
                    obtain ⟨eh42, p43⟩ := p43
                    subst eh42
                    obtain rfl : z41 = 99 := p43.trans rfl
                    refine V_icmp_eq 56 z39E tc_99 d_Tape_isName_51 (by decide) (fun c44 => ?_) (fun c44 => ?_)
                    ·
                      refine V_iinc (v := 4) 3 [some (.ref 89), some (.ref (135 + 7)), some (.int 5), some (.int 4)] d_Tape_isName_56 rfl (by decide) (by decide) rfl rfl ?_
                      refine V_goto 30 d_Tape_isName_59 (by decide) ?_
                      refine V_iload_n 3 d_Tape_isName_30 rfl rfl ?_
                      refine V_iload_n 2 d_Tape_isName_31 rfl rfl ?_
                      refine V_icmp_ge 62 tc_4 tc_5 d_Tape_isName_32 (by decide) (fun c46 => ?_) (fun c46 => ?_)
                      ·
                        exact absurd c46 (by decide)
                      ·
                        refine V_aload_n 0 d_Tape_isName_35 rfl rfl ?_
                        refine V_getR fa_Tape_9 sk_89 rfl d_Tape_isName_36 ?_
                        refine V_aload_n 0 d_Tape_isName_39 rfl rfl ?_
                        refine N_getK fa_Tape_19 sk_89 rfl d_Tape_isName_40 fK ?_
                        refine V_iload_n 3 d_Tape_isName_43 rfl rfl ?_
                        refine V_iadd fE tc_4 (by (first | decide +kernel | with_reducible assumption | omega)) d_Tape_isName_44 (fun z47 z47e z47E => ?_)
                        refine N_bald sk_90 z47E (by (first | decide +kernel | with_reducible assumption | omega)) d_Tape_isName_45 (fun z48 z48Z z48E z48e => ?_)
                        have g49 : z48Z = b (fZ + 4) := TP_rd (TP_fr f0 (fun _ => rfl) hy0) (by (first | decide +kernel | with_reducible assumption | omega)) z48E z48e
                        refine V_aload_n 1 d_Tape_isName_46 rfl rfl ?_
                        refine V_iload_n 3 d_Tape_isName_47 rfl rfl ?_
                        refine N_callVSI [.int 4] [.int z48] cv_Tape_47 sH rfl d_Tape_isName_48 rfl (Nat.le_of_ble_eq_true rfl) (by decide) (by decide) (c_Str_charAt h 7 sH 4 4 tc_4 (by decide)) (fun z50 h51 z50Z z50E p52 => ?_)
                        obtain ⟨eh51, p52⟩ := p52
                        subst eh51
                        obtain rfl : z50 = 101 := p52.trans rfl
                        refine V_icmp_eq 56 z48E tc_101 d_Tape_isName_51 (by decide) (fun c53 => ?_) (fun c53 => ?_)
                        ·
                          refine V_iinc (v := 5) 3 [some (.ref 89), some (.ref (135 + 7)), some (.int 5), some (.int 5)] d_Tape_isName_56 rfl (by decide) (by decide) rfl rfl ?_
                          refine V_goto 30 d_Tape_isName_59 (by decide) ?_
                          refine V_iload_n 3 d_Tape_isName_30 rfl rfl ?_
                          refine V_iload_n 2 d_Tape_isName_31 rfl rfl ?_
                          refine V_icmp_ge 62 tc_5 tc_5 d_Tape_isName_32 (by decide) (fun c55 => ?_) (fun c55 => ?_)
                          ·
                            refine V_iconst 1 d_Tape_isName_62 (by decide) ?_
                            exact V_zret rfl (by decide) d_Tape_isName_63 ⟨1, rfl, ⟨rfl, (Or.inr ⟨by (first | decide +kernel | with_reducible assumption | omega), tc_1.trans (x_nmy7 (b := b) (f := fZ) (e := uZ) (by (first | decide +kernel | with_reducible assumption | omega))).symm⟩)⟩⟩
                          ·
                            exact absurd c55 (by decide)
                        ·
                          refine V_iconst 0 d_Tape_isName_54 (by decide) ?_
                          exact V_zret rfl (by decide) d_Tape_isName_55 ⟨0, rfl, ⟨rfl, (Or.inr ⟨by (first | decide +kernel | with_reducible assumption | omega), tc_0.trans (x_nmn7 (b := b) (f := fZ) (e := uZ) (by (first | decide +kernel | with_reducible assumption | omega))).symm⟩)⟩⟩
                    ·
                      refine V_iconst 0 d_Tape_isName_54 (by decide) ?_
                      exact V_zret rfl (by decide) d_Tape_isName_55 ⟨0, rfl, ⟨rfl, (Or.inr ⟨by (first | decide +kernel | with_reducible assumption | omega), tc_0.trans (x_nmn7 (b := b) (f := fZ) (e := uZ) (by (first | decide +kernel | with_reducible assumption | omega))).symm⟩)⟩⟩
                ·
                  refine V_iconst 0 d_Tape_isName_54 (by decide) ?_
                  exact V_zret rfl (by decide) d_Tape_isName_55 ⟨0, rfl, ⟨rfl, (Or.inr ⟨by (first | decide +kernel | with_reducible assumption | omega), tc_0.trans (x_nmn7 (b := b) (f := fZ) (e := uZ) (by (first | decide +kernel | with_reducible assumption | omega))).symm⟩)⟩⟩
            ·
              refine V_iconst 0 d_Tape_isName_54 (by decide) ?_
              exact V_zret rfl (by decide) d_Tape_isName_55 ⟨0, rfl, ⟨rfl, (Or.inr ⟨by (first | decide +kernel | with_reducible assumption | omega), tc_0.trans (x_nmn7 (b := b) (f := fZ) (e := uZ) (by (first | decide +kernel | with_reducible assumption | omega))).symm⟩)⟩⟩
        ·
          refine V_iconst 0 d_Tape_isName_54 (by decide) ?_
          exact V_zret rfl (by decide) d_Tape_isName_55 ⟨0, rfl, ⟨rfl, (Or.inr ⟨by (first | decide +kernel | with_reducible assumption | omega), tc_0.trans (x_nmn7 (b := b) (f := fZ) (e := uZ) (by (first | decide +kernel | with_reducible assumption | omega))).symm⟩)⟩⟩
    ·
      refine V_iconst 0 d_Tape_isName_26 (by decide) ?_
      exact V_zret rfl (by decide) d_Tape_isName_27 ⟨0, rfl, ⟨rfl, (if q : qZ = 1 then Or.inr ⟨q, tc_0.trans (x_nmn7 (b := b) (f := fZ) (e := uZ) (by (first | decide +kernel | with_reducible assumption | omega))).symm⟩ else Or.inl ⟨q, rfl⟩)⟩⟩
abbrev q_Tape_isNameX_8 (h : Hp) (b : Int → Int) (s : Int32) (sZ : Int) (q : Int32) (qZ : Int) (f : Int32) (fZ : Int) (u : Int32) (uZ : Int) : Option Value → Hp → Prop := pInt (fun r h' => h = h' ∧ (qZ ≠ 1 ∧ r.toInt = 0 ∨ qZ = 1 ∧ r.toInt = x_nm8 b fZ uZ))
set_option maxRecDepth 100000 in
theorem c_Tape_isNameX_8 (h : Hp) (b : Int → Int) (hI : Inv h) (s : Int32) (sZ : Int) (sE : s.toInt = sZ) (sK : h.1 89 1 = s) (q : Int32) (qZ : Int) (qE : q.toInt = qZ) (qK : h.1 89 2 = q) (f : Int32) (fZ : Int) (fE : f.toInt = fZ) (fK : h.1 89 3 = f) (u : Int32) (uZ : Int) (uE : u.toInt = uZ) (uK : h.1 89 4 = u) (hy0 : TP h 90 sZ b) (hy1 : 0 ≤ fZ ∧ fZ ≤ uZ ∧ uZ ≤ sZ ∧ sZ ≤ 160) : Ct y_Tape_isName b_Tape_isName 4 (some .boolean) 4 85 [.ref 89, .ref (135 + 8)] h (q_Tape_isNameX_8 h b s sZ q qZ f fZ u uZ) := by
  refine ct_ow R_Tape [some (.ref 89), some (.ref (135 + 8)), none, none] rfl (by decide) rfl (Nat.le_of_ble_eq_true rfl) ?_
  have f0 : fr [] h h := fr_rf
  have g1 : 0 ≤ sZ ∧ sZ ≤ 160 := inv_at hI sE sK.symm rfl
  have g2 : 0 ≤ fZ ∧ fZ ≤ 160 := inv_at hI fE fK.symm rfl
  have g3 : 0 ≤ uZ ∧ uZ ≤ 160 := inv_at hI uE uK.symm rfl
  have sH : 8 < 14 := by decide
  refine V_aload_n 1 d_Tape_isName_0 rfl rfl ?_
  refine N_callVSI [] [] cv_Tape_41 sH rfl d_Tape_isName_1 rfl (Nat.le_of_ble_eq_true rfl) (by decide) (by decide) (c_Str_length h 8 sH) (fun z4 h5 z4Z z4E p6 => ?_)
  obtain ⟨eh5, p6⟩ := p6
  subst eh5
  rw [z4E] at p6
  obtain rfl : z4 = 3 := (ti_eq z4E (show (3 : Int32).toInt = 3 from rfl)).mpr (p6.trans rfl)
  refine V_istore_n 2 [some (.ref 89), some (.ref (135 + 8)), some (.int 3), none] d_Tape_isName_4 rfl (by decide) rfl rfl ?_
  refine V_aload_n 0 d_Tape_isName_5 rfl rfl ?_
  refine N_getK fa_Tape_25 sk_89 rfl d_Tape_isName_6 qK ?_
  refine V_iconst 1 d_Tape_isName_9 (by decide) ?_
  refine V_icmp_ne 26 qE tc_1 d_Tape_isName_10 (by decide) (fun c7 => ?_) (fun c7 => ?_)
  ·
    refine V_iconst 0 d_Tape_isName_26 (by decide) ?_
    exact V_zret rfl (by decide) d_Tape_isName_27 ⟨0, rfl, ⟨rfl, (if q : qZ = 1 then Or.inr ⟨q, tc_0.trans (x_nmn8 (b := b) (f := fZ) (e := uZ) (by (first | decide +kernel | with_reducible assumption | omega))).symm⟩ else Or.inl ⟨q, rfl⟩)⟩⟩
  ·
    refine V_aload_n 0 d_Tape_isName_13 rfl rfl ?_
    refine N_getK fa_Tape_15 sk_89 rfl d_Tape_isName_14 uK ?_
    refine V_aload_n 0 d_Tape_isName_17 rfl rfl ?_
    refine N_getK fa_Tape_19 sk_89 rfl d_Tape_isName_18 fK ?_
    refine V_isub uE fE (by (first | decide +kernel | with_reducible assumption | omega)) d_Tape_isName_21 (fun z8 z8e z8E => ?_)
    refine V_iload_n 2 d_Tape_isName_22 rfl rfl ?_
    refine V_icmp_eq 28 z8E tc_3 d_Tape_isName_23 (by decide) (fun c9 => ?_) (fun c9 => ?_)
    ·
      refine V_iconst 0 d_Tape_isName_28 (by decide) ?_
      refine V_istore_n 3 [some (.ref 89), some (.ref (135 + 8)), some (.int 3), some (.int 0)] d_Tape_isName_29 rfl (by decide) rfl rfl ?_
      refine V_iload_n 3 d_Tape_isName_30 rfl rfl ?_
      refine V_iload_n 2 d_Tape_isName_31 rfl rfl ?_
      refine V_icmp_ge 62 tc_0 tc_3 d_Tape_isName_32 (by decide) (fun c10 => ?_) (fun c10 => ?_)
      ·
        exact absurd c10 (by decide)
      ·
        refine V_aload_n 0 d_Tape_isName_35 rfl rfl ?_
        refine V_getR fa_Tape_9 sk_89 rfl d_Tape_isName_36 ?_
        refine V_aload_n 0 d_Tape_isName_39 rfl rfl ?_
        refine N_getK fa_Tape_19 sk_89 rfl d_Tape_isName_40 fK ?_
        refine V_iload_n 3 d_Tape_isName_43 rfl rfl ?_
        refine V_iadd fE tc_0 (by (first | decide +kernel | with_reducible assumption | omega)) d_Tape_isName_44 (fun z11 z11e z11E => ?_)
        refine N_bald sk_90 z11E (by (first | decide +kernel | with_reducible assumption | omega)) d_Tape_isName_45 (fun z12 z12Z z12E z12e => ?_)
        have g13 : z12Z = b (fZ + 0) := TP_rd (TP_fr f0 (fun _ => rfl) hy0) (by (first | decide +kernel | with_reducible assumption | omega)) z12E z12e
        refine V_aload_n 1 d_Tape_isName_46 rfl rfl ?_
        refine V_iload_n 3 d_Tape_isName_47 rfl rfl ?_
        refine N_callVSI [.int 0] [.int z12] cv_Tape_47 sH rfl d_Tape_isName_48 rfl (Nat.le_of_ble_eq_true rfl) (by decide) (by decide) (c_Str_charAt h 8 sH 0 0 tc_0 (by decide)) (fun z14 h15 z14Z z14E p16 => ?_)
        obtain ⟨eh15, p16⟩ := p16
        subst eh15
        obtain rfl : z14 = 114 := p16.trans rfl
        refine V_icmp_eq 56 z12E tc_114 d_Tape_isName_51 (by decide) (fun c17 => ?_) (fun c17 => ?_)
        ·
          refine V_iinc (v := 1) 3 [some (.ref 89), some (.ref (135 + 8)), some (.int 3), some (.int 1)] d_Tape_isName_56 rfl (by decide) (by decide) rfl rfl ?_
          refine V_goto 30 d_Tape_isName_59 (by decide) ?_
          refine V_iload_n 3 d_Tape_isName_30 rfl rfl ?_
          refine V_iload_n 2 d_Tape_isName_31 rfl rfl ?_
          refine V_icmp_ge 62 tc_1 tc_3 d_Tape_isName_32 (by decide) (fun c19 => ?_) (fun c19 => ?_)
          ·
            exact absurd c19 (by decide)
          ·
            refine V_aload_n 0 d_Tape_isName_35 rfl rfl ?_
            refine V_getR fa_Tape_9 sk_89 rfl d_Tape_isName_36 ?_
            refine V_aload_n 0 d_Tape_isName_39 rfl rfl ?_
            refine N_getK fa_Tape_19 sk_89 rfl d_Tape_isName_40 fK ?_
            refine V_iload_n 3 d_Tape_isName_43 rfl rfl ?_
            refine V_iadd fE tc_1 (by (first | decide +kernel | with_reducible assumption | omega)) d_Tape_isName_44 (fun z20 z20e z20E => ?_)
            refine N_bald sk_90 z20E (by (first | decide +kernel | with_reducible assumption | omega)) d_Tape_isName_45 (fun z21 z21Z z21E z21e => ?_)
            have g22 : z21Z = b (fZ + 1) := TP_rd (TP_fr f0 (fun _ => rfl) hy0) (by (first | decide +kernel | with_reducible assumption | omega)) z21E z21e
            refine V_aload_n 1 d_Tape_isName_46 rfl rfl ?_
            refine V_iload_n 3 d_Tape_isName_47 rfl rfl ?_
            refine N_callVSI [.int 1] [.int z21] cv_Tape_47 sH rfl d_Tape_isName_48 rfl (Nat.le_of_ble_eq_true rfl) (by decide) (by decide) (c_Str_charAt h 8 sH 1 1 tc_1 (by decide)) (fun z23 h24 z23Z z23E p25 => ?_)
            obtain ⟨eh24, p25⟩ := p25
            subst eh24
            obtain rfl : z23 = 111 := p25.trans rfl
            refine V_icmp_eq 56 z21E tc_111 d_Tape_isName_51 (by decide) (fun c26 => ?_) (fun c26 => ?_)
            ·
              refine V_iinc (v := 2) 3 [some (.ref 89), some (.ref (135 + 8)), some (.int 3), some (.int 2)] d_Tape_isName_56 rfl (by decide) (by decide) rfl rfl ?_
              refine V_goto 30 d_Tape_isName_59 (by decide) ?_
              refine V_iload_n 3 d_Tape_isName_30 rfl rfl ?_
              refine V_iload_n 2 d_Tape_isName_31 rfl rfl ?_
              refine V_icmp_ge 62 tc_2 tc_3 d_Tape_isName_32 (by decide) (fun c28 => ?_) (fun c28 => ?_)
              ·
                exact absurd c28 (by decide)
              ·
                refine V_aload_n 0 d_Tape_isName_35 rfl rfl ?_
                refine V_getR fa_Tape_9 sk_89 rfl d_Tape_isName_36 ?_
                refine V_aload_n 0 d_Tape_isName_39 rfl rfl ?_
                refine N_getK fa_Tape_19 sk_89 rfl d_Tape_isName_40 fK ?_
                refine V_iload_n 3 d_Tape_isName_43 rfl rfl ?_
                refine V_iadd fE tc_2 (by (first | decide +kernel | with_reducible assumption | omega)) d_Tape_isName_44 (fun z29 z29e z29E => ?_)
                refine N_bald sk_90 z29E (by (first | decide +kernel | with_reducible assumption | omega)) d_Tape_isName_45 (fun z30 z30Z z30E z30e => ?_)
                have g31 : z30Z = b (fZ + 2) := TP_rd (TP_fr f0 (fun _ => rfl) hy0) (by (first | decide +kernel | with_reducible assumption | omega)) z30E z30e
                refine V_aload_n 1 d_Tape_isName_46 rfl rfl ?_
                refine V_iload_n 3 d_Tape_isName_47 rfl rfl ?_
                refine N_callVSI [.int 2] [.int z30] cv_Tape_47 sH rfl d_Tape_isName_48 rfl (Nat.le_of_ble_eq_true rfl) (by decide) (by decide) (c_Str_charAt h 8 sH 2 2 tc_2 (by decide)) (fun z32 h33 z32Z z32E p34 => ?_)
                obtain ⟨eh33, p34⟩ := p34
                subst eh33
                obtain rfl : z32 = 100 := p34.trans rfl
                refine V_icmp_eq 56 z30E tc_100 d_Tape_isName_51 (by decide) (fun c35 => ?_) (fun c35 => ?_)
                ·
                  refine V_iinc (v := 3) 3 [some (.ref 89), some (.ref (135 + 8)), some (.int 3), some (.int 3)] d_Tape_isName_56 rfl (by decide) (by decide) rfl rfl ?_
                  refine V_goto 30 d_Tape_isName_59 (by decide) ?_
                  refine V_iload_n 3 d_Tape_isName_30 rfl rfl ?_
                  refine V_iload_n 2 d_Tape_isName_31 rfl rfl ?_
                  refine V_icmp_ge 62 tc_3 tc_3 d_Tape_isName_32 (by decide) (fun c37 => ?_) (fun c37 => ?_)
                  ·
                    refine V_iconst 1 d_Tape_isName_62 (by decide) ?_
                    exact V_zret rfl (by decide) d_Tape_isName_63 ⟨1, rfl, ⟨rfl, (Or.inr ⟨by (first | decide +kernel | with_reducible assumption | omega), tc_1.trans (x_nmy8 (b := b) (f := fZ) (e := uZ) (by (first | decide +kernel | with_reducible assumption | omega))).symm⟩)⟩⟩
                  ·
                    exact absurd c37 (by decide)
                ·
                  refine V_iconst 0 d_Tape_isName_54 (by decide) ?_
                  exact V_zret rfl (by decide) d_Tape_isName_55 ⟨0, rfl, ⟨rfl, (Or.inr ⟨by (first | decide +kernel | with_reducible assumption | omega), tc_0.trans (x_nmn8 (b := b) (f := fZ) (e := uZ) (by (first | decide +kernel | with_reducible assumption | omega))).symm⟩)⟩⟩
            ·
              refine V_iconst 0 d_Tape_isName_54 (by decide) ?_
              exact V_zret rfl (by decide) d_Tape_isName_55 ⟨0, rfl, ⟨rfl, (Or.inr ⟨by (first | decide +kernel | with_reducible assumption | omega), tc_0.trans (x_nmn8 (b := b) (f := fZ) (e := uZ) (by (first | decide +kernel | with_reducible assumption | omega))).symm⟩)⟩⟩
        ·
          refine V_iconst 0 d_Tape_isName_54 (by decide) ?_
          exact V_zret rfl (by decide) d_Tape_isName_55 ⟨0, rfl, ⟨rfl, (Or.inr ⟨by (first | decide +kernel | with_reducible assumption | omega), tc_0.trans (x_nmn8 (b := b) (f := fZ) (e := uZ) (by (first | decide +kernel | with_reducible assumption | omega))).symm⟩)⟩⟩
    ·
      refine V_iconst 0 d_Tape_isName_26 (by decide) ?_
      exact V_zret rfl (by decide) d_Tape_isName_27 ⟨0, rfl, ⟨rfl, (if q : qZ = 1 then Or.inr ⟨q, tc_0.trans (x_nmn8 (b := b) (f := fZ) (e := uZ) (by (first | decide +kernel | with_reducible assumption | omega))).symm⟩ else Or.inl ⟨q, rfl⟩)⟩⟩
abbrev q_Tape_isNameX_9 (h : Hp) (b : Int → Int) (s : Int32) (sZ : Int) (q : Int32) (qZ : Int) (f : Int32) (fZ : Int) (u : Int32) (uZ : Int) : Option Value → Hp → Prop := pInt (fun r h' => h = h' ∧ (qZ ≠ 1 ∧ r.toInt = 0 ∨ qZ = 1 ∧ r.toInt = x_nm9 b fZ uZ))
set_option maxRecDepth 100000 in
theorem c_Tape_isNameX_9 (h : Hp) (b : Int → Int) (hI : Inv h) (s : Int32) (sZ : Int) (sE : s.toInt = sZ) (sK : h.1 89 1 = s) (q : Int32) (qZ : Int) (qE : q.toInt = qZ) (qK : h.1 89 2 = q) (f : Int32) (fZ : Int) (fE : f.toInt = fZ) (fK : h.1 89 3 = f) (u : Int32) (uZ : Int) (uE : u.toInt = uZ) (uK : h.1 89 4 = u) (hy0 : TP h 90 sZ b) (hy1 : 0 ≤ fZ ∧ fZ ≤ uZ ∧ uZ ≤ sZ ∧ sZ ≤ 160) : Ct y_Tape_isName b_Tape_isName 4 (some .boolean) 4 85 [.ref 89, .ref (135 + 9)] h (q_Tape_isNameX_9 h b s sZ q qZ f fZ u uZ) := by
  refine ct_ow R_Tape [some (.ref 89), some (.ref (135 + 9)), none, none] rfl (by decide) rfl (Nat.le_of_ble_eq_true rfl) ?_
  have f0 : fr [] h h := fr_rf
  have g1 : 0 ≤ sZ ∧ sZ ≤ 160 := inv_at hI sE sK.symm rfl
  have g2 : 0 ≤ fZ ∧ fZ ≤ 160 := inv_at hI fE fK.symm rfl
  have g3 : 0 ≤ uZ ∧ uZ ≤ 160 := inv_at hI uE uK.symm rfl
  have sH : 9 < 14 := by decide
  refine V_aload_n 1 d_Tape_isName_0 rfl rfl ?_
  refine N_callVSI [] [] cv_Tape_41 sH rfl d_Tape_isName_1 rfl (Nat.le_of_ble_eq_true rfl) (by decide) (by decide) (c_Str_length h 9 sH) (fun z4 h5 z4Z z4E p6 => ?_)
  obtain ⟨eh5, p6⟩ := p6
  subst eh5
  rw [z4E] at p6
  obtain rfl : z4 = 3 := (ti_eq z4E (show (3 : Int32).toInt = 3 from rfl)).mpr (p6.trans rfl)
  refine V_istore_n 2 [some (.ref 89), some (.ref (135 + 9)), some (.int 3), none] d_Tape_isName_4 rfl (by decide) rfl rfl ?_
  refine V_aload_n 0 d_Tape_isName_5 rfl rfl ?_
  refine N_getK fa_Tape_25 sk_89 rfl d_Tape_isName_6 qK ?_
  refine V_iconst 1 d_Tape_isName_9 (by decide) ?_
  refine V_icmp_ne 26 qE tc_1 d_Tape_isName_10 (by decide) (fun c7 => ?_) (fun c7 => ?_)
  ·
    refine V_iconst 0 d_Tape_isName_26 (by decide) ?_
    exact V_zret rfl (by decide) d_Tape_isName_27 ⟨0, rfl, ⟨rfl, (if q : qZ = 1 then Or.inr ⟨q, tc_0.trans (x_nmn9 (b := b) (f := fZ) (e := uZ) (by (first | decide +kernel | with_reducible assumption | omega))).symm⟩ else Or.inl ⟨q, rfl⟩)⟩⟩
  ·
    refine V_aload_n 0 d_Tape_isName_13 rfl rfl ?_
    refine N_getK fa_Tape_15 sk_89 rfl d_Tape_isName_14 uK ?_
    refine V_aload_n 0 d_Tape_isName_17 rfl rfl ?_
    refine N_getK fa_Tape_19 sk_89 rfl d_Tape_isName_18 fK ?_
    refine V_isub uE fE (by (first | decide +kernel | with_reducible assumption | omega)) d_Tape_isName_21 (fun z8 z8e z8E => ?_)
    refine V_iload_n 2 d_Tape_isName_22 rfl rfl ?_
    refine V_icmp_eq 28 z8E tc_3 d_Tape_isName_23 (by decide) (fun c9 => ?_) (fun c9 => ?_)
    ·
      refine V_iconst 0 d_Tape_isName_28 (by decide) ?_
      refine V_istore_n 3 [some (.ref 89), some (.ref (135 + 9)), some (.int 3), some (.int 0)] d_Tape_isName_29 rfl (by decide) rfl rfl ?_
      refine V_iload_n 3 d_Tape_isName_30 rfl rfl ?_
      refine V_iload_n 2 d_Tape_isName_31 rfl rfl ?_
      refine V_icmp_ge 62 tc_0 tc_3 d_Tape_isName_32 (by decide) (fun c10 => ?_) (fun c10 => ?_)
      ·
        exact absurd c10 (by decide)
      ·
        refine V_aload_n 0 d_Tape_isName_35 rfl rfl ?_
        refine V_getR fa_Tape_9 sk_89 rfl d_Tape_isName_36 ?_
        refine V_aload_n 0 d_Tape_isName_39 rfl rfl ?_
        refine N_getK fa_Tape_19 sk_89 rfl d_Tape_isName_40 fK ?_
        refine V_iload_n 3 d_Tape_isName_43 rfl rfl ?_
        refine V_iadd fE tc_0 (by (first | decide +kernel | with_reducible assumption | omega)) d_Tape_isName_44 (fun z11 z11e z11E => ?_)
        refine N_bald sk_90 z11E (by (first | decide +kernel | with_reducible assumption | omega)) d_Tape_isName_45 (fun z12 z12Z z12E z12e => ?_)
        have g13 : z12Z = b (fZ + 0) := TP_rd (TP_fr f0 (fun _ => rfl) hy0) (by (first | decide +kernel | with_reducible assumption | omega)) z12E z12e
        refine V_aload_n 1 d_Tape_isName_46 rfl rfl ?_
        refine V_iload_n 3 d_Tape_isName_47 rfl rfl ?_
        refine N_callVSI [.int 0] [.int z12] cv_Tape_47 sH rfl d_Tape_isName_48 rfl (Nat.le_of_ble_eq_true rfl) (by decide) (by decide) (c_Str_charAt h 9 sH 0 0 tc_0 (by decide)) (fun z14 h15 z14Z z14E p16 => ?_)
        obtain ⟨eh15, p16⟩ := p16
        subst eh15
        obtain rfl : z14 = 111 := p16.trans rfl
        refine V_icmp_eq 56 z12E tc_111 d_Tape_isName_51 (by decide) (fun c17 => ?_) (fun c17 => ?_)
        ·
          refine V_iinc (v := 1) 3 [some (.ref 89), some (.ref (135 + 9)), some (.int 3), some (.int 1)] d_Tape_isName_56 rfl (by decide) (by decide) rfl rfl ?_
          refine V_goto 30 d_Tape_isName_59 (by decide) ?_
          refine V_iload_n 3 d_Tape_isName_30 rfl rfl ?_
          refine V_iload_n 2 d_Tape_isName_31 rfl rfl ?_
          refine V_icmp_ge 62 tc_1 tc_3 d_Tape_isName_32 (by decide) (fun c19 => ?_) (fun c19 => ?_)
          ·
            exact absurd c19 (by decide)
          ·
            refine V_aload_n 0 d_Tape_isName_35 rfl rfl ?_
            refine V_getR fa_Tape_9 sk_89 rfl d_Tape_isName_36 ?_
            refine V_aload_n 0 d_Tape_isName_39 rfl rfl ?_
            refine N_getK fa_Tape_19 sk_89 rfl d_Tape_isName_40 fK ?_
            refine V_iload_n 3 d_Tape_isName_43 rfl rfl ?_
            refine V_iadd fE tc_1 (by (first | decide +kernel | with_reducible assumption | omega)) d_Tape_isName_44 (fun z20 z20e z20E => ?_)
            refine N_bald sk_90 z20E (by (first | decide +kernel | with_reducible assumption | omega)) d_Tape_isName_45 (fun z21 z21Z z21E z21e => ?_)
            have g22 : z21Z = b (fZ + 1) := TP_rd (TP_fr f0 (fun _ => rfl) hy0) (by (first | decide +kernel | with_reducible assumption | omega)) z21E z21e
            refine V_aload_n 1 d_Tape_isName_46 rfl rfl ?_
            refine V_iload_n 3 d_Tape_isName_47 rfl rfl ?_
            refine N_callVSI [.int 1] [.int z21] cv_Tape_47 sH rfl d_Tape_isName_48 rfl (Nat.le_of_ble_eq_true rfl) (by decide) (by decide) (c_Str_charAt h 9 sH 1 1 tc_1 (by decide)) (fun z23 h24 z23Z z23E p25 => ?_)
            obtain ⟨eh24, p25⟩ := p25
            subst eh24
            obtain rfl : z23 = 119 := p25.trans rfl
            refine V_icmp_eq 56 z21E tc_119 d_Tape_isName_51 (by decide) (fun c26 => ?_) (fun c26 => ?_)
            ·
              refine V_iinc (v := 2) 3 [some (.ref 89), some (.ref (135 + 9)), some (.int 3), some (.int 2)] d_Tape_isName_56 rfl (by decide) (by decide) rfl rfl ?_
              refine V_goto 30 d_Tape_isName_59 (by decide) ?_
              refine V_iload_n 3 d_Tape_isName_30 rfl rfl ?_
              refine V_iload_n 2 d_Tape_isName_31 rfl rfl ?_
              refine V_icmp_ge 62 tc_2 tc_3 d_Tape_isName_32 (by decide) (fun c28 => ?_) (fun c28 => ?_)
              ·
                exact absurd c28 (by decide)
              ·
                refine V_aload_n 0 d_Tape_isName_35 rfl rfl ?_
                refine V_getR fa_Tape_9 sk_89 rfl d_Tape_isName_36 ?_
                refine V_aload_n 0 d_Tape_isName_39 rfl rfl ?_
                refine N_getK fa_Tape_19 sk_89 rfl d_Tape_isName_40 fK ?_
                refine V_iload_n 3 d_Tape_isName_43 rfl rfl ?_
                refine V_iadd fE tc_2 (by (first | decide +kernel | with_reducible assumption | omega)) d_Tape_isName_44 (fun z29 z29e z29E => ?_)
                refine N_bald sk_90 z29E (by (first | decide +kernel | with_reducible assumption | omega)) d_Tape_isName_45 (fun z30 z30Z z30E z30e => ?_)
                have g31 : z30Z = b (fZ + 2) := TP_rd (TP_fr f0 (fun _ => rfl) hy0) (by (first | decide +kernel | with_reducible assumption | omega)) z30E z30e
                refine V_aload_n 1 d_Tape_isName_46 rfl rfl ?_
                refine V_iload_n 3 d_Tape_isName_47 rfl rfl ?_
                refine N_callVSI [.int 2] [.int z30] cv_Tape_47 sH rfl d_Tape_isName_48 rfl (Nat.le_of_ble_eq_true rfl) (by decide) (by decide) (c_Str_charAt h 9 sH 2 2 tc_2 (by decide)) (fun z32 h33 z32Z z32E p34 => ?_)
                obtain ⟨eh33, p34⟩ := p34
                subst eh33
                obtain rfl : z32 = 101 := p34.trans rfl
                refine V_icmp_eq 56 z30E tc_101 d_Tape_isName_51 (by decide) (fun c35 => ?_) (fun c35 => ?_)
                ·
                  refine V_iinc (v := 3) 3 [some (.ref 89), some (.ref (135 + 9)), some (.int 3), some (.int 3)] d_Tape_isName_56 rfl (by decide) (by decide) rfl rfl ?_
                  refine V_goto 30 d_Tape_isName_59 (by decide) ?_
                  refine V_iload_n 3 d_Tape_isName_30 rfl rfl ?_
                  refine V_iload_n 2 d_Tape_isName_31 rfl rfl ?_
                  refine V_icmp_ge 62 tc_3 tc_3 d_Tape_isName_32 (by decide) (fun c37 => ?_) (fun c37 => ?_)
                  ·
                    refine V_iconst 1 d_Tape_isName_62 (by decide) ?_
                    exact V_zret rfl (by decide) d_Tape_isName_63 ⟨1, rfl, ⟨rfl, (Or.inr ⟨by (first | decide +kernel | with_reducible assumption | omega), tc_1.trans (x_nmy9 (b := b) (f := fZ) (e := uZ) (by (first | decide +kernel | with_reducible assumption | omega))).symm⟩)⟩⟩
                  ·
                    exact absurd c37 (by decide)
                ·
                  refine V_iconst 0 d_Tape_isName_54 (by decide) ?_
                  exact V_zret rfl (by decide) d_Tape_isName_55 ⟨0, rfl, ⟨rfl, (Or.inr ⟨by (first | decide +kernel | with_reducible assumption | omega), tc_0.trans (x_nmn9 (b := b) (f := fZ) (e := uZ) (by (first | decide +kernel | with_reducible assumption | omega))).symm⟩)⟩⟩
            ·
              refine V_iconst 0 d_Tape_isName_54 (by decide) ?_
              exact V_zret rfl (by decide) d_Tape_isName_55 ⟨0, rfl, ⟨rfl, (Or.inr ⟨by (first | decide +kernel | with_reducible assumption | omega), tc_0.trans (x_nmn9 (b := b) (f := fZ) (e := uZ) (by (first | decide +kernel | with_reducible assumption | omega))).symm⟩)⟩⟩
        ·
          refine V_iconst 0 d_Tape_isName_54 (by decide) ?_
          exact V_zret rfl (by decide) d_Tape_isName_55 ⟨0, rfl, ⟨rfl, (Or.inr ⟨by (first | decide +kernel | with_reducible assumption | omega), tc_0.trans (x_nmn9 (b := b) (f := fZ) (e := uZ) (by (first | decide +kernel | with_reducible assumption | omega))).symm⟩)⟩⟩
    ·
      refine V_iconst 0 d_Tape_isName_26 (by decide) ?_
      exact V_zret rfl (by decide) d_Tape_isName_27 ⟨0, rfl, ⟨rfl, (if q : qZ = 1 then Or.inr ⟨q, tc_0.trans (x_nmn9 (b := b) (f := fZ) (e := uZ) (by (first | decide +kernel | with_reducible assumption | omega))).symm⟩ else Or.inl ⟨q, rfl⟩)⟩⟩
abbrev q_Tape_isNameX_10 (h : Hp) (b : Int → Int) (s : Int32) (sZ : Int) (q : Int32) (qZ : Int) (f : Int32) (fZ : Int) (u : Int32) (uZ : Int) : Option Value → Hp → Prop := pInt (fun r h' => h = h' ∧ (qZ ≠ 1 ∧ r.toInt = 0 ∨ qZ = 1 ∧ r.toInt = x_nm10 b fZ uZ))
set_option maxRecDepth 100000 in
theorem c_Tape_isNameX_10 (h : Hp) (b : Int → Int) (hI : Inv h) (s : Int32) (sZ : Int) (sE : s.toInt = sZ) (sK : h.1 89 1 = s) (q : Int32) (qZ : Int) (qE : q.toInt = qZ) (qK : h.1 89 2 = q) (f : Int32) (fZ : Int) (fE : f.toInt = fZ) (fK : h.1 89 3 = f) (u : Int32) (uZ : Int) (uE : u.toInt = uZ) (uK : h.1 89 4 = u) (hy0 : TP h 90 sZ b) (hy1 : 0 ≤ fZ ∧ fZ ≤ uZ ∧ uZ ≤ sZ ∧ sZ ≤ 160) : Ct y_Tape_isName b_Tape_isName 4 (some .boolean) 4 85 [.ref 89, .ref (135 + 10)] h (q_Tape_isNameX_10 h b s sZ q qZ f fZ u uZ) := by
  refine ct_ow R_Tape [some (.ref 89), some (.ref (135 + 10)), none, none] rfl (by decide) rfl (Nat.le_of_ble_eq_true rfl) ?_
  have f0 : fr [] h h := fr_rf
  have g1 : 0 ≤ sZ ∧ sZ ≤ 160 := inv_at hI sE sK.symm rfl
  have g2 : 0 ≤ fZ ∧ fZ ≤ 160 := inv_at hI fE fK.symm rfl
  have g3 : 0 ≤ uZ ∧ uZ ≤ 160 := inv_at hI uE uK.symm rfl
  have sH : 10 < 14 := by decide
  refine V_aload_n 1 d_Tape_isName_0 rfl rfl ?_
  refine N_callVSI [] [] cv_Tape_41 sH rfl d_Tape_isName_1 rfl (Nat.le_of_ble_eq_true rfl) (by decide) (by decide) (c_Str_length h 10 sH) (fun z4 h5 z4Z z4E p6 => ?_)
  obtain ⟨eh5, p6⟩ := p6
  subst eh5
  rw [z4E] at p6
  obtain rfl : z4 = 5 := (ti_eq z4E (show (5 : Int32).toInt = 5 from rfl)).mpr (p6.trans rfl)
  refine V_istore_n 2 [some (.ref 89), some (.ref (135 + 10)), some (.int 5), none] d_Tape_isName_4 rfl (by decide) rfl rfl ?_
  refine V_aload_n 0 d_Tape_isName_5 rfl rfl ?_
  refine N_getK fa_Tape_25 sk_89 rfl d_Tape_isName_6 qK ?_
  refine V_iconst 1 d_Tape_isName_9 (by decide) ?_
  refine V_icmp_ne 26 qE tc_1 d_Tape_isName_10 (by decide) (fun c7 => ?_) (fun c7 => ?_)
  ·
    refine V_iconst 0 d_Tape_isName_26 (by decide) ?_
    exact V_zret rfl (by decide) d_Tape_isName_27 ⟨0, rfl, ⟨rfl, (if q : qZ = 1 then Or.inr ⟨q, tc_0.trans (x_nmn10 (b := b) (f := fZ) (e := uZ) (by (first | decide +kernel | with_reducible assumption | omega))).symm⟩ else Or.inl ⟨q, rfl⟩)⟩⟩
  ·
    refine V_aload_n 0 d_Tape_isName_13 rfl rfl ?_
    refine N_getK fa_Tape_15 sk_89 rfl d_Tape_isName_14 uK ?_
    refine V_aload_n 0 d_Tape_isName_17 rfl rfl ?_
    refine N_getK fa_Tape_19 sk_89 rfl d_Tape_isName_18 fK ?_
    refine V_isub uE fE (by (first | decide +kernel | with_reducible assumption | omega)) d_Tape_isName_21 (fun z8 z8e z8E => ?_)
    refine V_iload_n 2 d_Tape_isName_22 rfl rfl ?_
    refine V_icmp_eq 28 z8E tc_5 d_Tape_isName_23 (by decide) (fun c9 => ?_) (fun c9 => ?_)
    ·
      refine V_iconst 0 d_Tape_isName_28 (by decide) ?_
      refine V_istore_n 3 [some (.ref 89), some (.ref (135 + 10)), some (.int 5), some (.int 0)] d_Tape_isName_29 rfl (by decide) rfl rfl ?_
      refine V_iload_n 3 d_Tape_isName_30 rfl rfl ?_
      refine V_iload_n 2 d_Tape_isName_31 rfl rfl ?_
      refine V_icmp_ge 62 tc_0 tc_5 d_Tape_isName_32 (by decide) (fun c10 => ?_) (fun c10 => ?_)
      ·
        exact absurd c10 (by decide)
      ·
        refine V_aload_n 0 d_Tape_isName_35 rfl rfl ?_
        refine V_getR fa_Tape_9 sk_89 rfl d_Tape_isName_36 ?_
        refine V_aload_n 0 d_Tape_isName_39 rfl rfl ?_
        refine N_getK fa_Tape_19 sk_89 rfl d_Tape_isName_40 fK ?_
        refine V_iload_n 3 d_Tape_isName_43 rfl rfl ?_
        refine V_iadd fE tc_0 (by (first | decide +kernel | with_reducible assumption | omega)) d_Tape_isName_44 (fun z11 z11e z11E => ?_)
        refine N_bald sk_90 z11E (by (first | decide +kernel | with_reducible assumption | omega)) d_Tape_isName_45 (fun z12 z12Z z12E z12e => ?_)
        have g13 : z12Z = b (fZ + 0) := TP_rd (TP_fr f0 (fun _ => rfl) hy0) (by (first | decide +kernel | with_reducible assumption | omega)) z12E z12e
        refine V_aload_n 1 d_Tape_isName_46 rfl rfl ?_
        refine V_iload_n 3 d_Tape_isName_47 rfl rfl ?_
        refine N_callVSI [.int 0] [.int z12] cv_Tape_47 sH rfl d_Tape_isName_48 rfl (Nat.le_of_ble_eq_true rfl) (by decide) (by decide) (c_Str_charAt h 10 sH 0 0 tc_0 (by decide)) (fun z14 h15 z14Z z14E p16 => ?_)
        obtain ⟨eh15, p16⟩ := p16
        subst eh15
        obtain rfl : z14 = 119 := p16.trans rfl
        refine V_icmp_eq 56 z12E tc_119 d_Tape_isName_51 (by decide) (fun c17 => ?_) (fun c17 => ?_)
        ·
          refine V_iinc (v := 1) 3 [some (.ref 89), some (.ref (135 + 10)), some (.int 5), some (.int 1)] d_Tape_isName_56 rfl (by decide) (by decide) rfl rfl ?_
          refine V_goto 30 d_Tape_isName_59 (by decide) ?_
          refine V_iload_n 3 d_Tape_isName_30 rfl rfl ?_
          refine V_iload_n 2 d_Tape_isName_31 rfl rfl ?_
          refine V_icmp_ge 62 tc_1 tc_5 d_Tape_isName_32 (by decide) (fun c19 => ?_) (fun c19 => ?_)
          ·
            exact absurd c19 (by decide)
          ·
            refine V_aload_n 0 d_Tape_isName_35 rfl rfl ?_
            refine V_getR fa_Tape_9 sk_89 rfl d_Tape_isName_36 ?_
            refine V_aload_n 0 d_Tape_isName_39 rfl rfl ?_
            refine N_getK fa_Tape_19 sk_89 rfl d_Tape_isName_40 fK ?_
            refine V_iload_n 3 d_Tape_isName_43 rfl rfl ?_
            refine V_iadd fE tc_1 (by (first | decide +kernel | with_reducible assumption | omega)) d_Tape_isName_44 (fun z20 z20e z20E => ?_)
            refine N_bald sk_90 z20E (by (first | decide +kernel | with_reducible assumption | omega)) d_Tape_isName_45 (fun z21 z21Z z21E z21e => ?_)
            have g22 : z21Z = b (fZ + 1) := TP_rd (TP_fr f0 (fun _ => rfl) hy0) (by (first | decide +kernel | with_reducible assumption | omega)) z21E z21e
            refine V_aload_n 1 d_Tape_isName_46 rfl rfl ?_
            refine V_iload_n 3 d_Tape_isName_47 rfl rfl ?_
            refine N_callVSI [.int 1] [.int z21] cv_Tape_47 sH rfl d_Tape_isName_48 rfl (Nat.le_of_ble_eq_true rfl) (by decide) (by decide) (c_Str_charAt h 10 sH 1 1 tc_1 (by decide)) (fun z23 h24 z23Z z23E p25 => ?_)
            obtain ⟨eh24, p25⟩ := p25
            subst eh24
            obtain rfl : z23 = 97 := p25.trans rfl
            refine V_icmp_eq 56 z21E tc_97 d_Tape_isName_51 (by decide) (fun c26 => ?_) (fun c26 => ?_)
            ·
              refine V_iinc (v := 2) 3 [some (.ref 89), some (.ref (135 + 10)), some (.int 5), some (.int 2)] d_Tape_isName_56 rfl (by decide) (by decide) rfl rfl ?_
              refine V_goto 30 d_Tape_isName_59 (by decide) ?_
              refine V_iload_n 3 d_Tape_isName_30 rfl rfl ?_
              refine V_iload_n 2 d_Tape_isName_31 rfl rfl ?_
              refine V_icmp_ge 62 tc_2 tc_5 d_Tape_isName_32 (by decide) (fun c28 => ?_) (fun c28 => ?_)
              ·
                exact absurd c28 (by decide)
              ·
                refine V_aload_n 0 d_Tape_isName_35 rfl rfl ?_
                refine V_getR fa_Tape_9 sk_89 rfl d_Tape_isName_36 ?_
                refine V_aload_n 0 d_Tape_isName_39 rfl rfl ?_
                refine N_getK fa_Tape_19 sk_89 rfl d_Tape_isName_40 fK ?_
                refine V_iload_n 3 d_Tape_isName_43 rfl rfl ?_
                refine V_iadd fE tc_2 (by (first | decide +kernel | with_reducible assumption | omega)) d_Tape_isName_44 (fun z29 z29e z29E => ?_)
                refine N_bald sk_90 z29E (by (first | decide +kernel | with_reducible assumption | omega)) d_Tape_isName_45 (fun z30 z30Z z30E z30e => ?_)
                have g31 : z30Z = b (fZ + 2) := TP_rd (TP_fr f0 (fun _ => rfl) hy0) (by (first | decide +kernel | with_reducible assumption | omega)) z30E z30e
                refine V_aload_n 1 d_Tape_isName_46 rfl rfl ?_
                refine V_iload_n 3 d_Tape_isName_47 rfl rfl ?_
                refine N_callVSI [.int 2] [.int z30] cv_Tape_47 sH rfl d_Tape_isName_48 rfl (Nat.le_of_ble_eq_true rfl) (by decide) (by decide) (c_Str_charAt h 10 sH 2 2 tc_2 (by decide)) (fun z32 h33 z32Z z32E p34 => ?_)
                obtain ⟨eh33, p34⟩ := p34
                subst eh33
                obtain rfl : z32 = 116 := p34.trans rfl
                refine V_icmp_eq 56 z30E tc_116 d_Tape_isName_51 (by decide) (fun c35 => ?_) (fun c35 => ?_)
                ·
                  refine V_iinc (v := 3) 3 [some (.ref 89), some (.ref (135 + 10)), some (.int 5), some (.int 3)] d_Tape_isName_56 rfl (by decide) (by decide) rfl rfl ?_
                  refine V_goto 30 d_Tape_isName_59 (by decide) ?_
                  refine V_iload_n 3 d_Tape_isName_30 rfl rfl ?_
                  refine V_iload_n 2 d_Tape_isName_31 rfl rfl ?_
                  refine V_icmp_ge 62 tc_3 tc_5 d_Tape_isName_32 (by decide) (fun c37 => ?_) (fun c37 => ?_)
                  ·
                    exact absurd c37 (by decide)
                  ·
                    refine V_aload_n 0 d_Tape_isName_35 rfl rfl ?_
                    refine V_getR fa_Tape_9 sk_89 rfl d_Tape_isName_36 ?_
                    refine V_aload_n 0 d_Tape_isName_39 rfl rfl ?_
                    refine N_getK fa_Tape_19 sk_89 rfl d_Tape_isName_40 fK ?_
                    refine V_iload_n 3 d_Tape_isName_43 rfl rfl ?_
                    refine V_iadd fE tc_3 (by (first | decide +kernel | with_reducible assumption | omega)) d_Tape_isName_44 (fun z38 z38e z38E => ?_)
                    refine N_bald sk_90 z38E (by (first | decide +kernel | with_reducible assumption | omega)) d_Tape_isName_45 (fun z39 z39Z z39E z39e => ?_)
                    have g40 : z39Z = b (fZ + 3) := TP_rd (TP_fr f0 (fun _ => rfl) hy0) (by (first | decide +kernel | with_reducible assumption | omega)) z39E z39e
                    refine V_aload_n 1 d_Tape_isName_46 rfl rfl ?_
                    refine V_iload_n 3 d_Tape_isName_47 rfl rfl ?_
                    refine N_callVSI [.int 3] [.int z39] cv_Tape_47 sH rfl d_Tape_isName_48 rfl (Nat.le_of_ble_eq_true rfl) (by decide) (by decide) (c_Str_charAt h 10 sH 3 3 tc_3 (by decide)) (fun z41 h42 z41Z z41E p43 => ?_)
                    obtain ⟨eh42, p43⟩ := p43
                    subst eh42
                    obtain rfl : z41 = 101 := p43.trans rfl
                    refine V_icmp_eq 56 z39E tc_101 d_Tape_isName_51 (by decide) (fun c44 => ?_) (fun c44 => ?_)
                    ·
                      refine V_iinc (v := 4) 3 [some (.ref 89), some (.ref (135 + 10)), some (.int 5), some (.int 4)] d_Tape_isName_56 rfl (by decide) (by decide) rfl rfl ?_
                      refine V_goto 30 d_Tape_isName_59 (by decide) ?_
                      refine V_iload_n 3 d_Tape_isName_30 rfl rfl ?_
                      refine V_iload_n 2 d_Tape_isName_31 rfl rfl ?_
                      refine V_icmp_ge 62 tc_4 tc_5 d_Tape_isName_32 (by decide) (fun c46 => ?_) (fun c46 => ?_)
                      ·
                        exact absurd c46 (by decide)
                      ·
                        refine V_aload_n 0 d_Tape_isName_35 rfl rfl ?_
                        refine V_getR fa_Tape_9 sk_89 rfl d_Tape_isName_36 ?_
                        refine V_aload_n 0 d_Tape_isName_39 rfl rfl ?_
                        refine N_getK fa_Tape_19 sk_89 rfl d_Tape_isName_40 fK ?_
                        refine V_iload_n 3 d_Tape_isName_43 rfl rfl ?_
                        refine V_iadd fE tc_4 (by (first | decide +kernel | with_reducible assumption | omega)) d_Tape_isName_44 (fun z47 z47e z47E => ?_)
                        refine N_bald sk_90 z47E (by (first | decide +kernel | with_reducible assumption | omega)) d_Tape_isName_45 (fun z48 z48Z z48E z48e => ?_)
                        have g49 : z48Z = b (fZ + 4) := TP_rd (TP_fr f0 (fun _ => rfl) hy0) (by (first | decide +kernel | with_reducible assumption | omega)) z48E z48e
                        refine V_aload_n 1 d_Tape_isName_46 rfl rfl ?_
                        refine V_iload_n 3 d_Tape_isName_47 rfl rfl ?_
                        refine N_callVSI [.int 4] [.int z48] cv_Tape_47 sH rfl d_Tape_isName_48 rfl (Nat.le_of_ble_eq_true rfl) (by decide) (by decide) (c_Str_charAt h 10 sH 4 4 tc_4 (by decide)) (fun z50 h51 z50Z z50E p52 => ?_)
                        obtain ⟨eh51, p52⟩ := p52
                        subst eh51
                        obtain rfl : z50 = 114 := p52.trans rfl
                        refine V_icmp_eq 56 z48E tc_114 d_Tape_isName_51 (by decide) (fun c53 => ?_) (fun c53 => ?_)
                        ·
                          refine V_iinc (v := 5) 3 [some (.ref 89), some (.ref (135 + 10)), some (.int 5), some (.int 5)] d_Tape_isName_56 rfl (by decide) (by decide) rfl rfl ?_
                          refine V_goto 30 d_Tape_isName_59 (by decide) ?_
                          refine V_iload_n 3 d_Tape_isName_30 rfl rfl ?_
                          refine V_iload_n 2 d_Tape_isName_31 rfl rfl ?_
                          refine V_icmp_ge 62 tc_5 tc_5 d_Tape_isName_32 (by decide) (fun c55 => ?_) (fun c55 => ?_)
                          ·
                            refine V_iconst 1 d_Tape_isName_62 (by decide) ?_
                            exact V_zret rfl (by decide) d_Tape_isName_63 ⟨1, rfl, ⟨rfl, (Or.inr ⟨by (first | decide +kernel | with_reducible assumption | omega), tc_1.trans (x_nmy10 (b := b) (f := fZ) (e := uZ) (by (first | decide +kernel | with_reducible assumption | omega))).symm⟩)⟩⟩
                          ·
                            exact absurd c55 (by decide)
                        ·
                          refine V_iconst 0 d_Tape_isName_54 (by decide) ?_
                          exact V_zret rfl (by decide) d_Tape_isName_55 ⟨0, rfl, ⟨rfl, (Or.inr ⟨by (first | decide +kernel | with_reducible assumption | omega), tc_0.trans (x_nmn10 (b := b) (f := fZ) (e := uZ) (by (first | decide +kernel | with_reducible assumption | omega))).symm⟩)⟩⟩
                    ·
                      refine V_iconst 0 d_Tape_isName_54 (by decide) ?_
                      exact V_zret rfl (by decide) d_Tape_isName_55 ⟨0, rfl, ⟨rfl, (Or.inr ⟨by (first | decide +kernel | with_reducible assumption | omega), tc_0.trans (x_nmn10 (b := b) (f := fZ) (e := uZ) (by (first | decide +kernel | with_reducible assumption | omega))).symm⟩)⟩⟩
                ·
                  refine V_iconst 0 d_Tape_isName_54 (by decide) ?_
                  exact V_zret rfl (by decide) d_Tape_isName_55 ⟨0, rfl, ⟨rfl, (Or.inr ⟨by (first | decide +kernel | with_reducible assumption | omega), tc_0.trans (x_nmn10 (b := b) (f := fZ) (e := uZ) (by (first | decide +kernel | with_reducible assumption | omega))).symm⟩)⟩⟩
            ·
              refine V_iconst 0 d_Tape_isName_54 (by decide) ?_
              exact V_zret rfl (by decide) d_Tape_isName_55 ⟨0, rfl, ⟨rfl, (Or.inr ⟨by (first | decide +kernel | with_reducible assumption | omega), tc_0.trans (x_nmn10 (b := b) (f := fZ) (e := uZ) (by (first | decide +kernel | with_reducible assumption | omega))).symm⟩)⟩⟩
        ·
          refine V_iconst 0 d_Tape_isName_54 (by decide) ?_
          exact V_zret rfl (by decide) d_Tape_isName_55 ⟨0, rfl, ⟨rfl, (Or.inr ⟨by (first | decide +kernel | with_reducible assumption | omega), tc_0.trans (x_nmn10 (b := b) (f := fZ) (e := uZ) (by (first | decide +kernel | with_reducible assumption | omega))).symm⟩)⟩⟩
    ·
      refine V_iconst 0 d_Tape_isName_26 (by decide) ?_
      exact V_zret rfl (by decide) d_Tape_isName_27 ⟨0, rfl, ⟨rfl, (if q : qZ = 1 then Or.inr ⟨q, tc_0.trans (x_nmn10 (b := b) (f := fZ) (e := uZ) (by (first | decide +kernel | with_reducible assumption | omega))).symm⟩ else Or.inl ⟨q, rfl⟩)⟩⟩
abbrev q_Tape_isNameX_11 (h : Hp) (b : Int → Int) (s : Int32) (sZ : Int) (q : Int32) (qZ : Int) (f : Int32) (fZ : Int) (u : Int32) (uZ : Int) : Option Value → Hp → Prop := pInt (fun r h' => h = h' ∧ (qZ ≠ 1 ∧ r.toInt = 0 ∨ qZ = 1 ∧ r.toInt = x_nm11 b fZ uZ))
set_option maxRecDepth 100000 in
theorem c_Tape_isNameX_11 (h : Hp) (b : Int → Int) (hI : Inv h) (s : Int32) (sZ : Int) (sE : s.toInt = sZ) (sK : h.1 89 1 = s) (q : Int32) (qZ : Int) (qE : q.toInt = qZ) (qK : h.1 89 2 = q) (f : Int32) (fZ : Int) (fE : f.toInt = fZ) (fK : h.1 89 3 = f) (u : Int32) (uZ : Int) (uE : u.toInt = uZ) (uK : h.1 89 4 = u) (hy0 : TP h 90 sZ b) (hy1 : 0 ≤ fZ ∧ fZ ≤ uZ ∧ uZ ≤ sZ ∧ sZ ≤ 160) : Ct y_Tape_isName b_Tape_isName 4 (some .boolean) 4 85 [.ref 89, .ref (135 + 11)] h (q_Tape_isNameX_11 h b s sZ q qZ f fZ u uZ) := by
  refine ct_ow R_Tape [some (.ref 89), some (.ref (135 + 11)), none, none] rfl (by decide) rfl (Nat.le_of_ble_eq_true rfl) ?_
  have f0 : fr [] h h := fr_rf
  have g1 : 0 ≤ sZ ∧ sZ ≤ 160 := inv_at hI sE sK.symm rfl
  have g2 : 0 ≤ fZ ∧ fZ ≤ 160 := inv_at hI fE fK.symm rfl
  have g3 : 0 ≤ uZ ∧ uZ ≤ 160 := inv_at hI uE uK.symm rfl
  have sH : 11 < 14 := by decide
  refine V_aload_n 1 d_Tape_isName_0 rfl rfl ?_
  refine N_callVSI [] [] cv_Tape_41 sH rfl d_Tape_isName_1 rfl (Nat.le_of_ble_eq_true rfl) (by decide) (by decide) (c_Str_length h 11 sH) (fun z4 h5 z4Z z4E p6 => ?_)
  obtain ⟨eh5, p6⟩ := p6
  subst eh5
  rw [z4E] at p6
  obtain rfl : z4 = 5 := (ti_eq z4E (show (5 : Int32).toInt = 5 from rfl)).mpr (p6.trans rfl)
  refine V_istore_n 2 [some (.ref 89), some (.ref (135 + 11)), some (.int 5), none] d_Tape_isName_4 rfl (by decide) rfl rfl ?_
  refine V_aload_n 0 d_Tape_isName_5 rfl rfl ?_
  refine N_getK fa_Tape_25 sk_89 rfl d_Tape_isName_6 qK ?_
  refine V_iconst 1 d_Tape_isName_9 (by decide) ?_
  refine V_icmp_ne 26 qE tc_1 d_Tape_isName_10 (by decide) (fun c7 => ?_) (fun c7 => ?_)
  ·
    refine V_iconst 0 d_Tape_isName_26 (by decide) ?_
    exact V_zret rfl (by decide) d_Tape_isName_27 ⟨0, rfl, ⟨rfl, (if q : qZ = 1 then Or.inr ⟨q, tc_0.trans (x_nmn11 (b := b) (f := fZ) (e := uZ) (by (first | decide +kernel | with_reducible assumption | omega))).symm⟩ else Or.inl ⟨q, rfl⟩)⟩⟩
  ·
    refine V_aload_n 0 d_Tape_isName_13 rfl rfl ?_
    refine N_getK fa_Tape_15 sk_89 rfl d_Tape_isName_14 uK ?_
    refine V_aload_n 0 d_Tape_isName_17 rfl rfl ?_
    refine N_getK fa_Tape_19 sk_89 rfl d_Tape_isName_18 fK ?_
    refine V_isub uE fE (by (first | decide +kernel | with_reducible assumption | omega)) d_Tape_isName_21 (fun z8 z8e z8E => ?_)
    refine V_iload_n 2 d_Tape_isName_22 rfl rfl ?_
    refine V_icmp_eq 28 z8E tc_5 d_Tape_isName_23 (by decide) (fun c9 => ?_) (fun c9 => ?_)
    ·
      refine V_iconst 0 d_Tape_isName_28 (by decide) ?_
      refine V_istore_n 3 [some (.ref 89), some (.ref (135 + 11)), some (.int 5), some (.int 0)] d_Tape_isName_29 rfl (by decide) rfl rfl ?_
      refine V_iload_n 3 d_Tape_isName_30 rfl rfl ?_
      refine V_iload_n 2 d_Tape_isName_31 rfl rfl ?_
      refine V_icmp_ge 62 tc_0 tc_5 d_Tape_isName_32 (by decide) (fun c10 => ?_) (fun c10 => ?_)
      ·
        exact absurd c10 (by decide)
      ·
        refine V_aload_n 0 d_Tape_isName_35 rfl rfl ?_
        refine V_getR fa_Tape_9 sk_89 rfl d_Tape_isName_36 ?_
        refine V_aload_n 0 d_Tape_isName_39 rfl rfl ?_
        refine N_getK fa_Tape_19 sk_89 rfl d_Tape_isName_40 fK ?_
        refine V_iload_n 3 d_Tape_isName_43 rfl rfl ?_
        refine V_iadd fE tc_0 (by (first | decide +kernel | with_reducible assumption | omega)) d_Tape_isName_44 (fun z11 z11e z11E => ?_)
        refine N_bald sk_90 z11E (by (first | decide +kernel | with_reducible assumption | omega)) d_Tape_isName_45 (fun z12 z12Z z12E z12e => ?_)
        have g13 : z12Z = b (fZ + 0) := TP_rd (TP_fr f0 (fun _ => rfl) hy0) (by (first | decide +kernel | with_reducible assumption | omega)) z12E z12e
        refine V_aload_n 1 d_Tape_isName_46 rfl rfl ?_
        refine V_iload_n 3 d_Tape_isName_47 rfl rfl ?_
        refine N_callVSI [.int 0] [.int z12] cv_Tape_47 sH rfl d_Tape_isName_48 rfl (Nat.le_of_ble_eq_true rfl) (by decide) (by decide) (c_Str_charAt h 11 sH 0 0 tc_0 (by decide)) (fun z14 h15 z14Z z14E p16 => ?_)
        obtain ⟨eh15, p16⟩ := p16
        subst eh15
        obtain rfl : z14 = 115 := p16.trans rfl
        refine V_icmp_eq 56 z12E tc_115 d_Tape_isName_51 (by decide) (fun c17 => ?_) (fun c17 => ?_)
        ·
          refine V_iinc (v := 1) 3 [some (.ref 89), some (.ref (135 + 11)), some (.int 5), some (.int 1)] d_Tape_isName_56 rfl (by decide) (by decide) rfl rfl ?_
          refine V_goto 30 d_Tape_isName_59 (by decide) ?_
          refine V_iload_n 3 d_Tape_isName_30 rfl rfl ?_
          refine V_iload_n 2 d_Tape_isName_31 rfl rfl ?_
          refine V_icmp_ge 62 tc_1 tc_5 d_Tape_isName_32 (by decide) (fun c19 => ?_) (fun c19 => ?_)
          ·
            exact absurd c19 (by decide)
          ·
            refine V_aload_n 0 d_Tape_isName_35 rfl rfl ?_
            refine V_getR fa_Tape_9 sk_89 rfl d_Tape_isName_36 ?_
            refine V_aload_n 0 d_Tape_isName_39 rfl rfl ?_
            refine N_getK fa_Tape_19 sk_89 rfl d_Tape_isName_40 fK ?_
            refine V_iload_n 3 d_Tape_isName_43 rfl rfl ?_
            refine V_iadd fE tc_1 (by (first | decide +kernel | with_reducible assumption | omega)) d_Tape_isName_44 (fun z20 z20e z20E => ?_)
            refine N_bald sk_90 z20E (by (first | decide +kernel | with_reducible assumption | omega)) d_Tape_isName_45 (fun z21 z21Z z21E z21e => ?_)
            have g22 : z21Z = b (fZ + 1) := TP_rd (TP_fr f0 (fun _ => rfl) hy0) (by (first | decide +kernel | with_reducible assumption | omega)) z21E z21e
            refine V_aload_n 1 d_Tape_isName_46 rfl rfl ?_
            refine V_iload_n 3 d_Tape_isName_47 rfl rfl ?_
            refine N_callVSI [.int 1] [.int z21] cv_Tape_47 sH rfl d_Tape_isName_48 rfl (Nat.le_of_ble_eq_true rfl) (by decide) (by decide) (c_Str_charAt h 11 sH 1 1 tc_1 (by decide)) (fun z23 h24 z23Z z23E p25 => ?_)
            obtain ⟨eh24, p25⟩ := p25
            subst eh24
            obtain rfl : z23 = 116 := p25.trans rfl
            refine V_icmp_eq 56 z21E tc_116 d_Tape_isName_51 (by decide) (fun c26 => ?_) (fun c26 => ?_)
            ·
              refine V_iinc (v := 2) 3 [some (.ref 89), some (.ref (135 + 11)), some (.int 5), some (.int 2)] d_Tape_isName_56 rfl (by decide) (by decide) rfl rfl ?_
              refine V_goto 30 d_Tape_isName_59 (by decide) ?_
              refine V_iload_n 3 d_Tape_isName_30 rfl rfl ?_
              refine V_iload_n 2 d_Tape_isName_31 rfl rfl ?_
              refine V_icmp_ge 62 tc_2 tc_5 d_Tape_isName_32 (by decide) (fun c28 => ?_) (fun c28 => ?_)
              ·
                exact absurd c28 (by decide)
              ·
                refine V_aload_n 0 d_Tape_isName_35 rfl rfl ?_
                refine V_getR fa_Tape_9 sk_89 rfl d_Tape_isName_36 ?_
                refine V_aload_n 0 d_Tape_isName_39 rfl rfl ?_
                refine N_getK fa_Tape_19 sk_89 rfl d_Tape_isName_40 fK ?_
                refine V_iload_n 3 d_Tape_isName_43 rfl rfl ?_
                refine V_iadd fE tc_2 (by (first | decide +kernel | with_reducible assumption | omega)) d_Tape_isName_44 (fun z29 z29e z29E => ?_)
                refine N_bald sk_90 z29E (by (first | decide +kernel | with_reducible assumption | omega)) d_Tape_isName_45 (fun z30 z30Z z30E z30e => ?_)
                have g31 : z30Z = b (fZ + 2) := TP_rd (TP_fr f0 (fun _ => rfl) hy0) (by (first | decide +kernel | with_reducible assumption | omega)) z30E z30e
                refine V_aload_n 1 d_Tape_isName_46 rfl rfl ?_
                refine V_iload_n 3 d_Tape_isName_47 rfl rfl ?_
                refine N_callVSI [.int 2] [.int z30] cv_Tape_47 sH rfl d_Tape_isName_48 rfl (Nat.le_of_ble_eq_true rfl) (by decide) (by decide) (c_Str_charAt h 11 sH 2 2 tc_2 (by decide)) (fun z32 h33 z32Z z32E p34 => ?_)
                obtain ⟨eh33, p34⟩ := p34
                subst eh33
                obtain rfl : z32 = 101 := p34.trans rfl
                refine V_icmp_eq 56 z30E tc_101 d_Tape_isName_51 (by decide) (fun c35 => ?_) (fun c35 => ?_)
                ·
                  refine V_iinc (v := 3) 3 [some (.ref 89), some (.ref (135 + 11)), some (.int 5), some (.int 3)] d_Tape_isName_56 rfl (by decide) (by decide) rfl rfl ?_
                  refine V_goto 30 d_Tape_isName_59 (by decide) ?_
                  refine V_iload_n 3 d_Tape_isName_30 rfl rfl ?_
                  refine V_iload_n 2 d_Tape_isName_31 rfl rfl ?_
                  refine V_icmp_ge 62 tc_3 tc_5 d_Tape_isName_32 (by decide) (fun c37 => ?_) (fun c37 => ?_)
                  ·
                    exact absurd c37 (by decide)
                  ·
                    refine V_aload_n 0 d_Tape_isName_35 rfl rfl ?_
                    refine V_getR fa_Tape_9 sk_89 rfl d_Tape_isName_36 ?_
                    refine V_aload_n 0 d_Tape_isName_39 rfl rfl ?_
                    refine N_getK fa_Tape_19 sk_89 rfl d_Tape_isName_40 fK ?_
                    refine V_iload_n 3 d_Tape_isName_43 rfl rfl ?_
                    refine V_iadd fE tc_3 (by (first | decide +kernel | with_reducible assumption | omega)) d_Tape_isName_44 (fun z38 z38e z38E => ?_)
                    refine N_bald sk_90 z38E (by (first | decide +kernel | with_reducible assumption | omega)) d_Tape_isName_45 (fun z39 z39Z z39E z39e => ?_)
                    have g40 : z39Z = b (fZ + 3) := TP_rd (TP_fr f0 (fun _ => rfl) hy0) (by (first | decide +kernel | with_reducible assumption | omega)) z39E z39e
                    refine V_aload_n 1 d_Tape_isName_46 rfl rfl ?_
                    refine V_iload_n 3 d_Tape_isName_47 rfl rfl ?_
                    refine N_callVSI [.int 3] [.int z39] cv_Tape_47 sH rfl d_Tape_isName_48 rfl (Nat.le_of_ble_eq_true rfl) (by decide) (by decide) (c_Str_charAt h 11 sH 3 3 tc_3 (by decide)) (fun z41 h42 z41Z z41E p43 => ?_)
                    obtain ⟨eh42, p43⟩ := p43
                    subst eh42
                    obtain rfl : z41 = 112 := p43.trans rfl
                    refine V_icmp_eq 56 z39E tc_112 d_Tape_isName_51 (by decide) (fun c44 => ?_) (fun c44 => ?_)
                    ·
                      refine V_iinc (v := 4) 3 [some (.ref 89), some (.ref (135 + 11)), some (.int 5), some (.int 4)] d_Tape_isName_56 rfl (by decide) (by decide) rfl rfl ?_
                      refine V_goto 30 d_Tape_isName_59 (by decide) ?_
                      refine V_iload_n 3 d_Tape_isName_30 rfl rfl ?_
                      refine V_iload_n 2 d_Tape_isName_31 rfl rfl ?_
                      refine V_icmp_ge 62 tc_4 tc_5 d_Tape_isName_32 (by decide) (fun c46 => ?_) (fun c46 => ?_)
                      ·
                        exact absurd c46 (by decide)
                      ·
                        refine V_aload_n 0 d_Tape_isName_35 rfl rfl ?_
                        refine V_getR fa_Tape_9 sk_89 rfl d_Tape_isName_36 ?_
                        refine V_aload_n 0 d_Tape_isName_39 rfl rfl ?_
                        refine N_getK fa_Tape_19 sk_89 rfl d_Tape_isName_40 fK ?_
                        refine V_iload_n 3 d_Tape_isName_43 rfl rfl ?_
                        refine V_iadd fE tc_4 (by (first | decide +kernel | with_reducible assumption | omega)) d_Tape_isName_44 (fun z47 z47e z47E => ?_)
                        refine N_bald sk_90 z47E (by (first | decide +kernel | with_reducible assumption | omega)) d_Tape_isName_45 (fun z48 z48Z z48E z48e => ?_)
                        have g49 : z48Z = b (fZ + 4) := TP_rd (TP_fr f0 (fun _ => rfl) hy0) (by (first | decide +kernel | with_reducible assumption | omega)) z48E z48e
                        refine V_aload_n 1 d_Tape_isName_46 rfl rfl ?_
                        refine V_iload_n 3 d_Tape_isName_47 rfl rfl ?_
                        refine N_callVSI [.int 4] [.int z48] cv_Tape_47 sH rfl d_Tape_isName_48 rfl (Nat.le_of_ble_eq_true rfl) (by decide) (by decide) (c_Str_charAt h 11 sH 4 4 tc_4 (by decide)) (fun z50 h51 z50Z z50E p52 => ?_)
                        obtain ⟨eh51, p52⟩ := p52
                        subst eh51
                        obtain rfl : z50 = 115 := p52.trans rfl
                        refine V_icmp_eq 56 z48E tc_115 d_Tape_isName_51 (by decide) (fun c53 => ?_) (fun c53 => ?_)
                        ·
                          refine V_iinc (v := 5) 3 [some (.ref 89), some (.ref (135 + 11)), some (.int 5), some (.int 5)] d_Tape_isName_56 rfl (by decide) (by decide) rfl rfl ?_
                          refine V_goto 30 d_Tape_isName_59 (by decide) ?_
                          refine V_iload_n 3 d_Tape_isName_30 rfl rfl ?_
                          refine V_iload_n 2 d_Tape_isName_31 rfl rfl ?_
                          refine V_icmp_ge 62 tc_5 tc_5 d_Tape_isName_32 (by decide) (fun c55 => ?_) (fun c55 => ?_)
                          ·
                            refine V_iconst 1 d_Tape_isName_62 (by decide) ?_
                            exact V_zret rfl (by decide) d_Tape_isName_63 ⟨1, rfl, ⟨rfl, (Or.inr ⟨by (first | decide +kernel | with_reducible assumption | omega), tc_1.trans (x_nmy11 (b := b) (f := fZ) (e := uZ) (by (first | decide +kernel | with_reducible assumption | omega))).symm⟩)⟩⟩
                          ·
                            exact absurd c55 (by decide)
                        ·
                          refine V_iconst 0 d_Tape_isName_54 (by decide) ?_
                          exact V_zret rfl (by decide) d_Tape_isName_55 ⟨0, rfl, ⟨rfl, (Or.inr ⟨by (first | decide +kernel | with_reducible assumption | omega), tc_0.trans (x_nmn11 (b := b) (f := fZ) (e := uZ) (by (first | decide +kernel | with_reducible assumption | omega))).symm⟩)⟩⟩
                    ·
                      refine V_iconst 0 d_Tape_isName_54 (by decide) ?_
                      exact V_zret rfl (by decide) d_Tape_isName_55 ⟨0, rfl, ⟨rfl, (Or.inr ⟨by (first | decide +kernel | with_reducible assumption | omega), tc_0.trans (x_nmn11 (b := b) (f := fZ) (e := uZ) (by (first | decide +kernel | with_reducible assumption | omega))).symm⟩)⟩⟩
                ·
                  refine V_iconst 0 d_Tape_isName_54 (by decide) ?_
                  exact V_zret rfl (by decide) d_Tape_isName_55 ⟨0, rfl, ⟨rfl, (Or.inr ⟨by (first | decide +kernel | with_reducible assumption | omega), tc_0.trans (x_nmn11 (b := b) (f := fZ) (e := uZ) (by (first | decide +kernel | with_reducible assumption | omega))).symm⟩)⟩⟩
            ·
              refine V_iconst 0 d_Tape_isName_54 (by decide) ?_
              exact V_zret rfl (by decide) d_Tape_isName_55 ⟨0, rfl, ⟨rfl, (Or.inr ⟨by (first | decide +kernel | with_reducible assumption | omega), tc_0.trans (x_nmn11 (b := b) (f := fZ) (e := uZ) (by (first | decide +kernel | with_reducible assumption | omega))).symm⟩)⟩⟩
        ·
          refine V_iconst 0 d_Tape_isName_54 (by decide) ?_
          exact V_zret rfl (by decide) d_Tape_isName_55 ⟨0, rfl, ⟨rfl, (Or.inr ⟨by (first | decide +kernel | with_reducible assumption | omega), tc_0.trans (x_nmn11 (b := b) (f := fZ) (e := uZ) (by (first | decide +kernel | with_reducible assumption | omega))).symm⟩)⟩⟩
    ·
      refine V_iconst 0 d_Tape_isName_26 (by decide) ?_
      exact V_zret rfl (by decide) d_Tape_isName_27 ⟨0, rfl, ⟨rfl, (if q : qZ = 1 then Or.inr ⟨q, tc_0.trans (x_nmn11 (b := b) (f := fZ) (e := uZ) (by (first | decide +kernel | with_reducible assumption | omega))).symm⟩ else Or.inl ⟨q, rfl⟩)⟩⟩
abbrev q_Tape_isNameX_12 (h : Hp) (b : Int → Int) (s : Int32) (sZ : Int) (q : Int32) (qZ : Int) (f : Int32) (fZ : Int) (u : Int32) (uZ : Int) : Option Value → Hp → Prop := pInt (fun r h' => h = h' ∧ (qZ ≠ 1 ∧ r.toInt = 0 ∨ qZ = 1 ∧ r.toInt = x_nm12 b fZ uZ))
set_option maxRecDepth 100000 in
theorem c_Tape_isNameX_12 (h : Hp) (b : Int → Int) (hI : Inv h) (s : Int32) (sZ : Int) (sE : s.toInt = sZ) (sK : h.1 89 1 = s) (q : Int32) (qZ : Int) (qE : q.toInt = qZ) (qK : h.1 89 2 = q) (f : Int32) (fZ : Int) (fE : f.toInt = fZ) (fK : h.1 89 3 = f) (u : Int32) (uZ : Int) (uE : u.toInt = uZ) (uK : h.1 89 4 = u) (hy0 : TP h 90 sZ b) (hy1 : 0 ≤ fZ ∧ fZ ≤ uZ ∧ uZ ≤ sZ ∧ sZ ≤ 160) : Ct y_Tape_isName b_Tape_isName 4 (some .boolean) 4 85 [.ref 89, .ref (135 + 12)] h (q_Tape_isNameX_12 h b s sZ q qZ f fZ u uZ) := by
  refine ct_ow R_Tape [some (.ref 89), some (.ref (135 + 12)), none, none] rfl (by decide) rfl (Nat.le_of_ble_eq_true rfl) ?_
  have f0 : fr [] h h := fr_rf
  have g1 : 0 ≤ sZ ∧ sZ ≤ 160 := inv_at hI sE sK.symm rfl
  have g2 : 0 ≤ fZ ∧ fZ ≤ 160 := inv_at hI fE fK.symm rfl
  have g3 : 0 ≤ uZ ∧ uZ ≤ 160 := inv_at hI uE uK.symm rfl
  have sH : 12 < 14 := by decide
  refine V_aload_n 1 d_Tape_isName_0 rfl rfl ?_
  refine N_callVSI [] [] cv_Tape_41 sH rfl d_Tape_isName_1 rfl (Nat.le_of_ble_eq_true rfl) (by decide) (by decide) (c_Str_length h 12 sH) (fun z4 h5 z4Z z4E p6 => ?_)
  obtain ⟨eh5, p6⟩ := p6
  subst eh5
  rw [z4E] at p6
  obtain rfl : z4 = 6 := (ti_eq z4E (show (6 : Int32).toInt = 6 from rfl)).mpr (p6.trans rfl)
  refine V_istore_n 2 [some (.ref 89), some (.ref (135 + 12)), some (.int 6), none] d_Tape_isName_4 rfl (by decide) rfl rfl ?_
  refine V_aload_n 0 d_Tape_isName_5 rfl rfl ?_
  refine N_getK fa_Tape_25 sk_89 rfl d_Tape_isName_6 qK ?_
  refine V_iconst 1 d_Tape_isName_9 (by decide) ?_
  refine V_icmp_ne 26 qE tc_1 d_Tape_isName_10 (by decide) (fun c7 => ?_) (fun c7 => ?_)
  ·
    refine V_iconst 0 d_Tape_isName_26 (by decide) ?_
    exact V_zret rfl (by decide) d_Tape_isName_27 ⟨0, rfl, ⟨rfl, (if q : qZ = 1 then Or.inr ⟨q, tc_0.trans (x_nmn12 (b := b) (f := fZ) (e := uZ) (by (first | decide +kernel | with_reducible assumption | omega))).symm⟩ else Or.inl ⟨q, rfl⟩)⟩⟩
  ·
    refine V_aload_n 0 d_Tape_isName_13 rfl rfl ?_
    refine N_getK fa_Tape_15 sk_89 rfl d_Tape_isName_14 uK ?_
    refine V_aload_n 0 d_Tape_isName_17 rfl rfl ?_
    refine N_getK fa_Tape_19 sk_89 rfl d_Tape_isName_18 fK ?_
    refine V_isub uE fE (by (first | decide +kernel | with_reducible assumption | omega)) d_Tape_isName_21 (fun z8 z8e z8E => ?_)
    refine V_iload_n 2 d_Tape_isName_22 rfl rfl ?_
    refine V_icmp_eq 28 z8E tc_6 d_Tape_isName_23 (by decide) (fun c9 => ?_) (fun c9 => ?_)
    ·
      refine V_iconst 0 d_Tape_isName_28 (by decide) ?_
      refine V_istore_n 3 [some (.ref 89), some (.ref (135 + 12)), some (.int 6), some (.int 0)] d_Tape_isName_29 rfl (by decide) rfl rfl ?_
      refine V_iload_n 3 d_Tape_isName_30 rfl rfl ?_
      refine V_iload_n 2 d_Tape_isName_31 rfl rfl ?_
      refine V_icmp_ge 62 tc_0 tc_6 d_Tape_isName_32 (by decide) (fun c10 => ?_) (fun c10 => ?_)
      ·
        exact absurd c10 (by decide)
      ·
        refine V_aload_n 0 d_Tape_isName_35 rfl rfl ?_
        refine V_getR fa_Tape_9 sk_89 rfl d_Tape_isName_36 ?_
        refine V_aload_n 0 d_Tape_isName_39 rfl rfl ?_
        refine N_getK fa_Tape_19 sk_89 rfl d_Tape_isName_40 fK ?_
        refine V_iload_n 3 d_Tape_isName_43 rfl rfl ?_
        refine V_iadd fE tc_0 (by (first | decide +kernel | with_reducible assumption | omega)) d_Tape_isName_44 (fun z11 z11e z11E => ?_)
        refine N_bald sk_90 z11E (by (first | decide +kernel | with_reducible assumption | omega)) d_Tape_isName_45 (fun z12 z12Z z12E z12e => ?_)
        have g13 : z12Z = b (fZ + 0) := TP_rd (TP_fr f0 (fun _ => rfl) hy0) (by (first | decide +kernel | with_reducible assumption | omega)) z12E z12e
        refine V_aload_n 1 d_Tape_isName_46 rfl rfl ?_
        refine V_iload_n 3 d_Tape_isName_47 rfl rfl ?_
        refine N_callVSI [.int 0] [.int z12] cv_Tape_47 sH rfl d_Tape_isName_48 rfl (Nat.le_of_ble_eq_true rfl) (by decide) (by decide) (c_Str_charAt h 12 sH 0 0 tc_0 (by decide)) (fun z14 h15 z14Z z14E p16 => ?_)
        obtain ⟨eh15, p16⟩ := p16
        subst eh15
        obtain rfl : z14 = 119 := p16.trans rfl
        refine V_icmp_eq 56 z12E tc_119 d_Tape_isName_51 (by decide) (fun c17 => ?_) (fun c17 => ?_)
        ·
          refine V_iinc (v := 1) 3 [some (.ref 89), some (.ref (135 + 12)), some (.int 6), some (.int 1)] d_Tape_isName_56 rfl (by decide) (by decide) rfl rfl ?_
          refine V_goto 30 d_Tape_isName_59 (by decide) ?_
          refine V_iload_n 3 d_Tape_isName_30 rfl rfl ?_
          refine V_iload_n 2 d_Tape_isName_31 rfl rfl ?_
          refine V_icmp_ge 62 tc_1 tc_6 d_Tape_isName_32 (by decide) (fun c19 => ?_) (fun c19 => ?_)
          ·
            exact absurd c19 (by decide)
          ·
            refine V_aload_n 0 d_Tape_isName_35 rfl rfl ?_
            refine V_getR fa_Tape_9 sk_89 rfl d_Tape_isName_36 ?_
            refine V_aload_n 0 d_Tape_isName_39 rfl rfl ?_
            refine N_getK fa_Tape_19 sk_89 rfl d_Tape_isName_40 fK ?_
            refine V_iload_n 3 d_Tape_isName_43 rfl rfl ?_
            refine V_iadd fE tc_1 (by (first | decide +kernel | with_reducible assumption | omega)) d_Tape_isName_44 (fun z20 z20e z20E => ?_)
            refine N_bald sk_90 z20E (by (first | decide +kernel | with_reducible assumption | omega)) d_Tape_isName_45 (fun z21 z21Z z21E z21e => ?_)
            have g22 : z21Z = b (fZ + 1) := TP_rd (TP_fr f0 (fun _ => rfl) hy0) (by (first | decide +kernel | with_reducible assumption | omega)) z21E z21e
            refine V_aload_n 1 d_Tape_isName_46 rfl rfl ?_
            refine V_iload_n 3 d_Tape_isName_47 rfl rfl ?_
            refine N_callVSI [.int 1] [.int z21] cv_Tape_47 sH rfl d_Tape_isName_48 rfl (Nat.le_of_ble_eq_true rfl) (by decide) (by decide) (c_Str_charAt h 12 sH 1 1 tc_1 (by decide)) (fun z23 h24 z23Z z23E p25 => ?_)
            obtain ⟨eh24, p25⟩ := p25
            subst eh24
            obtain rfl : z23 = 105 := p25.trans rfl
            refine V_icmp_eq 56 z21E tc_105 d_Tape_isName_51 (by decide) (fun c26 => ?_) (fun c26 => ?_)
            ·
              refine V_iinc (v := 2) 3 [some (.ref 89), some (.ref (135 + 12)), some (.int 6), some (.int 2)] d_Tape_isName_56 rfl (by decide) (by decide) rfl rfl ?_
              refine V_goto 30 d_Tape_isName_59 (by decide) ?_
              refine V_iload_n 3 d_Tape_isName_30 rfl rfl ?_
              refine V_iload_n 2 d_Tape_isName_31 rfl rfl ?_
              refine V_icmp_ge 62 tc_2 tc_6 d_Tape_isName_32 (by decide) (fun c28 => ?_) (fun c28 => ?_)
              ·
                exact absurd c28 (by decide)
              ·
                refine V_aload_n 0 d_Tape_isName_35 rfl rfl ?_
                refine V_getR fa_Tape_9 sk_89 rfl d_Tape_isName_36 ?_
                refine V_aload_n 0 d_Tape_isName_39 rfl rfl ?_
                refine N_getK fa_Tape_19 sk_89 rfl d_Tape_isName_40 fK ?_
                refine V_iload_n 3 d_Tape_isName_43 rfl rfl ?_
                refine V_iadd fE tc_2 (by (first | decide +kernel | with_reducible assumption | omega)) d_Tape_isName_44 (fun z29 z29e z29E => ?_)
                refine N_bald sk_90 z29E (by (first | decide +kernel | with_reducible assumption | omega)) d_Tape_isName_45 (fun z30 z30Z z30E z30e => ?_)
                have g31 : z30Z = b (fZ + 2) := TP_rd (TP_fr f0 (fun _ => rfl) hy0) (by (first | decide +kernel | with_reducible assumption | omega)) z30E z30e
                refine V_aload_n 1 d_Tape_isName_46 rfl rfl ?_
                refine V_iload_n 3 d_Tape_isName_47 rfl rfl ?_
                refine N_callVSI [.int 2] [.int z30] cv_Tape_47 sH rfl d_Tape_isName_48 rfl (Nat.le_of_ble_eq_true rfl) (by decide) (by decide) (c_Str_charAt h 12 sH 2 2 tc_2 (by decide)) (fun z32 h33 z32Z z32E p34 => ?_)
                obtain ⟨eh33, p34⟩ := p34
                subst eh33
                obtain rfl : z32 = 115 := p34.trans rfl
                refine V_icmp_eq 56 z30E tc_115 d_Tape_isName_51 (by decide) (fun c35 => ?_) (fun c35 => ?_)
                ·
                  refine V_iinc (v := 3) 3 [some (.ref 89), some (.ref (135 + 12)), some (.int 6), some (.int 3)] d_Tape_isName_56 rfl (by decide) (by decide) rfl rfl ?_
                  refine V_goto 30 d_Tape_isName_59 (by decide) ?_
                  refine V_iload_n 3 d_Tape_isName_30 rfl rfl ?_
                  refine V_iload_n 2 d_Tape_isName_31 rfl rfl ?_
                  refine V_icmp_ge 62 tc_3 tc_6 d_Tape_isName_32 (by decide) (fun c37 => ?_) (fun c37 => ?_)
                  ·
                    exact absurd c37 (by decide)
                  ·
                    refine V_aload_n 0 d_Tape_isName_35 rfl rfl ?_
                    refine V_getR fa_Tape_9 sk_89 rfl d_Tape_isName_36 ?_
                    refine V_aload_n 0 d_Tape_isName_39 rfl rfl ?_
                    refine N_getK fa_Tape_19 sk_89 rfl d_Tape_isName_40 fK ?_
                    refine V_iload_n 3 d_Tape_isName_43 rfl rfl ?_
                    refine V_iadd fE tc_3 (by (first | decide +kernel | with_reducible assumption | omega)) d_Tape_isName_44 (fun z38 z38e z38E => ?_)
                    refine N_bald sk_90 z38E (by (first | decide +kernel | with_reducible assumption | omega)) d_Tape_isName_45 (fun z39 z39Z z39E z39e => ?_)
                    have g40 : z39Z = b (fZ + 3) := TP_rd (TP_fr f0 (fun _ => rfl) hy0) (by (first | decide +kernel | with_reducible assumption | omega)) z39E z39e
                    refine V_aload_n 1 d_Tape_isName_46 rfl rfl ?_
                    refine V_iload_n 3 d_Tape_isName_47 rfl rfl ?_
                    refine N_callVSI [.int 3] [.int z39] cv_Tape_47 sH rfl d_Tape_isName_48 rfl (Nat.le_of_ble_eq_true rfl) (by decide) (by decide) (c_Str_charAt h 12 sH 3 3 tc_3 (by decide)) (fun z41 h42 z41Z z41E p43 => ?_)
                    obtain ⟨eh42, p43⟩ := p43
                    subst eh42
                    obtain rfl : z41 = 104 := p43.trans rfl
                    refine V_icmp_eq 56 z39E tc_104 d_Tape_isName_51 (by decide) (fun c44 => ?_) (fun c44 => ?_)
                    ·
                      refine V_iinc (v := 4) 3 [some (.ref 89), some (.ref (135 + 12)), some (.int 6), some (.int 4)] d_Tape_isName_56 rfl (by decide) (by decide) rfl rfl ?_
                      refine V_goto 30 d_Tape_isName_59 (by decide) ?_
                      refine V_iload_n 3 d_Tape_isName_30 rfl rfl ?_
                      refine V_iload_n 2 d_Tape_isName_31 rfl rfl ?_
                      refine V_icmp_ge 62 tc_4 tc_6 d_Tape_isName_32 (by decide) (fun c46 => ?_) (fun c46 => ?_)
                      ·
                        exact absurd c46 (by decide)
                      ·
                        refine V_aload_n 0 d_Tape_isName_35 rfl rfl ?_
                        refine V_getR fa_Tape_9 sk_89 rfl d_Tape_isName_36 ?_
                        refine V_aload_n 0 d_Tape_isName_39 rfl rfl ?_
                        refine N_getK fa_Tape_19 sk_89 rfl d_Tape_isName_40 fK ?_
                        refine V_iload_n 3 d_Tape_isName_43 rfl rfl ?_
                        refine V_iadd fE tc_4 (by (first | decide +kernel | with_reducible assumption | omega)) d_Tape_isName_44 (fun z47 z47e z47E => ?_)
                        refine N_bald sk_90 z47E (by (first | decide +kernel | with_reducible assumption | omega)) d_Tape_isName_45 (fun z48 z48Z z48E z48e => ?_)
                        have g49 : z48Z = b (fZ + 4) := TP_rd (TP_fr f0 (fun _ => rfl) hy0) (by (first | decide +kernel | with_reducible assumption | omega)) z48E z48e
                        refine V_aload_n 1 d_Tape_isName_46 rfl rfl ?_
                        refine V_iload_n 3 d_Tape_isName_47 rfl rfl ?_
                        refine N_callVSI [.int 4] [.int z48] cv_Tape_47 sH rfl d_Tape_isName_48 rfl (Nat.le_of_ble_eq_true rfl) (by decide) (by decide) (c_Str_charAt h 12 sH 4 4 tc_4 (by decide)) (fun z50 h51 z50Z z50E p52 => ?_)
                        obtain ⟨eh51, p52⟩ := p52
                        subst eh51
                        obtain rfl : z50 = 101 := p52.trans rfl
                        refine V_icmp_eq 56 z48E tc_101 d_Tape_isName_51 (by decide) (fun c53 => ?_) (fun c53 => ?_)
                        ·
                          refine V_iinc (v := 5) 3 [some (.ref 89), some (.ref (135 + 12)), some (.int 6), some (.int 5)] d_Tape_isName_56 rfl (by decide) (by decide) rfl rfl ?_
                          refine V_goto 30 d_Tape_isName_59 (by decide) ?_
                          refine V_iload_n 3 d_Tape_isName_30 rfl rfl ?_
                          refine V_iload_n 2 d_Tape_isName_31 rfl rfl ?_
                          refine V_icmp_ge 62 tc_5 tc_6 d_Tape_isName_32 (by decide) (fun c55 => ?_) (fun c55 => ?_)
                          ·
                            exact absurd c55 (by decide)
                          ·
                            refine V_aload_n 0 d_Tape_isName_35 rfl rfl ?_
                            refine V_getR fa_Tape_9 sk_89 rfl d_Tape_isName_36 ?_
                            refine V_aload_n 0 d_Tape_isName_39 rfl rfl ?_
                            refine N_getK fa_Tape_19 sk_89 rfl d_Tape_isName_40 fK ?_
                            refine V_iload_n 3 d_Tape_isName_43 rfl rfl ?_
                            refine V_iadd fE tc_5 (by (first | decide +kernel | with_reducible assumption | omega)) d_Tape_isName_44 (fun z56 z56e z56E => ?_)
                            refine N_bald sk_90 z56E (by (first | decide +kernel | with_reducible assumption | omega)) d_Tape_isName_45 (fun z57 z57Z z57E z57e => ?_)
                            have g58 : z57Z = b (fZ + 5) := TP_rd (TP_fr f0 (fun _ => rfl) hy0) (by (first | decide +kernel | with_reducible assumption | omega)) z57E z57e
                            refine V_aload_n 1 d_Tape_isName_46 rfl rfl ?_
                            refine V_iload_n 3 d_Tape_isName_47 rfl rfl ?_
                            refine N_callVSI [.int 5] [.int z57] cv_Tape_47 sH rfl d_Tape_isName_48 rfl (Nat.le_of_ble_eq_true rfl) (by decide) (by decide) (c_Str_charAt h 12 sH 5 5 tc_5 (by decide)) (fun z59 h60 z59Z z59E p61 => ?_)
                            obtain ⟨eh60, p61⟩ := p61
                            subst eh60
                            obtain rfl : z59 = 115 := p61.trans rfl
                            refine V_icmp_eq 56 z57E tc_115 d_Tape_isName_51 (by decide) (fun c62 => ?_) (fun c62 => ?_)
                            ·
                              refine V_iinc (v := 6) 3 [some (.ref 89), some (.ref (135 + 12)), some (.int 6), some (.int 6)] d_Tape_isName_56 rfl (by decide) (by decide) rfl rfl ?_
                              refine V_goto 30 d_Tape_isName_59 (by decide) ?_
                              refine V_iload_n 3 d_Tape_isName_30 rfl rfl ?_
                              refine V_iload_n 2 d_Tape_isName_31 rfl rfl ?_
                              refine V_icmp_ge 62 tc_6 tc_6 d_Tape_isName_32 (by decide) (fun c64 => ?_) (fun c64 => ?_)
                              ·
                                refine V_iconst 1 d_Tape_isName_62 (by decide) ?_
                                exact V_zret rfl (by decide) d_Tape_isName_63 ⟨1, rfl, ⟨rfl, (Or.inr ⟨by (first | decide +kernel | with_reducible assumption | omega), tc_1.trans (x_nmy12 (b := b) (f := fZ) (e := uZ) (by (first | decide +kernel | with_reducible assumption | omega))).symm⟩)⟩⟩
                              ·
                                exact absurd c64 (by decide)
                            ·
                              refine V_iconst 0 d_Tape_isName_54 (by decide) ?_
                              exact V_zret rfl (by decide) d_Tape_isName_55 ⟨0, rfl, ⟨rfl, (Or.inr ⟨by (first | decide +kernel | with_reducible assumption | omega), tc_0.trans (x_nmn12 (b := b) (f := fZ) (e := uZ) (by (first | decide +kernel | with_reducible assumption | omega))).symm⟩)⟩⟩
                        ·
                          refine V_iconst 0 d_Tape_isName_54 (by decide) ?_
                          exact V_zret rfl (by decide) d_Tape_isName_55 ⟨0, rfl, ⟨rfl, (Or.inr ⟨by (first | decide +kernel | with_reducible assumption | omega), tc_0.trans (x_nmn12 (b := b) (f := fZ) (e := uZ) (by (first | decide +kernel | with_reducible assumption | omega))).symm⟩)⟩⟩
                    ·
                      refine V_iconst 0 d_Tape_isName_54 (by decide) ?_
                      exact V_zret rfl (by decide) d_Tape_isName_55 ⟨0, rfl, ⟨rfl, (Or.inr ⟨by (first | decide +kernel | with_reducible assumption | omega), tc_0.trans (x_nmn12 (b := b) (f := fZ) (e := uZ) (by (first | decide +kernel | with_reducible assumption | omega))).symm⟩)⟩⟩
                ·
                  refine V_iconst 0 d_Tape_isName_54 (by decide) ?_
                  exact V_zret rfl (by decide) d_Tape_isName_55 ⟨0, rfl, ⟨rfl, (Or.inr ⟨by (first | decide +kernel | with_reducible assumption | omega), tc_0.trans (x_nmn12 (b := b) (f := fZ) (e := uZ) (by (first | decide +kernel | with_reducible assumption | omega))).symm⟩)⟩⟩
            ·
              refine V_iconst 0 d_Tape_isName_54 (by decide) ?_
              exact V_zret rfl (by decide) d_Tape_isName_55 ⟨0, rfl, ⟨rfl, (Or.inr ⟨by (first | decide +kernel | with_reducible assumption | omega), tc_0.trans (x_nmn12 (b := b) (f := fZ) (e := uZ) (by (first | decide +kernel | with_reducible assumption | omega))).symm⟩)⟩⟩
        ·
          refine V_iconst 0 d_Tape_isName_54 (by decide) ?_
          exact V_zret rfl (by decide) d_Tape_isName_55 ⟨0, rfl, ⟨rfl, (Or.inr ⟨by (first | decide +kernel | with_reducible assumption | omega), tc_0.trans (x_nmn12 (b := b) (f := fZ) (e := uZ) (by (first | decide +kernel | with_reducible assumption | omega))).symm⟩)⟩⟩
    ·
      refine V_iconst 0 d_Tape_isName_26 (by decide) ?_
      exact V_zret rfl (by decide) d_Tape_isName_27 ⟨0, rfl, ⟨rfl, (if q : qZ = 1 then Or.inr ⟨q, tc_0.trans (x_nmn12 (b := b) (f := fZ) (e := uZ) (by (first | decide +kernel | with_reducible assumption | omega))).symm⟩ else Or.inl ⟨q, rfl⟩)⟩⟩
abbrev q_Tape_isNameX_13 (h : Hp) (b : Int → Int) (s : Int32) (sZ : Int) (q : Int32) (qZ : Int) (f : Int32) (fZ : Int) (u : Int32) (uZ : Int) : Option Value → Hp → Prop := pInt (fun r h' => h = h' ∧ (qZ ≠ 1 ∧ r.toInt = 0 ∨ qZ = 1 ∧ r.toInt = x_nm13 b fZ uZ))
set_option maxRecDepth 100000 in
theorem c_Tape_isNameX_13 (h : Hp) (b : Int → Int) (hI : Inv h) (s : Int32) (sZ : Int) (sE : s.toInt = sZ) (sK : h.1 89 1 = s) (q : Int32) (qZ : Int) (qE : q.toInt = qZ) (qK : h.1 89 2 = q) (f : Int32) (fZ : Int) (fE : f.toInt = fZ) (fK : h.1 89 3 = f) (u : Int32) (uZ : Int) (uE : u.toInt = uZ) (uK : h.1 89 4 = u) (hy0 : TP h 90 sZ b) (hy1 : 0 ≤ fZ ∧ fZ ≤ uZ ∧ uZ ≤ sZ ∧ sZ ≤ 160) : Ct y_Tape_isName b_Tape_isName 4 (some .boolean) 4 85 [.ref 89, .ref (135 + 13)] h (q_Tape_isNameX_13 h b s sZ q qZ f fZ u uZ) := by
  refine ct_ow R_Tape [some (.ref 89), some (.ref (135 + 13)), none, none] rfl (by decide) rfl (Nat.le_of_ble_eq_true rfl) ?_
  have f0 : fr [] h h := fr_rf
  have g1 : 0 ≤ sZ ∧ sZ ≤ 160 := inv_at hI sE sK.symm rfl
  have g2 : 0 ≤ fZ ∧ fZ ≤ 160 := inv_at hI fE fK.symm rfl
  have g3 : 0 ≤ uZ ∧ uZ ≤ 160 := inv_at hI uE uK.symm rfl
  have sH : 13 < 14 := by decide
  refine V_aload_n 1 d_Tape_isName_0 rfl rfl ?_
  refine N_callVSI [] [] cv_Tape_41 sH rfl d_Tape_isName_1 rfl (Nat.le_of_ble_eq_true rfl) (by decide) (by decide) (c_Str_length h 13 sH) (fun z4 h5 z4Z z4E p6 => ?_)
  obtain ⟨eh5, p6⟩ := p6
  subst eh5
  rw [z4E] at p6
  obtain rfl : z4 = 4 := (ti_eq z4E (show (4 : Int32).toInt = 4 from rfl)).mpr (p6.trans rfl)
  refine V_istore_n 2 [some (.ref 89), some (.ref (135 + 13)), some (.int 4), none] d_Tape_isName_4 rfl (by decide) rfl rfl ?_
  refine V_aload_n 0 d_Tape_isName_5 rfl rfl ?_
  refine N_getK fa_Tape_25 sk_89 rfl d_Tape_isName_6 qK ?_
  refine V_iconst 1 d_Tape_isName_9 (by decide) ?_
  refine V_icmp_ne 26 qE tc_1 d_Tape_isName_10 (by decide) (fun c7 => ?_) (fun c7 => ?_)
  ·
    refine V_iconst 0 d_Tape_isName_26 (by decide) ?_
    exact V_zret rfl (by decide) d_Tape_isName_27 ⟨0, rfl, ⟨rfl, (if q : qZ = 1 then Or.inr ⟨q, tc_0.trans (x_nmn13 (b := b) (f := fZ) (e := uZ) (by (first | decide +kernel | with_reducible assumption | omega))).symm⟩ else Or.inl ⟨q, rfl⟩)⟩⟩
  ·
    refine V_aload_n 0 d_Tape_isName_13 rfl rfl ?_
    refine N_getK fa_Tape_15 sk_89 rfl d_Tape_isName_14 uK ?_
    refine V_aload_n 0 d_Tape_isName_17 rfl rfl ?_
    refine N_getK fa_Tape_19 sk_89 rfl d_Tape_isName_18 fK ?_
    refine V_isub uE fE (by (first | decide +kernel | with_reducible assumption | omega)) d_Tape_isName_21 (fun z8 z8e z8E => ?_)
    refine V_iload_n 2 d_Tape_isName_22 rfl rfl ?_
    refine V_icmp_eq 28 z8E tc_4 d_Tape_isName_23 (by decide) (fun c9 => ?_) (fun c9 => ?_)
    ·
      refine V_iconst 0 d_Tape_isName_28 (by decide) ?_
      refine V_istore_n 3 [some (.ref 89), some (.ref (135 + 13)), some (.int 4), some (.int 0)] d_Tape_isName_29 rfl (by decide) rfl rfl ?_
      refine V_iload_n 3 d_Tape_isName_30 rfl rfl ?_
      refine V_iload_n 2 d_Tape_isName_31 rfl rfl ?_
      refine V_icmp_ge 62 tc_0 tc_4 d_Tape_isName_32 (by decide) (fun c10 => ?_) (fun c10 => ?_)
      ·
        exact absurd c10 (by decide)
      ·
        refine V_aload_n 0 d_Tape_isName_35 rfl rfl ?_
        refine V_getR fa_Tape_9 sk_89 rfl d_Tape_isName_36 ?_
        refine V_aload_n 0 d_Tape_isName_39 rfl rfl ?_
        refine N_getK fa_Tape_19 sk_89 rfl d_Tape_isName_40 fK ?_
        refine V_iload_n 3 d_Tape_isName_43 rfl rfl ?_
        refine V_iadd fE tc_0 (by (first | decide +kernel | with_reducible assumption | omega)) d_Tape_isName_44 (fun z11 z11e z11E => ?_)
        refine N_bald sk_90 z11E (by (first | decide +kernel | with_reducible assumption | omega)) d_Tape_isName_45 (fun z12 z12Z z12E z12e => ?_)
        have g13 : z12Z = b (fZ + 0) := TP_rd (TP_fr f0 (fun _ => rfl) hy0) (by (first | decide +kernel | with_reducible assumption | omega)) z12E z12e
        refine V_aload_n 1 d_Tape_isName_46 rfl rfl ?_
        refine V_iload_n 3 d_Tape_isName_47 rfl rfl ?_
        refine N_callVSI [.int 0] [.int z12] cv_Tape_47 sH rfl d_Tape_isName_48 rfl (Nat.le_of_ble_eq_true rfl) (by decide) (by decide) (c_Str_charAt h 13 sH 0 0 tc_0 (by decide)) (fun z14 h15 z14Z z14E p16 => ?_)
        obtain ⟨eh15, p16⟩ := p16
        subst eh15
        obtain rfl : z14 = 98 := p16.trans rfl
        refine V_icmp_eq 56 z12E tc_98 d_Tape_isName_51 (by decide) (fun c17 => ?_) (fun c17 => ?_)
        ·
          refine V_iinc (v := 1) 3 [some (.ref 89), some (.ref (135 + 13)), some (.int 4), some (.int 1)] d_Tape_isName_56 rfl (by decide) (by decide) rfl rfl ?_
          refine V_goto 30 d_Tape_isName_59 (by decide) ?_
          refine V_iload_n 3 d_Tape_isName_30 rfl rfl ?_
          refine V_iload_n 2 d_Tape_isName_31 rfl rfl ?_
          refine V_icmp_ge 62 tc_1 tc_4 d_Tape_isName_32 (by decide) (fun c19 => ?_) (fun c19 => ?_)
          ·
            exact absurd c19 (by decide)
          ·
            refine V_aload_n 0 d_Tape_isName_35 rfl rfl ?_
            refine V_getR fa_Tape_9 sk_89 rfl d_Tape_isName_36 ?_
            refine V_aload_n 0 d_Tape_isName_39 rfl rfl ?_
            refine N_getK fa_Tape_19 sk_89 rfl d_Tape_isName_40 fK ?_
            refine V_iload_n 3 d_Tape_isName_43 rfl rfl ?_
            refine V_iadd fE tc_1 (by (first | decide +kernel | with_reducible assumption | omega)) d_Tape_isName_44 (fun z20 z20e z20E => ?_)
            refine N_bald sk_90 z20E (by (first | decide +kernel | with_reducible assumption | omega)) d_Tape_isName_45 (fun z21 z21Z z21E z21e => ?_)
            have g22 : z21Z = b (fZ + 1) := TP_rd (TP_fr f0 (fun _ => rfl) hy0) (by (first | decide +kernel | with_reducible assumption | omega)) z21E z21e
            refine V_aload_n 1 d_Tape_isName_46 rfl rfl ?_
            refine V_iload_n 3 d_Tape_isName_47 rfl rfl ?_
            refine N_callVSI [.int 1] [.int z21] cv_Tape_47 sH rfl d_Tape_isName_48 rfl (Nat.le_of_ble_eq_true rfl) (by decide) (by decide) (c_Str_charAt h 13 sH 1 1 tc_1 (by decide)) (fun z23 h24 z23Z z23E p25 => ?_)
            obtain ⟨eh24, p25⟩ := p25
            subst eh24
            obtain rfl : z23 = 111 := p25.trans rfl
            refine V_icmp_eq 56 z21E tc_111 d_Tape_isName_51 (by decide) (fun c26 => ?_) (fun c26 => ?_)
            ·
              refine V_iinc (v := 2) 3 [some (.ref 89), some (.ref (135 + 13)), some (.int 4), some (.int 2)] d_Tape_isName_56 rfl (by decide) (by decide) rfl rfl ?_
              refine V_goto 30 d_Tape_isName_59 (by decide) ?_
              refine V_iload_n 3 d_Tape_isName_30 rfl rfl ?_
              refine V_iload_n 2 d_Tape_isName_31 rfl rfl ?_
              refine V_icmp_ge 62 tc_2 tc_4 d_Tape_isName_32 (by decide) (fun c28 => ?_) (fun c28 => ?_)
              ·
                exact absurd c28 (by decide)
              ·
                refine V_aload_n 0 d_Tape_isName_35 rfl rfl ?_
                refine V_getR fa_Tape_9 sk_89 rfl d_Tape_isName_36 ?_
                refine V_aload_n 0 d_Tape_isName_39 rfl rfl ?_
                refine N_getK fa_Tape_19 sk_89 rfl d_Tape_isName_40 fK ?_
                refine V_iload_n 3 d_Tape_isName_43 rfl rfl ?_
                refine V_iadd fE tc_2 (by (first | decide +kernel | with_reducible assumption | omega)) d_Tape_isName_44 (fun z29 z29e z29E => ?_)
                refine N_bald sk_90 z29E (by (first | decide +kernel | with_reducible assumption | omega)) d_Tape_isName_45 (fun z30 z30Z z30E z30e => ?_)
                have g31 : z30Z = b (fZ + 2) := TP_rd (TP_fr f0 (fun _ => rfl) hy0) (by (first | decide +kernel | with_reducible assumption | omega)) z30E z30e
                refine V_aload_n 1 d_Tape_isName_46 rfl rfl ?_
                refine V_iload_n 3 d_Tape_isName_47 rfl rfl ?_
                refine N_callVSI [.int 2] [.int z30] cv_Tape_47 sH rfl d_Tape_isName_48 rfl (Nat.le_of_ble_eq_true rfl) (by decide) (by decide) (c_Str_charAt h 13 sH 2 2 tc_2 (by decide)) (fun z32 h33 z32Z z32E p34 => ?_)
                obtain ⟨eh33, p34⟩ := p34
                subst eh33
                obtain rfl : z32 = 116 := p34.trans rfl
                refine V_icmp_eq 56 z30E tc_116 d_Tape_isName_51 (by decide) (fun c35 => ?_) (fun c35 => ?_)
                ·
                  refine V_iinc (v := 3) 3 [some (.ref 89), some (.ref (135 + 13)), some (.int 4), some (.int 3)] d_Tape_isName_56 rfl (by decide) (by decide) rfl rfl ?_
                  refine V_goto 30 d_Tape_isName_59 (by decide) ?_
                  refine V_iload_n 3 d_Tape_isName_30 rfl rfl ?_
                  refine V_iload_n 2 d_Tape_isName_31 rfl rfl ?_
                  refine V_icmp_ge 62 tc_3 tc_4 d_Tape_isName_32 (by decide) (fun c37 => ?_) (fun c37 => ?_)
                  ·
                    exact absurd c37 (by decide)
                  ·
                    refine V_aload_n 0 d_Tape_isName_35 rfl rfl ?_
                    refine V_getR fa_Tape_9 sk_89 rfl d_Tape_isName_36 ?_
                    refine V_aload_n 0 d_Tape_isName_39 rfl rfl ?_
                    refine N_getK fa_Tape_19 sk_89 rfl d_Tape_isName_40 fK ?_
                    refine V_iload_n 3 d_Tape_isName_43 rfl rfl ?_
                    refine V_iadd fE tc_3 (by (first | decide +kernel | with_reducible assumption | omega)) d_Tape_isName_44 (fun z38 z38e z38E => ?_)
                    refine N_bald sk_90 z38E (by (first | decide +kernel | with_reducible assumption | omega)) d_Tape_isName_45 (fun z39 z39Z z39E z39e => ?_)
                    have g40 : z39Z = b (fZ + 3) := TP_rd (TP_fr f0 (fun _ => rfl) hy0) (by (first | decide +kernel | with_reducible assumption | omega)) z39E z39e
                    refine V_aload_n 1 d_Tape_isName_46 rfl rfl ?_
                    refine V_iload_n 3 d_Tape_isName_47 rfl rfl ?_
                    refine N_callVSI [.int 3] [.int z39] cv_Tape_47 sH rfl d_Tape_isName_48 rfl (Nat.le_of_ble_eq_true rfl) (by decide) (by decide) (c_Str_charAt h 13 sH 3 3 tc_3 (by decide)) (fun z41 h42 z41Z z41E p43 => ?_)
                    obtain ⟨eh42, p43⟩ := p43
                    subst eh42
                    obtain rfl : z41 = 104 := p43.trans rfl
                    refine V_icmp_eq 56 z39E tc_104 d_Tape_isName_51 (by decide) (fun c44 => ?_) (fun c44 => ?_)
                    ·
                      refine V_iinc (v := 4) 3 [some (.ref 89), some (.ref (135 + 13)), some (.int 4), some (.int 4)] d_Tape_isName_56 rfl (by decide) (by decide) rfl rfl ?_
                      refine V_goto 30 d_Tape_isName_59 (by decide) ?_
                      refine V_iload_n 3 d_Tape_isName_30 rfl rfl ?_
                      refine V_iload_n 2 d_Tape_isName_31 rfl rfl ?_
                      refine V_icmp_ge 62 tc_4 tc_4 d_Tape_isName_32 (by decide) (fun c46 => ?_) (fun c46 => ?_)
                      ·
                        refine V_iconst 1 d_Tape_isName_62 (by decide) ?_
                        exact V_zret rfl (by decide) d_Tape_isName_63 ⟨1, rfl, ⟨rfl, (Or.inr ⟨by (first | decide +kernel | with_reducible assumption | omega), tc_1.trans (x_nmy13 (b := b) (f := fZ) (e := uZ) (by (first | decide +kernel | with_reducible assumption | omega))).symm⟩)⟩⟩
                      ·
                        exact absurd c46 (by decide)
                    ·
                      refine V_iconst 0 d_Tape_isName_54 (by decide) ?_
                      exact V_zret rfl (by decide) d_Tape_isName_55 ⟨0, rfl, ⟨rfl, (Or.inr ⟨by (first | decide +kernel | with_reducible assumption | omega), tc_0.trans (x_nmn13 (b := b) (f := fZ) (e := uZ) (by (first | decide +kernel | with_reducible assumption | omega))).symm⟩)⟩⟩
                ·
                  refine V_iconst 0 d_Tape_isName_54 (by decide) ?_
                  exact V_zret rfl (by decide) d_Tape_isName_55 ⟨0, rfl, ⟨rfl, (Or.inr ⟨by (first | decide +kernel | with_reducible assumption | omega), tc_0.trans (x_nmn13 (b := b) (f := fZ) (e := uZ) (by (first | decide +kernel | with_reducible assumption | omega))).symm⟩)⟩⟩
            ·
              refine V_iconst 0 d_Tape_isName_54 (by decide) ?_
              exact V_zret rfl (by decide) d_Tape_isName_55 ⟨0, rfl, ⟨rfl, (Or.inr ⟨by (first | decide +kernel | with_reducible assumption | omega), tc_0.trans (x_nmn13 (b := b) (f := fZ) (e := uZ) (by (first | decide +kernel | with_reducible assumption | omega))).symm⟩)⟩⟩
        ·
          refine V_iconst 0 d_Tape_isName_54 (by decide) ?_
          exact V_zret rfl (by decide) d_Tape_isName_55 ⟨0, rfl, ⟨rfl, (Or.inr ⟨by (first | decide +kernel | with_reducible assumption | omega), tc_0.trans (x_nmn13 (b := b) (f := fZ) (e := uZ) (by (first | decide +kernel | with_reducible assumption | omega))).symm⟩)⟩⟩
    ·
      refine V_iconst 0 d_Tape_isName_26 (by decide) ?_
      exact V_zret rfl (by decide) d_Tape_isName_27 ⟨0, rfl, ⟨rfl, (if q : qZ = 1 then Or.inr ⟨q, tc_0.trans (x_nmn13 (b := b) (f := fZ) (e := uZ) (by (first | decide +kernel | with_reducible assumption | omega))).symm⟩ else Or.inl ⟨q, rfl⟩)⟩⟩
abbrev q_Reader_lineNameX_0 (h : Hp)  : Option Value → Hp → Prop := pRef (fun r h' => h = h' ∧ r = 135 + 0)
set_option maxRecDepth 100000 in
theorem c_Reader_lineNameX_0 (h : Hp) : Ct y_Reader_lineName b_Reader_lineName 1 (some (.object "java/lang/String")) 0 0 [.int 0] h (q_Reader_lineNameX_0 h ) := by
  refine ct_ow R_Reader [some (.int 0)] rfl (by decide) rfl (Nat.le_of_ble_eq_true rfl) ?_
  have f0 : fr [] h h := fr_rf
  refine V_iload_n 0 d_Reader_lineName_0 rfl rfl ?_
  refine V_tabIn 52 tc_0 d_Reader_lineName_1 (by decide) (by decide) rfl (by decide) ?_
  refine V_ldcS (i := 0) (by decide) rfl rfl d_Reader_lineName_52 ?_
  exact V_aret rfl d_Reader_lineName_54 ⟨(135 + 0), rfl, ⟨rfl, rfl⟩⟩
abbrev q_Reader_lineNameX_1 (h : Hp)  : Option Value → Hp → Prop := pRef (fun r h' => h = h' ∧ r = 135 + 1)
set_option maxRecDepth 100000 in
theorem c_Reader_lineNameX_1 (h : Hp) : Ct y_Reader_lineName b_Reader_lineName 1 (some (.object "java/lang/String")) 0 0 [.int 1] h (q_Reader_lineNameX_1 h ) := by
  refine ct_ow R_Reader [some (.int 1)] rfl (by decide) rfl (Nat.le_of_ble_eq_true rfl) ?_
  have f0 : fr [] h h := fr_rf
  refine V_iload_n 0 d_Reader_lineName_0 rfl rfl ?_
  refine V_tabIn 55 tc_1 d_Reader_lineName_1 (by decide) (by decide) rfl (by decide) ?_
  refine V_ldcS (i := 1) (by decide) rfl rfl d_Reader_lineName_55 ?_
  exact V_aret rfl d_Reader_lineName_57 ⟨(135 + 1), rfl, ⟨rfl, rfl⟩⟩
abbrev q_Reader_lineNameX_2 (h : Hp)  : Option Value → Hp → Prop := pRef (fun r h' => h = h' ∧ r = 135 + 2)
set_option maxRecDepth 100000 in
theorem c_Reader_lineNameX_2 (h : Hp) : Ct y_Reader_lineName b_Reader_lineName 1 (some (.object "java/lang/String")) 0 0 [.int 2] h (q_Reader_lineNameX_2 h ) := by
  refine ct_ow R_Reader [some (.int 2)] rfl (by decide) rfl (Nat.le_of_ble_eq_true rfl) ?_
  have f0 : fr [] h h := fr_rf
  refine V_iload_n 0 d_Reader_lineName_0 rfl rfl ?_
  refine V_tabIn 58 tc_2 d_Reader_lineName_1 (by decide) (by decide) rfl (by decide) ?_
  refine V_ldcS (i := 2) (by decide) rfl rfl d_Reader_lineName_58 ?_
  exact V_aret rfl d_Reader_lineName_60 ⟨(135 + 2), rfl, ⟨rfl, rfl⟩⟩
abbrev q_Reader_lineNameX_3 (h : Hp)  : Option Value → Hp → Prop := pRef (fun r h' => h = h' ∧ r = 135 + 3)
set_option maxRecDepth 100000 in
theorem c_Reader_lineNameX_3 (h : Hp) : Ct y_Reader_lineName b_Reader_lineName 1 (some (.object "java/lang/String")) 0 0 [.int 3] h (q_Reader_lineNameX_3 h ) := by
  refine ct_ow R_Reader [some (.int 3)] rfl (by decide) rfl (Nat.le_of_ble_eq_true rfl) ?_
  have f0 : fr [] h h := fr_rf
  refine V_iload_n 0 d_Reader_lineName_0 rfl rfl ?_
  refine V_tabIn 61 tc_3 d_Reader_lineName_1 (by decide) (by decide) rfl (by decide) ?_
  refine V_ldcS (i := 3) (by decide) rfl rfl d_Reader_lineName_61 ?_
  exact V_aret rfl d_Reader_lineName_63 ⟨(135 + 3), rfl, ⟨rfl, rfl⟩⟩
abbrev q_Reader_lineNameX_4 (h : Hp)  : Option Value → Hp → Prop := pRef (fun r h' => h = h' ∧ r = 135 + 4)
set_option maxRecDepth 100000 in
theorem c_Reader_lineNameX_4 (h : Hp) : Ct y_Reader_lineName b_Reader_lineName 1 (some (.object "java/lang/String")) 0 0 [.int 4] h (q_Reader_lineNameX_4 h ) := by
  refine ct_ow R_Reader [some (.int 4)] rfl (by decide) rfl (Nat.le_of_ble_eq_true rfl) ?_
  have f0 : fr [] h h := fr_rf
  refine V_iload_n 0 d_Reader_lineName_0 rfl rfl ?_
  refine V_tabIn 64 tc_4 d_Reader_lineName_1 (by decide) (by decide) rfl (by decide) ?_
  refine V_ldcS (i := 4) (by decide) rfl rfl d_Reader_lineName_64 ?_
  exact V_aret rfl d_Reader_lineName_66 ⟨(135 + 4), rfl, ⟨rfl, rfl⟩⟩
abbrev q_Reader_lineNameX_5 (h : Hp)  : Option Value → Hp → Prop := pRef (fun r h' => h = h' ∧ r = 135 + 5)
set_option maxRecDepth 100000 in
theorem c_Reader_lineNameX_5 (h : Hp) : Ct y_Reader_lineName b_Reader_lineName 1 (some (.object "java/lang/String")) 0 0 [.int 5] h (q_Reader_lineNameX_5 h ) := by
  refine ct_ow R_Reader [some (.int 5)] rfl (by decide) rfl (Nat.le_of_ble_eq_true rfl) ?_
  have f0 : fr [] h h := fr_rf
  refine V_iload_n 0 d_Reader_lineName_0 rfl rfl ?_
  refine V_tabIn 67 tc_5 d_Reader_lineName_1 (by decide) (by decide) rfl (by decide) ?_
  refine V_ldcS (i := 5) (by decide) rfl rfl d_Reader_lineName_67 ?_
  exact V_aret rfl d_Reader_lineName_69 ⟨(135 + 5), rfl, ⟨rfl, rfl⟩⟩
abbrev q_Reader_lineNameX_6 (h : Hp)  : Option Value → Hp → Prop := pRef (fun r h' => h = h' ∧ r = 135 + 6)
set_option maxRecDepth 100000 in
theorem c_Reader_lineNameX_6 (h : Hp) : Ct y_Reader_lineName b_Reader_lineName 1 (some (.object "java/lang/String")) 0 0 [.int 6] h (q_Reader_lineNameX_6 h ) := by
  refine ct_ow R_Reader [some (.int 6)] rfl (by decide) rfl (Nat.le_of_ble_eq_true rfl) ?_
  have f0 : fr [] h h := fr_rf
  refine V_iload_n 0 d_Reader_lineName_0 rfl rfl ?_
  refine V_tabIn 70 tc_6 d_Reader_lineName_1 (by decide) (by decide) rfl (by decide) ?_
  refine V_ldcS (i := 6) (by decide) rfl rfl d_Reader_lineName_70 ?_
  exact V_aret rfl d_Reader_lineName_72 ⟨(135 + 6), rfl, ⟨rfl, rfl⟩⟩
abbrev q_Reader_lineNameX_7 (h : Hp)  : Option Value → Hp → Prop := pRef (fun r h' => h = h' ∧ r = 135 + 7)
set_option maxRecDepth 100000 in
theorem c_Reader_lineNameX_7 (h : Hp) : Ct y_Reader_lineName b_Reader_lineName 1 (some (.object "java/lang/String")) 0 0 [.int 7] h (q_Reader_lineNameX_7 h ) := by
  refine ct_ow R_Reader [some (.int 7)] rfl (by decide) rfl (Nat.le_of_ble_eq_true rfl) ?_
  have f0 : fr [] h h := fr_rf
  refine V_iload_n 0 d_Reader_lineName_0 rfl rfl ?_
  refine V_tabIn 73 tc_7 d_Reader_lineName_1 (by decide) (by decide) rfl (by decide) ?_
  refine V_ldcS (i := 7) (by decide) rfl rfl d_Reader_lineName_73 ?_
  exact V_aret rfl d_Reader_lineName_75 ⟨(135 + 7), rfl, ⟨rfl, rfl⟩⟩
abbrev q_Reader_lineNameX_8 (h : Hp)  : Option Value → Hp → Prop := pRef (fun r h' => h = h' ∧ r = 135 + 8)
set_option maxRecDepth 100000 in
theorem c_Reader_lineNameX_8 (h : Hp) : Ct y_Reader_lineName b_Reader_lineName 1 (some (.object "java/lang/String")) 0 0 [.int 8] h (q_Reader_lineNameX_8 h ) := by
  refine ct_ow R_Reader [some (.int 8)] rfl (by decide) rfl (Nat.le_of_ble_eq_true rfl) ?_
  have f0 : fr [] h h := fr_rf
  refine V_iload_n 0 d_Reader_lineName_0 rfl rfl ?_
  refine V_tabIn 76 tc_8 d_Reader_lineName_1 (by decide) (by decide) rfl (by decide) ?_
  refine V_ldcS (i := 8) (by decide) rfl rfl d_Reader_lineName_76 ?_
  exact V_aret rfl d_Reader_lineName_78 ⟨(135 + 8), rfl, ⟨rfl, rfl⟩⟩
abbrev q_Reader_lineNameX_9 (h : Hp)  : Option Value → Hp → Prop := pRef (fun r h' => h = h' ∧ r = 135 + 9)
set_option maxRecDepth 100000 in
theorem c_Reader_lineNameX_9 (h : Hp) : Ct y_Reader_lineName b_Reader_lineName 1 (some (.object "java/lang/String")) 0 0 [.int 9] h (q_Reader_lineNameX_9 h ) := by
  refine ct_ow R_Reader [some (.int 9)] rfl (by decide) rfl (Nat.le_of_ble_eq_true rfl) ?_
  have f0 : fr [] h h := fr_rf
  refine V_iload_n 0 d_Reader_lineName_0 rfl rfl ?_
  refine V_tabOut 79 tc_9 d_Reader_lineName_1 (by decide) (by decide) ?_
  refine V_ldcS (i := 9) (by decide) rfl rfl d_Reader_lineName_79 ?_
  exact V_aret rfl d_Reader_lineName_81 ⟨(135 + 9), rfl, ⟨rfl, rfl⟩⟩
abbrev q_Reader_natureNameX_0 (h : Hp)  : Option Value → Hp → Prop := pRef (fun r h' => h = h' ∧ r = 135 + 10)
set_option maxRecDepth 100000 in
theorem c_Reader_natureNameX_0 (h : Hp) : Ct y_Reader_natureName b_Reader_natureName 1 (some (.object "java/lang/String")) 0 0 [.int 0] h (q_Reader_natureNameX_0 h ) := by
  refine ct_ow R_Reader [some (.int 0)] rfl (by decide) rfl (Nat.le_of_ble_eq_true rfl) ?_
  have f0 : fr [] h h := fr_rf
  refine V_iload_n 0 d_Reader_natureName_0 rfl rfl ?_
  refine V_tabIn 32 tc_0 d_Reader_natureName_1 (by decide) (by decide) rfl (by decide) ?_
  refine V_ldcS (i := 10) (by decide) rfl rfl d_Reader_natureName_32 ?_
  exact V_aret rfl d_Reader_natureName_34 ⟨(135 + 10), rfl, ⟨rfl, rfl⟩⟩
abbrev q_Reader_natureNameX_1 (h : Hp)  : Option Value → Hp → Prop := pRef (fun r h' => h = h' ∧ r = 135 + 2)
set_option maxRecDepth 100000 in
theorem c_Reader_natureNameX_1 (h : Hp) : Ct y_Reader_natureName b_Reader_natureName 1 (some (.object "java/lang/String")) 0 0 [.int 1] h (q_Reader_natureNameX_1 h ) := by
  refine ct_ow R_Reader [some (.int 1)] rfl (by decide) rfl (Nat.le_of_ble_eq_true rfl) ?_
  have f0 : fr [] h h := fr_rf
  refine V_iload_n 0 d_Reader_natureName_0 rfl rfl ?_
  refine V_tabIn 35 tc_1 d_Reader_natureName_1 (by decide) (by decide) rfl (by decide) ?_
  refine V_ldcS (i := 2) (by decide) rfl rfl d_Reader_natureName_35 ?_
  exact V_aret rfl d_Reader_natureName_37 ⟨(135 + 2), rfl, ⟨rfl, rfl⟩⟩
abbrev q_Reader_natureNameX_2 (h : Hp)  : Option Value → Hp → Prop := pRef (fun r h' => h = h' ∧ r = 135 + 11)
set_option maxRecDepth 100000 in
theorem c_Reader_natureNameX_2 (h : Hp) : Ct y_Reader_natureName b_Reader_natureName 1 (some (.object "java/lang/String")) 0 0 [.int 2] h (q_Reader_natureNameX_2 h ) := by
  refine ct_ow R_Reader [some (.int 2)] rfl (by decide) rfl (Nat.le_of_ble_eq_true rfl) ?_
  have f0 : fr [] h h := fr_rf
  refine V_iload_n 0 d_Reader_natureName_0 rfl rfl ?_
  refine V_tabIn 38 tc_2 d_Reader_natureName_1 (by decide) (by decide) rfl (by decide) ?_
  refine V_ldcS (i := 11) (by decide) rfl rfl d_Reader_natureName_38 ?_
  exact V_aret rfl d_Reader_natureName_40 ⟨(135 + 11), rfl, ⟨rfl, rfl⟩⟩
abbrev q_Reader_natureNameX_3 (h : Hp)  : Option Value → Hp → Prop := pRef (fun r h' => h = h' ∧ r = 135 + 12)
set_option maxRecDepth 100000 in
theorem c_Reader_natureNameX_3 (h : Hp) : Ct y_Reader_natureName b_Reader_natureName 1 (some (.object "java/lang/String")) 0 0 [.int 3] h (q_Reader_natureNameX_3 h ) := by
  refine ct_ow R_Reader [some (.int 3)] rfl (by decide) rfl (Nat.le_of_ble_eq_true rfl) ?_
  have f0 : fr [] h h := fr_rf
  refine V_iload_n 0 d_Reader_natureName_0 rfl rfl ?_
  refine V_tabIn 41 tc_3 d_Reader_natureName_1 (by decide) (by decide) rfl (by decide) ?_
  refine V_ldcS (i := 12) (by decide) rfl rfl d_Reader_natureName_41 ?_
  exact V_aret rfl d_Reader_natureName_43 ⟨(135 + 12), rfl, ⟨rfl, rfl⟩⟩
abbrev q_Reader_natureNameX_4 (h : Hp)  : Option Value → Hp → Prop := pRef (fun r h' => h = h' ∧ r = 135 + 13)
set_option maxRecDepth 100000 in
theorem c_Reader_natureNameX_4 (h : Hp) : Ct y_Reader_natureName b_Reader_natureName 1 (some (.object "java/lang/String")) 0 0 [.int 4] h (q_Reader_natureNameX_4 h ) := by
  refine ct_ow R_Reader [some (.int 4)] rfl (by decide) rfl (Nat.le_of_ble_eq_true rfl) ?_
  have f0 : fr [] h h := fr_rf
  refine V_iload_n 0 d_Reader_natureName_0 rfl rfl ?_
  refine V_tabOut 44 tc_4 d_Reader_natureName_1 (by decide) (by decide) ?_
  refine V_ldcS (i := 13) (by decide) rfl rfl d_Reader_natureName_44 ?_
  exact V_aret rfl d_Reader_natureName_46 ⟨(135 + 13), rfl, ⟨rfl, rfl⟩⟩
abbrev q_Reader_lineBegunX (h : Hp) (b : Int → Int) (s : Int32) (sZ : Int) (q : Int32) (qZ : Int) (f : Int32) (fZ : Int) (u : Int32) (uZ : Int) : Option Value → Hp → Prop := pInt (fun r h' => h = h' ∧ (qZ ≠ 1 ∨ r.toInt = x_ln b fZ uZ))
set_option maxRecDepth 100000 in
theorem c_Reader_lineBegunX (h : Hp) (b : Int → Int) (hI : Inv h) (s : Int32) (sZ : Int) (sE : s.toInt = sZ) (sK : h.1 89 1 = s) (q : Int32) (qZ : Int) (qE : q.toInt = qZ) (qK : h.1 89 2 = q) (f : Int32) (fZ : Int) (fE : f.toInt = fZ) (fK : h.1 89 3 = f) (u : Int32) (uZ : Int) (uE : u.toInt = uZ) (uK : h.1 89 4 = u) (hy0 : TP h 90 sZ b) (hy1 : 0 ≤ fZ ∧ fZ ≤ uZ ∧ uZ ≤ sZ ∧ sZ ≤ 160) : Ct y_Reader_lineBegun b_Reader_lineBegun 2 (some .int) 5 108 [.ref 88] h (q_Reader_lineBegunX h b s sZ q qZ f fZ u uZ) := by
  refine ct_ow R_Reader [some (.ref 88), none] rfl (by decide) rfl (Nat.le_of_ble_eq_true rfl) ?_
  have f0 : fr [] h h := fr_rf
  have g1 : 0 ≤ sZ ∧ sZ ≤ 160 := inv_at hI sE sK.symm rfl
  have g2 : 0 ≤ fZ ∧ fZ ≤ 160 := inv_at hI fE fK.symm rfl
  have g3 : 0 ≤ uZ ∧ uZ ≤ 160 := inv_at hI uE uK.symm rfl
  refine V_iconst 0 d_Reader_lineBegun_0 (by decide) ?_
  refine V_istore_n 1 [some (.ref 88), some (.int 0)] d_Reader_lineBegun_1 rfl (by decide) rfl rfl ?_
  refine V_iload_n 1 d_Reader_lineBegun_2 rfl rfl ?_
  refine V_bipush 10 d_Reader_lineBegun_3 (by decide) ?_
  refine V_icmp_ge 30 tc_0 tc_10 d_Reader_lineBegun_5 (by decide) (fun c4 => ?_) (fun c4 => ?_)
  ·
    exact absurd c4 (by decide)
  ·
    refine V_aload_n 0 d_Reader_lineBegun_8 rfl rfl ?_
    refine V_getR fa_Reader_12 sk_88 rfl d_Reader_lineBegun_9 ?_
    refine V_iload_n 1 d_Reader_lineBegun_12 rfl rfl ?_
    refine N_callSR [.int 0] [.ref 89] cs_Reader_171 d_Reader_lineBegun_13 rfl (Nat.le_of_ble_eq_true rfl) (by decide) (by decide) (c_Reader_lineNameX_0 h) (fun z5 h6 p7 => ?_)
    obtain ⟨eh6, rfl⟩ := p7
    subst eh6
    refine N_callVI [.ref (135 + 0)] [] cv_Reader_175 sk_89 rfl d_Reader_lineBegun_16 rfl (Nat.le_of_ble_eq_true rfl) (by decide) (by decide) (c_Tape_isNameX_0 h b hI s sZ sE sK q qZ qE qK f fZ fE fK u uZ uE uK (TP_fr f0 (fun _ => rfl) hy0) (by (first | decide +kernel | with_reducible assumption | omega))) (fun z8 h9 z8Z z8E p10 => ?_)
    obtain ⟨eh9, p10⟩ := p10
    subst eh9
    refine V_if_eq 24 z8E d_Reader_lineBegun_19 (by decide) (fun c11 => ?_) (fun c11 => ?_)
    ·
      refine V_iinc (v := 1) 1 [some (.ref 88), some (.int 1)] d_Reader_lineBegun_24 rfl (by decide) (by decide) rfl rfl ?_
      refine V_goto 2 d_Reader_lineBegun_27 (by decide) ?_
      refine V_iload_n 1 d_Reader_lineBegun_2 rfl rfl ?_
      refine V_bipush 10 d_Reader_lineBegun_3 (by decide) ?_
      refine V_icmp_ge 30 tc_1 tc_10 d_Reader_lineBegun_5 (by decide) (fun c13 => ?_) (fun c13 => ?_)
      ·
        exact absurd c13 (by decide)
      ·
        refine V_aload_n 0 d_Reader_lineBegun_8 rfl rfl ?_
        refine V_getR fa_Reader_12 sk_88 rfl d_Reader_lineBegun_9 ?_
        refine V_iload_n 1 d_Reader_lineBegun_12 rfl rfl ?_
        refine N_callSR [.int 1] [.ref 89] cs_Reader_171 d_Reader_lineBegun_13 rfl (Nat.le_of_ble_eq_true rfl) (by decide) (by decide) (c_Reader_lineNameX_1 h) (fun z14 h15 p16 => ?_)
        obtain ⟨eh15, rfl⟩ := p16
        subst eh15
        refine N_callVI [.ref (135 + 1)] [] cv_Reader_175 sk_89 rfl d_Reader_lineBegun_16 rfl (Nat.le_of_ble_eq_true rfl) (by decide) (by decide) (c_Tape_isNameX_1 h b hI s sZ sE sK q qZ qE qK f fZ fE fK u uZ uE uK (TP_fr f0 (fun _ => rfl) hy0) (by (first | decide +kernel | with_reducible assumption | omega))) (fun z17 h18 z17Z z17E p19 => ?_)
        obtain ⟨eh18, p19⟩ := p19
        subst eh18
        refine V_if_eq 24 z17E d_Reader_lineBegun_19 (by decide) (fun c20 => ?_) (fun c20 => ?_)
        ·
          refine V_iinc (v := 2) 1 [some (.ref 88), some (.int 2)] d_Reader_lineBegun_24 rfl (by decide) (by decide) rfl rfl ?_
          refine V_goto 2 d_Reader_lineBegun_27 (by decide) ?_
          refine V_iload_n 1 d_Reader_lineBegun_2 rfl rfl ?_
          refine V_bipush 10 d_Reader_lineBegun_3 (by decide) ?_
          refine V_icmp_ge 30 tc_2 tc_10 d_Reader_lineBegun_5 (by decide) (fun c22 => ?_) (fun c22 => ?_)
          ·
            exact absurd c22 (by decide)
          ·
            refine V_aload_n 0 d_Reader_lineBegun_8 rfl rfl ?_
            refine V_getR fa_Reader_12 sk_88 rfl d_Reader_lineBegun_9 ?_
            refine V_iload_n 1 d_Reader_lineBegun_12 rfl rfl ?_
            refine N_callSR [.int 2] [.ref 89] cs_Reader_171 d_Reader_lineBegun_13 rfl (Nat.le_of_ble_eq_true rfl) (by decide) (by decide) (c_Reader_lineNameX_2 h) (fun z23 h24 p25 => ?_)
            obtain ⟨eh24, rfl⟩ := p25
            subst eh24
            refine N_callVI [.ref (135 + 2)] [] cv_Reader_175 sk_89 rfl d_Reader_lineBegun_16 rfl (Nat.le_of_ble_eq_true rfl) (by decide) (by decide) (c_Tape_isNameX_2 h b hI s sZ sE sK q qZ qE qK f fZ fE fK u uZ uE uK (TP_fr f0 (fun _ => rfl) hy0) (by (first | decide +kernel | with_reducible assumption | omega))) (fun z26 h27 z26Z z26E p28 => ?_)
            obtain ⟨eh27, p28⟩ := p28
            subst eh27
            refine V_if_eq 24 z26E d_Reader_lineBegun_19 (by decide) (fun c29 => ?_) (fun c29 => ?_)
            ·
              refine V_iinc (v := 3) 1 [some (.ref 88), some (.int 3)] d_Reader_lineBegun_24 rfl (by decide) (by decide) rfl rfl ?_
              refine V_goto 2 d_Reader_lineBegun_27 (by decide) ?_
              refine V_iload_n 1 d_Reader_lineBegun_2 rfl rfl ?_
              refine V_bipush 10 d_Reader_lineBegun_3 (by decide) ?_
              refine V_icmp_ge 30 tc_3 tc_10 d_Reader_lineBegun_5 (by decide) (fun c31 => ?_) (fun c31 => ?_)
              ·
                exact absurd c31 (by decide)
              ·
                refine V_aload_n 0 d_Reader_lineBegun_8 rfl rfl ?_
                refine V_getR fa_Reader_12 sk_88 rfl d_Reader_lineBegun_9 ?_
                refine V_iload_n 1 d_Reader_lineBegun_12 rfl rfl ?_
                refine N_callSR [.int 3] [.ref 89] cs_Reader_171 d_Reader_lineBegun_13 rfl (Nat.le_of_ble_eq_true rfl) (by decide) (by decide) (c_Reader_lineNameX_3 h) (fun z32 h33 p34 => ?_)
                obtain ⟨eh33, rfl⟩ := p34
                subst eh33
                refine N_callVI [.ref (135 + 3)] [] cv_Reader_175 sk_89 rfl d_Reader_lineBegun_16 rfl (Nat.le_of_ble_eq_true rfl) (by decide) (by decide) (c_Tape_isNameX_3 h b hI s sZ sE sK q qZ qE qK f fZ fE fK u uZ uE uK (TP_fr f0 (fun _ => rfl) hy0) (by (first | decide +kernel | with_reducible assumption | omega))) (fun z35 h36 z35Z z35E p37 => ?_)
                obtain ⟨eh36, p37⟩ := p37
                subst eh36
                refine V_if_eq 24 z35E d_Reader_lineBegun_19 (by decide) (fun c38 => ?_) (fun c38 => ?_)
                ·
                  refine V_iinc (v := 4) 1 [some (.ref 88), some (.int 4)] d_Reader_lineBegun_24 rfl (by decide) (by decide) rfl rfl ?_
                  refine V_goto 2 d_Reader_lineBegun_27 (by decide) ?_
                  refine V_iload_n 1 d_Reader_lineBegun_2 rfl rfl ?_
                  refine V_bipush 10 d_Reader_lineBegun_3 (by decide) ?_
                  refine V_icmp_ge 30 tc_4 tc_10 d_Reader_lineBegun_5 (by decide) (fun c40 => ?_) (fun c40 => ?_)
                  ·
                    exact absurd c40 (by decide)
                  ·
                    refine V_aload_n 0 d_Reader_lineBegun_8 rfl rfl ?_
                    refine V_getR fa_Reader_12 sk_88 rfl d_Reader_lineBegun_9 ?_
                    refine V_iload_n 1 d_Reader_lineBegun_12 rfl rfl ?_
                    refine N_callSR [.int 4] [.ref 89] cs_Reader_171 d_Reader_lineBegun_13 rfl (Nat.le_of_ble_eq_true rfl) (by decide) (by decide) (c_Reader_lineNameX_4 h) (fun z41 h42 p43 => ?_)
                    obtain ⟨eh42, rfl⟩ := p43
                    subst eh42
                    refine N_callVI [.ref (135 + 4)] [] cv_Reader_175 sk_89 rfl d_Reader_lineBegun_16 rfl (Nat.le_of_ble_eq_true rfl) (by decide) (by decide) (c_Tape_isNameX_4 h b hI s sZ sE sK q qZ qE qK f fZ fE fK u uZ uE uK (TP_fr f0 (fun _ => rfl) hy0) (by (first | decide +kernel | with_reducible assumption | omega))) (fun z44 h45 z44Z z44E p46 => ?_)
                    obtain ⟨eh45, p46⟩ := p46
                    subst eh45
                    refine V_if_eq 24 z44E d_Reader_lineBegun_19 (by decide) (fun c47 => ?_) (fun c47 => ?_)
                    ·
                      refine V_iinc (v := 5) 1 [some (.ref 88), some (.int 5)] d_Reader_lineBegun_24 rfl (by decide) (by decide) rfl rfl ?_
                      refine V_goto 2 d_Reader_lineBegun_27 (by decide) ?_
                      refine V_iload_n 1 d_Reader_lineBegun_2 rfl rfl ?_
                      refine V_bipush 10 d_Reader_lineBegun_3 (by decide) ?_
                      refine V_icmp_ge 30 tc_5 tc_10 d_Reader_lineBegun_5 (by decide) (fun c49 => ?_) (fun c49 => ?_)
                      ·
                        exact absurd c49 (by decide)
                      ·
                        refine V_aload_n 0 d_Reader_lineBegun_8 rfl rfl ?_
                        refine V_getR fa_Reader_12 sk_88 rfl d_Reader_lineBegun_9 ?_
                        refine V_iload_n 1 d_Reader_lineBegun_12 rfl rfl ?_
                        refine N_callSR [.int 5] [.ref 89] cs_Reader_171 d_Reader_lineBegun_13 rfl (Nat.le_of_ble_eq_true rfl) (by decide) (by decide) (c_Reader_lineNameX_5 h) (fun z50 h51 p52 => ?_)
                        obtain ⟨eh51, rfl⟩ := p52
                        subst eh51
                        refine N_callVI [.ref (135 + 5)] [] cv_Reader_175 sk_89 rfl d_Reader_lineBegun_16 rfl (Nat.le_of_ble_eq_true rfl) (by decide) (by decide) (c_Tape_isNameX_5 h b hI s sZ sE sK q qZ qE qK f fZ fE fK u uZ uE uK (TP_fr f0 (fun _ => rfl) hy0) (by (first | decide +kernel | with_reducible assumption | omega))) (fun z53 h54 z53Z z53E p55 => ?_)
                        obtain ⟨eh54, p55⟩ := p55
                        subst eh54
                        refine V_if_eq 24 z53E d_Reader_lineBegun_19 (by decide) (fun c56 => ?_) (fun c56 => ?_)
                        ·
                          refine V_iinc (v := 6) 1 [some (.ref 88), some (.int 6)] d_Reader_lineBegun_24 rfl (by decide) (by decide) rfl rfl ?_
                          refine V_goto 2 d_Reader_lineBegun_27 (by decide) ?_
                          refine V_iload_n 1 d_Reader_lineBegun_2 rfl rfl ?_
                          refine V_bipush 10 d_Reader_lineBegun_3 (by decide) ?_
                          refine V_icmp_ge 30 tc_6 tc_10 d_Reader_lineBegun_5 (by decide) (fun c58 => ?_) (fun c58 => ?_)
                          ·
                            exact absurd c58 (by decide)
                          ·
                            refine V_aload_n 0 d_Reader_lineBegun_8 rfl rfl ?_
                            refine V_getR fa_Reader_12 sk_88 rfl d_Reader_lineBegun_9 ?_
                            refine V_iload_n 1 d_Reader_lineBegun_12 rfl rfl ?_
                            refine N_callSR [.int 6] [.ref 89] cs_Reader_171 d_Reader_lineBegun_13 rfl (Nat.le_of_ble_eq_true rfl) (by decide) (by decide) (c_Reader_lineNameX_6 h) (fun z59 h60 p61 => ?_)
                            obtain ⟨eh60, rfl⟩ := p61
                            subst eh60
                            refine N_callVI [.ref (135 + 6)] [] cv_Reader_175 sk_89 rfl d_Reader_lineBegun_16 rfl (Nat.le_of_ble_eq_true rfl) (by decide) (by decide) (c_Tape_isNameX_6 h b hI s sZ sE sK q qZ qE qK f fZ fE fK u uZ uE uK (TP_fr f0 (fun _ => rfl) hy0) (by (first | decide +kernel | with_reducible assumption | omega))) (fun z62 h63 z62Z z62E p64 => ?_)
                            obtain ⟨eh63, p64⟩ := p64
                            subst eh63
                            refine V_if_eq 24 z62E d_Reader_lineBegun_19 (by decide) (fun c65 => ?_) (fun c65 => ?_)
                            ·
                              refine V_iinc (v := 7) 1 [some (.ref 88), some (.int 7)] d_Reader_lineBegun_24 rfl (by decide) (by decide) rfl rfl ?_
                              refine V_goto 2 d_Reader_lineBegun_27 (by decide) ?_
                              refine V_iload_n 1 d_Reader_lineBegun_2 rfl rfl ?_
                              refine V_bipush 10 d_Reader_lineBegun_3 (by decide) ?_
                              refine V_icmp_ge 30 tc_7 tc_10 d_Reader_lineBegun_5 (by decide) (fun c67 => ?_) (fun c67 => ?_)
                              ·
                                exact absurd c67 (by decide)
                              ·
                                refine V_aload_n 0 d_Reader_lineBegun_8 rfl rfl ?_
                                refine V_getR fa_Reader_12 sk_88 rfl d_Reader_lineBegun_9 ?_
                                refine V_iload_n 1 d_Reader_lineBegun_12 rfl rfl ?_
                                refine N_callSR [.int 7] [.ref 89] cs_Reader_171 d_Reader_lineBegun_13 rfl (Nat.le_of_ble_eq_true rfl) (by decide) (by decide) (c_Reader_lineNameX_7 h) (fun z68 h69 p70 => ?_)
                                obtain ⟨eh69, rfl⟩ := p70
                                subst eh69
                                refine N_callVI [.ref (135 + 7)] [] cv_Reader_175 sk_89 rfl d_Reader_lineBegun_16 rfl (Nat.le_of_ble_eq_true rfl) (by decide) (by decide) (c_Tape_isNameX_7 h b hI s sZ sE sK q qZ qE qK f fZ fE fK u uZ uE uK (TP_fr f0 (fun _ => rfl) hy0) (by (first | decide +kernel | with_reducible assumption | omega))) (fun z71 h72 z71Z z71E p73 => ?_)
                                obtain ⟨eh72, p73⟩ := p73
                                subst eh72
                                refine V_if_eq 24 z71E d_Reader_lineBegun_19 (by decide) (fun c74 => ?_) (fun c74 => ?_)
                                ·
                                  refine V_iinc (v := 8) 1 [some (.ref 88), some (.int 8)] d_Reader_lineBegun_24 rfl (by decide) (by decide) rfl rfl ?_
                                  refine V_goto 2 d_Reader_lineBegun_27 (by decide) ?_
                                  refine V_iload_n 1 d_Reader_lineBegun_2 rfl rfl ?_
                                  refine V_bipush 10 d_Reader_lineBegun_3 (by decide) ?_
                                  refine V_icmp_ge 30 tc_8 tc_10 d_Reader_lineBegun_5 (by decide) (fun c76 => ?_) (fun c76 => ?_)
                                  ·
                                    exact absurd c76 (by decide)
                                  ·
                                    refine V_aload_n 0 d_Reader_lineBegun_8 rfl rfl ?_
                                    refine V_getR fa_Reader_12 sk_88 rfl d_Reader_lineBegun_9 ?_
                                    refine V_iload_n 1 d_Reader_lineBegun_12 rfl rfl ?_
                                    refine N_callSR [.int 8] [.ref 89] cs_Reader_171 d_Reader_lineBegun_13 rfl (Nat.le_of_ble_eq_true rfl) (by decide) (by decide) (c_Reader_lineNameX_8 h) (fun z77 h78 p79 => ?_)
                                    obtain ⟨eh78, rfl⟩ := p79
                                    subst eh78
                                    refine N_callVI [.ref (135 + 8)] [] cv_Reader_175 sk_89 rfl d_Reader_lineBegun_16 rfl (Nat.le_of_ble_eq_true rfl) (by decide) (by decide) (c_Tape_isNameX_8 h b hI s sZ sE sK q qZ qE qK f fZ fE fK u uZ uE uK (TP_fr f0 (fun _ => rfl) hy0) (by (first | decide +kernel | with_reducible assumption | omega))) (fun z80 h81 z80Z z80E p82 => ?_)
                                    obtain ⟨eh81, p82⟩ := p82
                                    subst eh81
                                    refine V_if_eq 24 z80E d_Reader_lineBegun_19 (by decide) (fun c83 => ?_) (fun c83 => ?_)
                                    ·
                                      refine V_iinc (v := 9) 1 [some (.ref 88), some (.int 9)] d_Reader_lineBegun_24 rfl (by decide) (by decide) rfl rfl ?_
                                      refine V_goto 2 d_Reader_lineBegun_27 (by decide) ?_
                                      refine V_iload_n 1 d_Reader_lineBegun_2 rfl rfl ?_
                                      refine V_bipush 10 d_Reader_lineBegun_3 (by decide) ?_
                                      refine V_icmp_ge 30 tc_9 tc_10 d_Reader_lineBegun_5 (by decide) (fun c85 => ?_) (fun c85 => ?_)
                                      ·
                                        exact absurd c85 (by decide)
                                      ·
                                        refine V_aload_n 0 d_Reader_lineBegun_8 rfl rfl ?_
                                        refine V_getR fa_Reader_12 sk_88 rfl d_Reader_lineBegun_9 ?_
                                        refine V_iload_n 1 d_Reader_lineBegun_12 rfl rfl ?_
                                        refine N_callSR [.int 9] [.ref 89] cs_Reader_171 d_Reader_lineBegun_13 rfl (Nat.le_of_ble_eq_true rfl) (by decide) (by decide) (c_Reader_lineNameX_9 h) (fun z86 h87 p88 => ?_)
                                        obtain ⟨eh87, rfl⟩ := p88
                                        subst eh87
                                        refine N_callVI [.ref (135 + 9)] [] cv_Reader_175 sk_89 rfl d_Reader_lineBegun_16 rfl (Nat.le_of_ble_eq_true rfl) (by decide) (by decide) (c_Tape_isNameX_9 h b hI s sZ sE sK q qZ qE qK f fZ fE fK u uZ uE uK (TP_fr f0 (fun _ => rfl) hy0) (by (first | decide +kernel | with_reducible assumption | omega))) (fun z89 h90 z89Z z89E p91 => ?_)
                                        obtain ⟨eh90, p91⟩ := p91
                                        subst eh90
                                        refine V_if_eq 24 z89E d_Reader_lineBegun_19 (by decide) (fun c92 => ?_) (fun c92 => ?_)
                                        ·
                                          refine V_iinc (v := 10) 1 [some (.ref 88), some (.int 10)] d_Reader_lineBegun_24 rfl (by decide) (by decide) rfl rfl ?_
                                          refine V_goto 2 d_Reader_lineBegun_27 (by decide) ?_
                                          refine V_iload_n 1 d_Reader_lineBegun_2 rfl rfl ?_
                                          refine V_bipush 10 d_Reader_lineBegun_3 (by decide) ?_
                                          refine V_icmp_ge 30 tc_10 tc_10 d_Reader_lineBegun_5 (by decide) (fun c94 => ?_) (fun c94 => ?_)
                                          ·
                                            refine V_iconst (-1) d_Reader_lineBegun_30 (by decide) ?_
                                            exact V_iret rfl d_Reader_lineBegun_31 ⟨(-1), rfl, ⟨rfl, (if q : qZ = 1 then Or.inr (tc_m1.trans (show x_ln b fZ uZ = (-1) from x_ln_no (by (first | decide +kernel | with_reducible assumption | omega)) (by (first | decide +kernel | with_reducible assumption | omega)) (by (first | decide +kernel | with_reducible assumption | omega)) (by (first | decide +kernel | with_reducible assumption | omega)) (by (first | decide +kernel | with_reducible assumption | omega)) (by (first | decide +kernel | with_reducible assumption | omega)) (by (first | decide +kernel | with_reducible assumption | omega)) (by (first | decide +kernel | with_reducible assumption | omega)) (by (first | decide +kernel | with_reducible assumption | omega)) (by (first | decide +kernel | with_reducible assumption | omega))).symm) else Or.inl q)⟩⟩
                                          ·
                                            exact absurd c94 (by decide)
                                        ·
                                          refine V_iload_n 1 d_Reader_lineBegun_22 rfl rfl ?_
                                          exact V_iret rfl d_Reader_lineBegun_23 ⟨9, rfl, ⟨rfl, (if q : qZ = 1 then Or.inr (tc_9.trans (show x_ln b fZ uZ = 9 from x_ln_of9 (by have := x_nmb9 b fZ uZ; omega)).symm) else Or.inl q)⟩⟩
                                    ·
                                      refine V_iload_n 1 d_Reader_lineBegun_22 rfl rfl ?_
                                      exact V_iret rfl d_Reader_lineBegun_23 ⟨8, rfl, ⟨rfl, (if q : qZ = 1 then Or.inr (tc_8.trans (show x_ln b fZ uZ = 8 from x_ln_of8 (by have := x_nmb8 b fZ uZ; omega)).symm) else Or.inl q)⟩⟩
                                ·
                                  refine V_iload_n 1 d_Reader_lineBegun_22 rfl rfl ?_
                                  exact V_iret rfl d_Reader_lineBegun_23 ⟨7, rfl, ⟨rfl, (if q : qZ = 1 then Or.inr (tc_7.trans (show x_ln b fZ uZ = 7 from x_ln_of7 (by have := x_nmb7 b fZ uZ; omega)).symm) else Or.inl q)⟩⟩
                            ·
                              refine V_iload_n 1 d_Reader_lineBegun_22 rfl rfl ?_
                              exact V_iret rfl d_Reader_lineBegun_23 ⟨6, rfl, ⟨rfl, (if q : qZ = 1 then Or.inr (tc_6.trans (show x_ln b fZ uZ = 6 from x_ln_of6 (by have := x_nmb6 b fZ uZ; omega)).symm) else Or.inl q)⟩⟩
                        ·
                          refine V_iload_n 1 d_Reader_lineBegun_22 rfl rfl ?_
                          exact V_iret rfl d_Reader_lineBegun_23 ⟨5, rfl, ⟨rfl, (if q : qZ = 1 then Or.inr (tc_5.trans (show x_ln b fZ uZ = 5 from x_ln_of5 (by have := x_nmb5 b fZ uZ; omega)).symm) else Or.inl q)⟩⟩
                    ·
                      refine V_iload_n 1 d_Reader_lineBegun_22 rfl rfl ?_
                      exact V_iret rfl d_Reader_lineBegun_23 ⟨4, rfl, ⟨rfl, (if q : qZ = 1 then Or.inr (tc_4.trans (show x_ln b fZ uZ = 4 from x_ln_of4 (by have := x_nmb4 b fZ uZ; omega)).symm) else Or.inl q)⟩⟩
                ·
                  refine V_iload_n 1 d_Reader_lineBegun_22 rfl rfl ?_
                  exact V_iret rfl d_Reader_lineBegun_23 ⟨3, rfl, ⟨rfl, (if q : qZ = 1 then Or.inr (tc_3.trans (show x_ln b fZ uZ = 3 from x_ln_of3 (by have := x_nmb3 b fZ uZ; omega)).symm) else Or.inl q)⟩⟩
            ·
              refine V_iload_n 1 d_Reader_lineBegun_22 rfl rfl ?_
              exact V_iret rfl d_Reader_lineBegun_23 ⟨2, rfl, ⟨rfl, (if q : qZ = 1 then Or.inr (tc_2.trans (show x_ln b fZ uZ = 2 from x_ln_of2 (by have := x_nmb2 b fZ uZ; omega)).symm) else Or.inl q)⟩⟩
        ·
          refine V_iload_n 1 d_Reader_lineBegun_22 rfl rfl ?_
          exact V_iret rfl d_Reader_lineBegun_23 ⟨1, rfl, ⟨rfl, (if q : qZ = 1 then Or.inr (tc_1.trans (show x_ln b fZ uZ = 1 from x_ln_of1 (by have := x_nmb1 b fZ uZ; omega)).symm) else Or.inl q)⟩⟩
    ·
      refine V_iload_n 1 d_Reader_lineBegun_22 rfl rfl ?_
      exact V_iret rfl d_Reader_lineBegun_23 ⟨0, rfl, ⟨rfl, (if q : qZ = 1 then Or.inr (tc_0.trans (show x_ln b fZ uZ = 0 from x_ln_of0 (by have := x_nmb0 b fZ uZ; omega)).symm) else Or.inl q)⟩⟩
abbrev q_Reader_natureNamedX (h : Hp) (b : Int → Int) (s : Int32) (sZ : Int) (q : Int32) (qZ : Int) (f : Int32) (fZ : Int) (u : Int32) (uZ : Int) : Option Value → Hp → Prop := pInt (fun r h' => h = h' ∧ (qZ ≠ 1 ∨ r.toInt = x_nt b fZ uZ))
set_option maxRecDepth 100000 in
theorem c_Reader_natureNamedX (h : Hp) (b : Int → Int) (hI : Inv h) (s : Int32) (sZ : Int) (sE : s.toInt = sZ) (sK : h.1 89 1 = s) (q : Int32) (qZ : Int) (qE : q.toInt = qZ) (qK : h.1 89 2 = q) (f : Int32) (fZ : Int) (fE : f.toInt = fZ) (fK : h.1 89 3 = f) (u : Int32) (uZ : Int) (uE : u.toInt = uZ) (uK : h.1 89 4 = u) (hy0 : TP h 90 sZ b) (hy1 : 0 ≤ fZ ∧ fZ ≤ uZ ∧ uZ ≤ sZ ∧ sZ ≤ 160) : Ct y_Reader_natureNamed b_Reader_natureNamed 2 (some .int) 5 108 [.ref 88] h (q_Reader_natureNamedX h b s sZ q qZ f fZ u uZ) := by
  refine ct_ow R_Reader [some (.ref 88), none] rfl (by decide) rfl (Nat.le_of_ble_eq_true rfl) ?_
  have f0 : fr [] h h := fr_rf
  have g1 : 0 ≤ sZ ∧ sZ ≤ 160 := inv_at hI sE sK.symm rfl
  have g2 : 0 ≤ fZ ∧ fZ ≤ 160 := inv_at hI fE fK.symm rfl
  have g3 : 0 ≤ uZ ∧ uZ ≤ 160 := inv_at hI uE uK.symm rfl
  refine V_iconst 0 d_Reader_natureNamed_0 (by decide) ?_
  refine V_istore_n 1 [some (.ref 88), some (.int 0)] d_Reader_natureNamed_1 rfl (by decide) rfl rfl ?_
  refine V_iload_n 1 d_Reader_natureNamed_2 rfl rfl ?_
  refine V_iconst 5 d_Reader_natureNamed_3 (by decide) ?_
  refine V_icmp_ge 29 tc_0 tc_5 d_Reader_natureNamed_4 (by decide) (fun c4 => ?_) (fun c4 => ?_)
  ·
    exact absurd c4 (by decide)
  ·
    refine V_aload_n 0 d_Reader_natureNamed_7 rfl rfl ?_
    refine V_getR fa_Reader_12 sk_88 rfl d_Reader_natureNamed_8 ?_
    refine V_iload_n 1 d_Reader_natureNamed_11 rfl rfl ?_
    refine N_callSR [.int 0] [.ref 89] cs_Reader_179 d_Reader_natureNamed_12 rfl (Nat.le_of_ble_eq_true rfl) (by decide) (by decide) (c_Reader_natureNameX_0 h) (fun z5 h6 p7 => ?_)
    obtain ⟨eh6, rfl⟩ := p7
    subst eh6
    refine N_callVI [.ref (135 + 10)] [] cv_Reader_175 sk_89 rfl d_Reader_natureNamed_15 rfl (Nat.le_of_ble_eq_true rfl) (by decide) (by decide) (c_Tape_isNameX_10 h b hI s sZ sE sK q qZ qE qK f fZ fE fK u uZ uE uK (TP_fr f0 (fun _ => rfl) hy0) (by (first | decide +kernel | with_reducible assumption | omega))) (fun z8 h9 z8Z z8E p10 => ?_)
    obtain ⟨eh9, p10⟩ := p10
    subst eh9
    refine V_if_eq 23 z8E d_Reader_natureNamed_18 (by decide) (fun c11 => ?_) (fun c11 => ?_)
    ·
      refine V_iinc (v := 1) 1 [some (.ref 88), some (.int 1)] d_Reader_natureNamed_23 rfl (by decide) (by decide) rfl rfl ?_
      refine V_goto 2 d_Reader_natureNamed_26 (by decide) ?_
      refine V_iload_n 1 d_Reader_natureNamed_2 rfl rfl ?_
      refine V_iconst 5 d_Reader_natureNamed_3 (by decide) ?_
      refine V_icmp_ge 29 tc_1 tc_5 d_Reader_natureNamed_4 (by decide) (fun c13 => ?_) (fun c13 => ?_)
      ·
        exact absurd c13 (by decide)
      ·
        refine V_aload_n 0 d_Reader_natureNamed_7 rfl rfl ?_
        refine V_getR fa_Reader_12 sk_88 rfl d_Reader_natureNamed_8 ?_
        refine V_iload_n 1 d_Reader_natureNamed_11 rfl rfl ?_
        refine N_callSR [.int 1] [.ref 89] cs_Reader_179 d_Reader_natureNamed_12 rfl (Nat.le_of_ble_eq_true rfl) (by decide) (by decide) (c_Reader_natureNameX_1 h) (fun z14 h15 p16 => ?_)
        obtain ⟨eh15, rfl⟩ := p16
        subst eh15
        refine N_callVI [.ref (135 + 2)] [] cv_Reader_175 sk_89 rfl d_Reader_natureNamed_15 rfl (Nat.le_of_ble_eq_true rfl) (by decide) (by decide) (c_Tape_isNameX_2 h b hI s sZ sE sK q qZ qE qK f fZ fE fK u uZ uE uK (TP_fr f0 (fun _ => rfl) hy0) (by (first | decide +kernel | with_reducible assumption | omega))) (fun z17 h18 z17Z z17E p19 => ?_)
        obtain ⟨eh18, p19⟩ := p19
        subst eh18
        refine V_if_eq 23 z17E d_Reader_natureNamed_18 (by decide) (fun c20 => ?_) (fun c20 => ?_)
        ·
          refine V_iinc (v := 2) 1 [some (.ref 88), some (.int 2)] d_Reader_natureNamed_23 rfl (by decide) (by decide) rfl rfl ?_
          refine V_goto 2 d_Reader_natureNamed_26 (by decide) ?_
          refine V_iload_n 1 d_Reader_natureNamed_2 rfl rfl ?_
          refine V_iconst 5 d_Reader_natureNamed_3 (by decide) ?_
          refine V_icmp_ge 29 tc_2 tc_5 d_Reader_natureNamed_4 (by decide) (fun c22 => ?_) (fun c22 => ?_)
          ·
            exact absurd c22 (by decide)
          ·
            refine V_aload_n 0 d_Reader_natureNamed_7 rfl rfl ?_
            refine V_getR fa_Reader_12 sk_88 rfl d_Reader_natureNamed_8 ?_
            refine V_iload_n 1 d_Reader_natureNamed_11 rfl rfl ?_
            refine N_callSR [.int 2] [.ref 89] cs_Reader_179 d_Reader_natureNamed_12 rfl (Nat.le_of_ble_eq_true rfl) (by decide) (by decide) (c_Reader_natureNameX_2 h) (fun z23 h24 p25 => ?_)
            obtain ⟨eh24, rfl⟩ := p25
            subst eh24
            refine N_callVI [.ref (135 + 11)] [] cv_Reader_175 sk_89 rfl d_Reader_natureNamed_15 rfl (Nat.le_of_ble_eq_true rfl) (by decide) (by decide) (c_Tape_isNameX_11 h b hI s sZ sE sK q qZ qE qK f fZ fE fK u uZ uE uK (TP_fr f0 (fun _ => rfl) hy0) (by (first | decide +kernel | with_reducible assumption | omega))) (fun z26 h27 z26Z z26E p28 => ?_)
            obtain ⟨eh27, p28⟩ := p28
            subst eh27
            refine V_if_eq 23 z26E d_Reader_natureNamed_18 (by decide) (fun c29 => ?_) (fun c29 => ?_)
            ·
              refine V_iinc (v := 3) 1 [some (.ref 88), some (.int 3)] d_Reader_natureNamed_23 rfl (by decide) (by decide) rfl rfl ?_
              refine V_goto 2 d_Reader_natureNamed_26 (by decide) ?_
              refine V_iload_n 1 d_Reader_natureNamed_2 rfl rfl ?_
              refine V_iconst 5 d_Reader_natureNamed_3 (by decide) ?_
              refine V_icmp_ge 29 tc_3 tc_5 d_Reader_natureNamed_4 (by decide) (fun c31 => ?_) (fun c31 => ?_)
              ·
                exact absurd c31 (by decide)
              ·
                refine V_aload_n 0 d_Reader_natureNamed_7 rfl rfl ?_
                refine V_getR fa_Reader_12 sk_88 rfl d_Reader_natureNamed_8 ?_
                refine V_iload_n 1 d_Reader_natureNamed_11 rfl rfl ?_
                refine N_callSR [.int 3] [.ref 89] cs_Reader_179 d_Reader_natureNamed_12 rfl (Nat.le_of_ble_eq_true rfl) (by decide) (by decide) (c_Reader_natureNameX_3 h) (fun z32 h33 p34 => ?_)
                obtain ⟨eh33, rfl⟩ := p34
                subst eh33
                refine N_callVI [.ref (135 + 12)] [] cv_Reader_175 sk_89 rfl d_Reader_natureNamed_15 rfl (Nat.le_of_ble_eq_true rfl) (by decide) (by decide) (c_Tape_isNameX_12 h b hI s sZ sE sK q qZ qE qK f fZ fE fK u uZ uE uK (TP_fr f0 (fun _ => rfl) hy0) (by (first | decide +kernel | with_reducible assumption | omega))) (fun z35 h36 z35Z z35E p37 => ?_)
                obtain ⟨eh36, p37⟩ := p37
                subst eh36
                refine V_if_eq 23 z35E d_Reader_natureNamed_18 (by decide) (fun c38 => ?_) (fun c38 => ?_)
                ·
                  refine V_iinc (v := 4) 1 [some (.ref 88), some (.int 4)] d_Reader_natureNamed_23 rfl (by decide) (by decide) rfl rfl ?_
                  refine V_goto 2 d_Reader_natureNamed_26 (by decide) ?_
                  refine V_iload_n 1 d_Reader_natureNamed_2 rfl rfl ?_
                  refine V_iconst 5 d_Reader_natureNamed_3 (by decide) ?_
                  refine V_icmp_ge 29 tc_4 tc_5 d_Reader_natureNamed_4 (by decide) (fun c40 => ?_) (fun c40 => ?_)
                  ·
                    exact absurd c40 (by decide)
                  ·
                    refine V_aload_n 0 d_Reader_natureNamed_7 rfl rfl ?_
                    refine V_getR fa_Reader_12 sk_88 rfl d_Reader_natureNamed_8 ?_
                    refine V_iload_n 1 d_Reader_natureNamed_11 rfl rfl ?_
                    refine N_callSR [.int 4] [.ref 89] cs_Reader_179 d_Reader_natureNamed_12 rfl (Nat.le_of_ble_eq_true rfl) (by decide) (by decide) (c_Reader_natureNameX_4 h) (fun z41 h42 p43 => ?_)
                    obtain ⟨eh42, rfl⟩ := p43
                    subst eh42
                    refine N_callVI [.ref (135 + 13)] [] cv_Reader_175 sk_89 rfl d_Reader_natureNamed_15 rfl (Nat.le_of_ble_eq_true rfl) (by decide) (by decide) (c_Tape_isNameX_13 h b hI s sZ sE sK q qZ qE qK f fZ fE fK u uZ uE uK (TP_fr f0 (fun _ => rfl) hy0) (by (first | decide +kernel | with_reducible assumption | omega))) (fun z44 h45 z44Z z44E p46 => ?_)
                    obtain ⟨eh45, p46⟩ := p46
                    subst eh45
                    refine V_if_eq 23 z44E d_Reader_natureNamed_18 (by decide) (fun c47 => ?_) (fun c47 => ?_)
                    ·
                      refine V_iinc (v := 5) 1 [some (.ref 88), some (.int 5)] d_Reader_natureNamed_23 rfl (by decide) (by decide) rfl rfl ?_
                      refine V_goto 2 d_Reader_natureNamed_26 (by decide) ?_
                      refine V_iload_n 1 d_Reader_natureNamed_2 rfl rfl ?_
                      refine V_iconst 5 d_Reader_natureNamed_3 (by decide) ?_
                      refine V_icmp_ge 29 tc_5 tc_5 d_Reader_natureNamed_4 (by decide) (fun c49 => ?_) (fun c49 => ?_)
                      ·
                        refine V_iconst (-1) d_Reader_natureNamed_29 (by decide) ?_
                        exact V_iret rfl d_Reader_natureNamed_30 ⟨(-1), rfl, ⟨rfl, (if q : qZ = 1 then Or.inr (tc_m1.trans (show x_nt b fZ uZ = (-1) from x_nt_no (by (first | decide +kernel | with_reducible assumption | omega)) (by (first | decide +kernel | with_reducible assumption | omega)) (by (first | decide +kernel | with_reducible assumption | omega)) (by (first | decide +kernel | with_reducible assumption | omega)) (by (first | decide +kernel | with_reducible assumption | omega))).symm) else Or.inl q)⟩⟩
                      ·
                        exact absurd c49 (by decide)
                    ·
                      refine V_iload_n 1 d_Reader_natureNamed_21 rfl rfl ?_
                      exact V_iret rfl d_Reader_natureNamed_22 ⟨4, rfl, ⟨rfl, (if q : qZ = 1 then Or.inr (tc_4.trans (show x_nt b fZ uZ = 4 from x_nt_of4 (by have := x_nmb13 b fZ uZ; omega)).symm) else Or.inl q)⟩⟩
                ·
                  refine V_iload_n 1 d_Reader_natureNamed_21 rfl rfl ?_
                  exact V_iret rfl d_Reader_natureNamed_22 ⟨3, rfl, ⟨rfl, (if q : qZ = 1 then Or.inr (tc_3.trans (show x_nt b fZ uZ = 3 from x_nt_of3 (by have := x_nmb12 b fZ uZ; omega)).symm) else Or.inl q)⟩⟩
            ·
              refine V_iload_n 1 d_Reader_natureNamed_21 rfl rfl ?_
              exact V_iret rfl d_Reader_natureNamed_22 ⟨2, rfl, ⟨rfl, (if q : qZ = 1 then Or.inr (tc_2.trans (show x_nt b fZ uZ = 2 from x_nt_of2 (by have := x_nmb11 b fZ uZ; omega)).symm) else Or.inl q)⟩⟩
        ·
          refine V_iload_n 1 d_Reader_natureNamed_21 rfl rfl ?_
          exact V_iret rfl d_Reader_natureNamed_22 ⟨1, rfl, ⟨rfl, (if q : qZ = 1 then Or.inr (tc_1.trans (show x_nt b fZ uZ = 1 from x_nt_of1 (by have := x_nmb2 b fZ uZ; omega)).symm) else Or.inl q)⟩⟩
    ·
      refine V_iload_n 1 d_Reader_natureNamed_21 rfl rfl ?_
      exact V_iret rfl d_Reader_natureNamed_22 ⟨0, rfl, ⟨rfl, (if q : qZ = 1 then Or.inr (tc_0.trans (show x_nt b fZ uZ = 0 from x_nt_of0 (by have := x_nmb10 b fZ uZ; omega)).symm) else Or.inl q)⟩⟩
end
