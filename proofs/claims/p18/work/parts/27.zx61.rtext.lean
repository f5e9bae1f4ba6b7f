def S_Rod_textX : List (Nat × Option Nat) := [(89, some 2), (89, some 3), (89, some 4), (89, some 5), (88, some 5), (88, some 6), (88, some 4), (91, none), (92, none), (69, none), (70, none), (71, none), (72, none), (73, none), (74, none), (76, none), (68, some 3), (68, some 4), (75, some 4), (77, none), (78, none), (79, none), (80, some 4), (0, some 3), (0, some 4), (1, none), (2, none), (3, none), (4, none), (5, none), (6, none), (7, some 4), (8, none), (9, none), (10, none), (11, none), (12, some 4), (13, none), (14, none), (15, none), (16, none), (89, some 1), (87, none)]
abbrev q_Rod_textX (h : Hp) (b : Int → Int) (s : Int32) (sZ : Int) : Option Value → Hp → Prop := pInt (fun r h' => Inv h' ∧ fr S_Rod_textX h h' ∧ ∃ (v : Int32) (vZ : Int), v.toInt = vZ ∧ h'.1 89 1 = v ∧ ∃ (e : Int32) (eZ : Int), e.toInt = eZ ∧ h'.1 88 6 = e ∧ (vZ = 0 ∧ ∃ n : Nat, x_tx b sZ r eZ n))
set_option maxRecDepth 100000 in
theorem c_Rod_textX (h : Hp) (b : Int → Int) (hI : Inv h) (s : Int32) (sZ : Int) (sE : s.toInt = sZ) (sK : h.1 89 1 = s) (hy0 : TP h 90 sZ b) : Ct y_Rod_text b_Rod_text 3 (some .int) 9 192 [.ref 85] h (q_Rod_textX h b s sZ) := by
  refine ct_ow R_Rod [some (.ref 85), none, none] rfl (by decide) rfl (Nat.le_of_ble_eq_true rfl) ?_
  have f0 : fr S_Rod_textX h h := fr_rf
  have g1 : 0 ≤ sZ ∧ sZ ≤ 160 := inv_at hI sE sK.symm rfl
  refine V_aload_n 0 d_Rod_text_0 rfl rfl ?_
  refine V_getR fa_Rod_30 sk_85 rfl d_Rod_text_1 ?_
  refine N_callVI [] [] cv_Rod_77 sk_88 rfl d_Rod_text_4 rfl (Nat.le_of_ble_eq_true rfl) (by decide) (by decide) (c_Reader_readAllX h b hI s sZ sE sK (TP_fr f0 (fun _ => rfl) hy0)) (fun z2 h3 z2Z z2E p4 => ?_)
  obtain ⟨hI5, fh3, o7, o7Z, o7E, o7K, p4⟩ := p4
  have f6 : fr S_Rod_textX h h3 := fr_call f0 fh3 rfl
  obtain ⟨n, hX, hY⟩ := p4
  refine V_istore_n 1 [some (.ref 85), some (.int z2), none] d_Rod_text_7 rfl (by decide) rfl rfl ?_
  refine V_aload_n 0 d_Rod_text_8 rfl rfl ?_
  refine V_getR fa_Rod_38 sk_85 rfl d_Rod_text_9 ?_
  refine V_iconst 0 d_Rod_text_12 (by decide) ?_
  refine N_putI fp_Rod_67 sk_89 rfl d_Rod_text_13 (fun h8 eh8 => ?_)
  have hI9 : Inv h8 := inv_put (lo := 0) (hi := 160) hI5 eh8 rfl tc_0 (by omega)
  have f10 : fr S_Rod_textX h h8 := fr_put f6 eh8 rfl
  refine V_iload_n 1 d_Rod_text_16 rfl rfl ?_
  refine V_if_lt 54 z2E d_Rod_text_17 (by decide) (fun c11 => ?_) (fun c11 => ?_)
  ·
    refine V_iload_n 1 d_Rod_text_54 rfl rfl ?_
    exact V_iret rfl d_Rod_text_55 ⟨z2, rfl, ⟨hI9, f10, 0, 0, tc_0, (kn_put eh8), o7, o7Z, o7E, (kn_ne eh8 o7K (by decide)), ⟨by omega, n, hX⟩⟩⟩
  ·
    refine V_aload_n 0 d_Rod_text_20 rfl rfl ?_
    refine V_getR fa_Rod_12 sk_85 rfl d_Rod_text_21 ?_
    refine V_aload_n 0 d_Rod_text_24 rfl rfl ?_
    refine V_getR fa_Rod_30 sk_85 rfl d_Rod_text_25 ?_
    refine V_getR fa_Rod_81 sk_88 rfl d_Rod_text_28 ?_
    refine N_callVV [.ref 68] [] cv_Rod_84 sk_0 rfl d_Rod_text_31 rfl (Nat.le_of_ble_eq_true rfl) (by decide) (by decide) (c_County_copy_0_4 h8 hI9) (fun h13 p14 => ?_)
    obtain ⟨hI15, fh13⟩ := p14
    have f16 : fr S_Rod_textX h h13 := fr_call f10 fh13 rfl
    refine V_iconst 0 d_Rod_text_34 (by decide) ?_
    refine V_istore_n 2 [some (.ref 85), some (.int z2), some (.int 0)] d_Rod_text_35 rfl (by decide) rfl rfl ?_
    refine V_iload_n 2 d_Rod_text_36 rfl rfl ?_
    refine V_iconst 2 d_Rod_text_37 (by decide) ?_
    refine V_icmp_ge 54 tc_0 tc_2 d_Rod_text_38 (by decide) (fun c17 => ?_) (fun c17 => ?_)
    ·
      exact absurd c17 (by decide)
    ·
      refine V_aload_n 0 d_Rod_text_41 rfl rfl ?_
      refine V_getR fa_Rod_23 sk_85 rfl d_Rod_text_42 ?_
      refine V_iload_n 2 d_Rod_text_45 rfl rfl ?_
      refine V_iconst 0 d_Rod_text_46 (by decide) ?_
      refine N_zast sk_87 tc_0 (by omega) d_Rod_text_47 (fun h18 eh18 => ?_)
      have hI19 : Inv h18 := inv_full hI15 eh18 rfl
      have f20 : fr S_Rod_textX h h18 := fr_put f16 eh18 rfl
      refine V_iinc (v := 1) 2 [some (.ref 85), some (.int z2), some (.int 1)] d_Rod_text_48 rfl (by decide) (by decide) rfl rfl ?_
      refine V_goto 36 d_Rod_text_51 (by decide) ?_
      refine V_iload_n 2 d_Rod_text_36 rfl rfl ?_
      refine V_iconst 2 d_Rod_text_37 (by decide) ?_
      refine V_icmp_ge 54 tc_1 tc_2 d_Rod_text_38 (by decide) (fun c22 => ?_) (fun c22 => ?_)
      ·
        exact absurd c22 (by decide)
      ·
        refine V_aload_n 0 d_Rod_text_41 rfl rfl ?_
        refine V_getR fa_Rod_23 sk_85 rfl d_Rod_text_42 ?_
        refine V_iload_n 2 d_Rod_text_45 rfl rfl ?_
        refine V_iconst 0 d_Rod_text_46 (by decide) ?_
        refine N_zast sk_87 tc_1 (by omega) d_Rod_text_47 (fun h23 eh23 => ?_)
        have hI24 : Inv h23 := inv_full hI19 eh23 rfl
        have f25 : fr S_Rod_textX h h23 := fr_put f20 eh23 rfl
        refine V_iinc (v := 2) 2 [some (.ref 85), some (.int z2), some (.int 2)] d_Rod_text_48 rfl (by decide) (by decide) rfl rfl ?_
        refine V_goto 36 d_Rod_text_51 (by decide) ?_
        refine V_iload_n 2 d_Rod_text_36 rfl rfl ?_
        refine V_iconst 2 d_Rod_text_37 (by decide) ?_
        refine V_icmp_ge 54 tc_2 tc_2 d_Rod_text_38 (by decide) (fun c27 => ?_) (fun c27 => ?_)
        ·
          refine V_iload_n 1 d_Rod_text_54 rfl rfl ?_
          exact V_iret rfl d_Rod_text_55 ⟨z2, rfl, ⟨hI24, f25, 0, 0, tc_0, (kn_ne eh23 (kn_ne eh18 (kn_call fh13 (kn_put eh8) rfl) (by decide)) (by decide)), o7, o7Z, o7E, (kn_ne eh23 (kn_ne eh18 (kn_call fh13 (kn_ne eh8 o7K (by decide)) rfl) (by decide)) (by decide)), ⟨by omega, n, hX⟩⟩⟩
        ·
          exact absurd c27 (by decide)
