def S_Mod_firstDraftX : List (Nat × Option Nat) := [(119, none), (120, none), (116, some 7), (116, some 8), (116, some 9), (116, some 10), (116, some 11), (116, some 13)]
abbrev q_Mod_firstDraftX (h : Hp)  : Option Value → Hp → Prop := pVd (fun h' => Inv h' ∧ fr S_Mod_firstDraftX h h' ∧ RM h' x_T0 x_D0)
set_option maxRecDepth 100000 in
theorem c_Mod_firstDraftX (h : Hp) (hI : Inv h) : Ct y_Mod_firstDraft b_Mod_firstDraft 2 none 0 0 [.ref 116] h (q_Mod_firstDraftX h ) := by
  refine ct_ow R_Mod [some (.ref 116), none] rfl (by decide) rfl (Nat.le_of_ble_eq_true rfl) ?_
  have f0 : fr S_Mod_firstDraftX h h := fr_rf
  refine V_iconst 0 d_Mod_firstDraft_0 (by decide) ?_
  refine V_istore_n 1 [some (.ref 116), some (.int 0)] d_Mod_firstDraft_1 rfl (by decide) rfl rfl ?_
  have L1 : ∀ (nn : Nat) (v3 : Int32) (v3Z : Int) (h4 : Hp), v3.toInt = v3Z → Inv h4 → fr S_Mod_firstDraftX h h4 → 0 ≤ v3Z ∧ v3Z ≤ 144 → fz h4 v3Z → 144 - v3Z < (nn : Int) → V R_Mod b_Mod_firstDraft 2 none 0 0 (q_Mod_firstDraftX h ) h4 2 [some (.ref 116), some (.int v3)] [] := by
    intro nn
    induction nn with
    | zero => intro v3 v3Z h4 v3E Ih4 Fh4 q5 q6 hm7; exact absurd hm7 (by (first | decide +kernel | omega))
    | succ nn ihL1 =>
      intro v3 v3Z h4 v3E Ih4 Fh4 q5 q6 hm7
      refine V_iload_n 1 d_Mod_firstDraft_2 rfl rfl ?_
      refine V_sipush 144 d_Mod_firstDraft_3 (by decide) ?_
      refine V_icmp_ge 22 v3E tc_144 d_Mod_firstDraft_6 (by decide) (fun c8 => ?_) (fun c8 => ?_)
      ·
        refine V_iconst 0 d_Mod_firstDraft_22 (by decide) ?_
        refine V_istore_n 1 [some (.ref 116), some (.int 0)] d_Mod_firstDraft_23 rfl (by decide) rfl rfl ?_
        have L9 : ∀ (nn : Nat) (v11 : Int32) (v11Z : Int) (h12 : Hp), v11.toInt = v11Z → Inv h12 → fr S_Mod_firstDraftX h h12 → 0 ≤ v11Z ∧ v11Z ≤ 16 → fy h12 v11Z → 16 - v11Z < (nn : Int) → V R_Mod b_Mod_firstDraft 2 none 0 0 (q_Mod_firstDraftX h ) h12 24 [some (.ref 116), some (.int v11)] [] := by
          intro nn
          induction nn with
          | zero => intro v11 v11Z h12 v11E Ih12 Fh12 q13 q14 hm15; exact absurd hm15 (by (first | decide +kernel | omega))
          | succ nn ihL9 =>
            intro v11 v11Z h12 v11E Ih12 Fh12 q13 q14 hm15
            refine V_iload_n 1 d_Mod_firstDraft_24 rfl rfl ?_
            refine V_bipush 16 d_Mod_firstDraft_25 (by decide) ?_
            refine V_icmp_ge 57 v11E tc_16 d_Mod_firstDraft_27 (by decide) (fun c16 => ?_) (fun c16 => ?_)
            ·
              refine V_aload_n 0 d_Mod_firstDraft_57 rfl rfl ?_
              refine V_getR fa_Mod_17 sk_116 rfl d_Mod_firstDraft_58 ?_
              refine V_bipush 85 d_Mod_firstDraft_61 (by decide) ?_
              refine V_bipush 9 d_Mod_firstDraft_63 (by decide) ?_
              refine N_iast sk_119 tc_85 (by (first | decide +kernel | omega)) d_Mod_firstDraft_65 (fun h17 eh17 => ?_)
              have hI18 : Inv h17 := inv_full Ih12 eh17 rfl
              have f19 : fr S_Mod_firstDraftX h h17 := fr_put Fh12 eh17 rfl
              refine V_aload_n 0 d_Mod_firstDraft_66 rfl rfl ?_
              refine V_iconst 3 d_Mod_firstDraft_67 (by decide) ?_
              refine N_putI fp_Mod_62 sk_116 rfl d_Mod_firstDraft_68 (fun h20 eh20 => ?_)
              have hI21 : Inv h20 := inv_put (lo := 0) (hi := 4) hI18 eh20 rfl tc_3 (by (first | decide +kernel | omega))
              have f22 : fr S_Mod_firstDraftX h h20 := fr_put f19 eh20 rfl
              refine V_aload_n 0 d_Mod_firstDraft_71 rfl rfl ?_
              refine V_iconst 3 d_Mod_firstDraft_72 (by decide) ?_
              refine N_putI fp_Mod_66 sk_116 rfl d_Mod_firstDraft_73 (fun h23 eh23 => ?_)
              have hI24 : Inv h23 := inv_put (lo := 0) (hi := 4) hI21 eh23 rfl tc_3 (by (first | decide +kernel | omega))
              have f25 : fr S_Mod_firstDraftX h h23 := fr_put f22 eh23 rfl
              refine V_aload_n 0 d_Mod_firstDraft_76 rfl rfl ?_
              refine V_iconst 1 d_Mod_firstDraft_77 (by decide) ?_
              refine N_putI fp_Mod_69 sk_116 rfl d_Mod_firstDraft_78 (fun h26 eh26 => ?_)
              have hI27 : Inv h26 := inv_full hI24 eh26 rfl
              have f28 : fr S_Mod_firstDraftX h h26 := fr_put f25 eh26 rfl
              refine V_aload_n 0 d_Mod_firstDraft_81 rfl rfl ?_
              refine V_bipush 10 d_Mod_firstDraft_82 (by decide) ?_
              refine N_putI fp_Mod_72 sk_116 rfl d_Mod_firstDraft_84 (fun h29 eh29 => ?_)
              have hI30 : Inv h29 := inv_full hI27 eh29 rfl
              have f31 : fr S_Mod_firstDraftX h h29 := fr_put f28 eh29 rfl
              refine V_aload_n 0 d_Mod_firstDraft_87 rfl rfl ?_
              refine V_iconst 0 d_Mod_firstDraft_88 (by decide) ?_
              refine N_putI fp_Mod_75 sk_116 rfl d_Mod_firstDraft_89 (fun h32 eh32 => ?_)
              have hI33 : Inv h32 := inv_full hI30 eh32 rfl
              have f34 : fr S_Mod_firstDraftX h h32 := fr_put f31 eh32 rfl
              refine V_iconst 0 d_Mod_firstDraft_92 (by decide) ?_
              refine V_istore_n 1 [some (.ref 116), some (.int 0)] d_Mod_firstDraft_93 rfl (by decide) rfl rfl ?_
              have L35 : ∀ (nn : Nat) (v37 : Int32) (v37Z : Int) (h38 : Hp), v37.toInt = v37Z → Inv h38 → fr S_Mod_firstDraftX h h38 → h38.1 116 7 = 3 → h38.1 116 8 = 3 → h38.1 116 9 = 1 → h38.1 116 10 = 10 → h38.1 116 11 = 0 → 0 ≤ v37Z ∧ v37Z ≤ 6 → fd h38 → fh h38 v37Z → 6 - v37Z < (nn : Int) → V R_Mod b_Mod_firstDraft 2 none 0 0 (q_Mod_firstDraftX h ) h38 94 [some (.ref 116), some (.int v37)] [] := by
                intro nn
                induction nn with
                | zero => intro v37 v37Z h38 v37E Ih38 Fh38 K39 K40 K41 K42 K43 q44 q45 q46 hm47; exact absurd hm47 (by (first | decide +kernel | omega))
                | succ nn ihL35 =>
                  intro v37 v37Z h38 v37E Ih38 Fh38 K39 K40 K41 K42 K43 q44 q45 q46 hm47
                  refine V_iload_n 1 d_Mod_firstDraft_94 rfl rfl ?_
                  refine V_bipush 6 d_Mod_firstDraft_95 (by decide) ?_
                  refine V_icmp_ge 113 v37E tc_6 d_Mod_firstDraft_97 (by decide) (fun c48 => ?_) (fun c48 => ?_)
                  ·
                    refine V_aload_n 0 d_Mod_firstDraft_113 rfl rfl ?_
                    refine V_bipush (-4) d_Mod_firstDraft_114 (by decide) ?_
                    refine N_putI fp_Mod_78 sk_116 rfl d_Mod_firstDraft_116 (fun h49 eh49 => ?_)
                    have hI50 : Inv h49 := inv_full Ih38 eh49 rfl
                    have f51 : fr S_Mod_firstDraftX h h49 := fr_put Fh38 eh49 rfl
                    exact V_vret rfl d_Mod_firstDraft_119 ⟨rfl, ⟨hI50, f51, (RM_first (fd_ne (by assumption) eh49 (by decide)) (fh_ne (by assumption) eh49 (by decide)) (by (first | decide +kernel | omega)) (kn_nei eh49 K39 (by decide)) (kn_nei eh49 K40 (by decide)) (kn_nei eh49 K41 (by decide)) (kn_nei eh49 K42 (by decide)) (kn_nei eh49 K43 (by decide)) (kn_put eh49))⟩⟩
                  ·
                    refine V_aload_n 0 d_Mod_firstDraft_100 rfl rfl ?_
                    refine V_getR fa_Mod_20 sk_116 rfl d_Mod_firstDraft_101 ?_
                    refine V_iload_n 1 d_Mod_firstDraft_104 rfl rfl ?_
                    refine V_iconst 0 d_Mod_firstDraft_105 (by decide) ?_
                    refine N_iast sk_120 v37E (by (first | decide +kernel | omega)) d_Mod_firstDraft_106 (fun h52 eh52 => ?_)
                    have hI53 : Inv h52 := inv_full Ih38 eh52 rfl
                    have f54 : fr S_Mod_firstDraftX h h52 := fr_put Fh38 eh52 rfl
                    obtain ⟨z55, z55E, z55e⟩ : ∃ y : Int32, y.toInt = v37Z + 1 ∧ y = v37 + Int32.ofInt 1 := ⟨_, ti_add v37E (by decide) (by (first | decide +kernel | omega)), rfl⟩
                    refine V_iinc 1 [some (.ref 116), some (.int z55)] d_Mod_firstDraft_107 rfl z55e.symm (by decide) rfl rfl ?_
                    refine V_goto 94 d_Mod_firstDraft_110 (by decide) ?_
                    exact ihL35 z55 ((v37Z + 1)) h52 z55E hI53 f54 (kn_ne eh52 K39 (by decide)) (kn_ne eh52 K40 (by decide)) (kn_ne eh52 K41 (by decide)) (kn_ne eh52 K42 (by decide)) (kn_ne eh52 K43 (by decide)) (by (first | decide +kernel | omega)) (fd_ne (by assumption) eh52 (by decide)) (fh_s (by assumption) (by (first | decide +kernel | omega)) eh52 rfl) (by (first | decide +kernel | omega))
              exact L35 (Int.toNat ((6 - 0 : Int) + 1)) 0 0 h32 tc_0 hI33 f34 (kn_nei eh32 (kn_nei eh29 (kn_nei eh26 (kn_nei eh23 (kn_put eh20) (by decide)) (by decide)) (by decide)) (by decide)) (kn_nei eh32 (kn_nei eh29 (kn_nei eh26 (kn_put eh23) (by decide)) (by decide)) (by decide)) (kn_nei eh32 (kn_nei eh29 (kn_put eh26) (by decide)) (by decide)) (kn_nei eh32 (kn_put eh29) (by decide)) (kn_put eh32) (by (first | decide +kernel | omega)) (fd_ne (fd_ne (fd_ne (fd_ne (fd_ne (fd_85 (by assumption) (by (first | decide +kernel | omega)) eh17 rfl) eh20 (by decide)) eh23 (by decide)) eh26 (by decide)) eh29 (by decide)) eh32 (by decide)) fh_0 (by (first | decide +kernel | omega))
            ·
              refine V_aload_n 0 d_Mod_firstDraft_30 rfl rfl ?_
              refine V_getR fa_Mod_17 sk_116 rfl d_Mod_firstDraft_31 ?_
              refine V_bipush 32 d_Mod_firstDraft_34 (by decide) ?_
              refine V_iload_n 1 d_Mod_firstDraft_36 rfl rfl ?_
              refine V_iadd tc_32 v11E (by (first | decide +kernel | omega)) d_Mod_firstDraft_37 (fun z56 z56e z56E => ?_)
              refine V_iconst 5 d_Mod_firstDraft_38 (by decide) ?_
              refine N_iast sk_119 z56E (by (first | decide +kernel | omega)) d_Mod_firstDraft_39 (fun h57 eh57 => ?_)
              have hI58 : Inv h57 := inv_full Ih12 eh57 (st_lo (by (first | decide +kernel | omega)))
              have f59 : fr S_Mod_firstDraftX h h57 := fr_put Fh12 eh57 rfl
              refine V_aload_n 0 d_Mod_firstDraft_40 rfl rfl ?_
              refine V_getR fa_Mod_17 sk_116 rfl d_Mod_firstDraft_41 ?_
              refine V_bipush 48 d_Mod_firstDraft_44 (by decide) ?_
              refine V_iload_n 1 d_Mod_firstDraft_46 rfl rfl ?_
              refine V_iadd tc_48 v11E (by (first | decide +kernel | omega)) d_Mod_firstDraft_47 (fun z60 z60e z60E => ?_)
              refine V_bipush (-4) d_Mod_firstDraft_48 (by decide) ?_
              refine N_iast sk_119 z60E (by (first | decide +kernel | omega)) d_Mod_firstDraft_50 (fun h61 eh61 => ?_)
              have hI62 : Inv h61 := inv_full hI58 eh61 (st_lo (by (first | decide +kernel | omega)))
              have f63 : fr S_Mod_firstDraftX h h61 := fr_put f59 eh61 rfl
              obtain ⟨z64, z64E, z64e⟩ : ∃ y : Int32, y.toInt = v11Z + 1 ∧ y = v11 + Int32.ofInt 1 := ⟨_, ti_add v11E (by decide) (by (first | decide +kernel | omega)), rfl⟩
              refine V_iinc 1 [some (.ref 116), some (.int z64)] d_Mod_firstDraft_51 rfl z64e.symm (by decide) rfl rfl ?_
              refine V_goto 24 d_Mod_firstDraft_54 (by decide) ?_
              exact ihL9 z64 ((v11Z + 1)) h61 z64E hI62 f63 (by (first | decide +kernel | omega)) (fy_s (by assumption) (by (first | decide +kernel | omega)) eh57 eh61 rfl rfl) (by (first | decide +kernel | omega))
        exact L9 (Int.toNat ((16 - 0 : Int) + 1)) 0 0 h4 tc_0 Ih4 Fh4 (by (first | decide +kernel | omega)) (fy_0 (by assumption) (by (first | decide +kernel | omega))) (by (first | decide +kernel | omega))
      ·
        refine V_aload_n 0 d_Mod_firstDraft_9 rfl rfl ?_
        refine V_getR fa_Mod_17 sk_116 rfl d_Mod_firstDraft_10 ?_
        refine V_iload_n 1 d_Mod_firstDraft_13 rfl rfl ?_
        refine V_iconst 0 d_Mod_firstDraft_14 (by decide) ?_
        refine N_iast sk_119 v3E (by (first | decide +kernel | omega)) d_Mod_firstDraft_15 (fun h65 eh65 => ?_)
        have hI66 : Inv h65 := inv_st Ih4 eh65 (Or.inr rfl) tc_0 (stOk_3 (by (first | decide +kernel | omega)))
        have f67 : fr S_Mod_firstDraftX h h65 := fr_put Fh4 eh65 rfl
        obtain ⟨z68, z68E, z68e⟩ : ∃ y : Int32, y.toInt = v3Z + 1 ∧ y = v3 + Int32.ofInt 1 := ⟨_, ti_add v3E (by decide) (by (first | decide +kernel | omega)), rfl⟩
        refine V_iinc 1 [some (.ref 116), some (.int z68)] d_Mod_firstDraft_16 rfl z68e.symm (by decide) rfl rfl ?_
        refine V_goto 2 d_Mod_firstDraft_19 (by decide) ?_
        exact ihL1 z68 ((v3Z + 1)) h65 z68E hI66 f67 (by (first | decide +kernel | omega)) (fz_s (by assumption) (by (first | decide +kernel | omega)) eh65 rfl) (by (first | decide +kernel | omega))
  exact L1 (Int.toNat ((144 - 0 : Int) + 1)) 0 0 h tc_0 hI f0 (by (first | decide +kernel | omega)) fz_0 (by (first | decide +kernel | omega))
def S_Mod_keepDraftX : List (Nat × Option Nat) := [(117, none), (118, none), (116, some 2), (116, some 3), (116, some 4), (116, some 5)]
abbrev q_Mod_keepDraftX (h : Hp) (D : Nat → Int) (x : Int32) (xZ : Int) (y : Int32) (yZ : Int) (w : Int32) (wZ : Int) (z : Int32) (zZ : Int) : Option Value → Hp → Prop := pVd (fun h' => Inv h' ∧ fr S_Mod_keepDraftX h h' ∧ (MC h' D ∧ h'.1 118 0 = 0 ∧ h'.1 118 1 = 0))
set_option maxRecDepth 100000 in
theorem c_Mod_keepDraftX (h : Hp) (D : Nat → Int) (hI : Inv h) (x : Int32) (xZ : Int) (xE : x.toInt = xZ) (xK : h.1 116 7 = x) (y : Int32) (yZ : Int) (yE : y.toInt = yZ) (yK : h.1 116 8 = y) (w : Int32) (wZ : Int) (wE : w.toInt = wZ) (wK : h.1 116 9 = w) (z : Int32) (zZ : Int) (zE : z.toInt = zZ) (zK : h.1 116 10 = z) (hy0 : 2 ≤ xZ ∧ xZ ≤ 4 ∧ 2 ≤ yZ ∧ yZ ≤ 4) (hy1 : kq h D) (hy2 : xZ = D 144 ∧ yZ = D 145 ∧ wZ = D 146 ∧ zZ = D 147) : Ct y_Mod_keepDraft b_Mod_keepDraft 2 none 0 0 [.ref 116] h (q_Mod_keepDraftX h D x xZ y yZ w wZ z zZ) := by
  refine ct_ow R_Mod [some (.ref 116), none] rfl (by decide) rfl (Nat.le_of_ble_eq_true rfl) ?_
  have f0 : fr S_Mod_keepDraftX h h := fr_rf
  have g1 : 0 ≤ xZ ∧ xZ ≤ 4 := inv_at hI xE xK.symm rfl
  have g2 : 0 ≤ yZ ∧ yZ ≤ 4 := inv_at hI yE yK.symm rfl
  refine V_iconst 0 d_Mod_keepDraft_0 (by decide) ?_
  refine V_istore_n 1 [some (.ref 116), some (.int 0)] d_Mod_keepDraft_1 rfl (by decide) rfl rfl ?_
  have L3 : ∀ (nn : Nat) (v5 : Int32) (v5Z : Int) (h6 : Hp), v5.toInt = v5Z → Inv h6 → fr S_Mod_keepDraftX h h6 → h6.1 116 7 = x → h6.1 116 8 = y → h6.1 116 9 = w → h6.1 116 10 = z → 0 ≤ v5Z ∧ v5Z ≤ 144 → ky h6 D v5Z → kq h6 D → 144 - v5Z < (nn : Int) → V R_Mod b_Mod_keepDraft 2 none 0 0 (q_Mod_keepDraftX h D x xZ y yZ w wZ z zZ) h6 2 [some (.ref 116), some (.int v5)] [] := by
    intro nn
    induction nn with
    | zero => intro v5 v5Z h6 v5E Ih6 Fh6 K7 K8 K9 K10 q11 q12 q13 hm14; exact absurd hm14 (by (first | decide +kernel | omega))
    | succ nn ihL3 =>
      intro v5 v5Z h6 v5E Ih6 Fh6 K7 K8 K9 K10 q11 q12 q13 hm14
      refine V_iload_n 1 d_Mod_keepDraft_2 rfl rfl ?_
      refine V_sipush 144 d_Mod_keepDraft_3 (by decide) ?_
      refine V_icmp_ge 27 v5E tc_144 d_Mod_keepDraft_6 (by decide) (fun c15 => ?_) (fun c15 => ?_)
      ·
        refine V_aload_n 0 d_Mod_keepDraft_27 rfl rfl ?_
        refine V_aload_n 0 d_Mod_keepDraft_28 rfl rfl ?_
        refine N_getK fa_Mod_62 sk_116 rfl d_Mod_keepDraft_29 K7 ?_
        refine N_putI fp_Mod_81 sk_116 rfl d_Mod_keepDraft_32 (fun h16 eh16 => ?_)
        have hI17 : Inv h16 := inv_put (lo := 2) (hi := 4) Ih6 eh16 rfl xE (by (first | decide +kernel | omega))
        have f18 : fr S_Mod_keepDraftX h h16 := fr_put Fh6 eh16 rfl
        refine V_aload_n 0 d_Mod_keepDraft_35 rfl rfl ?_
        refine V_aload_n 0 d_Mod_keepDraft_36 rfl rfl ?_
        refine N_getK fa_Mod_66 sk_116 rfl d_Mod_keepDraft_37 (kn_nei eh16 K8 (by decide)) ?_
        refine N_putI fp_Mod_84 sk_116 rfl d_Mod_keepDraft_40 (fun h19 eh19 => ?_)
        have hI20 : Inv h19 := inv_put (lo := 2) (hi := 4) hI17 eh19 rfl yE (by (first | decide +kernel | omega))
        have f21 : fr S_Mod_keepDraftX h h19 := fr_put f18 eh19 rfl
        refine V_aload_n 0 d_Mod_keepDraft_43 rfl rfl ?_
        refine V_aload_n 0 d_Mod_keepDraft_44 rfl rfl ?_
        refine N_getK fa_Mod_69 sk_116 rfl d_Mod_keepDraft_45 (kn_nei eh19 (kn_nei eh16 K9 (by decide)) (by decide)) ?_
        refine N_putI fp_Mod_87 sk_116 rfl d_Mod_keepDraft_48 (fun h22 eh22 => ?_)
        have hI23 : Inv h22 := inv_full hI20 eh22 rfl
        have f24 : fr S_Mod_keepDraftX h h22 := fr_put f21 eh22 rfl
        refine V_aload_n 0 d_Mod_keepDraft_51 rfl rfl ?_
        refine V_aload_n 0 d_Mod_keepDraft_52 rfl rfl ?_
        refine N_getK fa_Mod_72 sk_116 rfl d_Mod_keepDraft_53 (kn_nei eh22 (kn_nei eh19 (kn_nei eh16 K10 (by decide)) (by decide)) (by decide)) ?_
        refine N_putI fp_Mod_90 sk_116 rfl d_Mod_keepDraft_56 (fun h25 eh25 => ?_)
        have hI26 : Inv h25 := inv_full hI23 eh25 rfl
        have f27 : fr S_Mod_keepDraftX h h25 := fr_put f24 eh25 rfl
        refine V_aload_n 0 d_Mod_keepDraft_59 rfl rfl ?_
        refine V_getR fa_Mod_13 sk_116 rfl d_Mod_keepDraft_60 ?_
        refine V_iconst 0 d_Mod_keepDraft_63 (by decide) ?_
        refine V_iconst 0 d_Mod_keepDraft_64 (by decide) ?_
        refine N_zast sk_118 tc_0 (by (first | decide +kernel | omega)) d_Mod_keepDraft_65 (fun h28 eh28 => ?_)
        have hI29 : Inv h28 := inv_full hI26 eh28 rfl
        have f30 : fr S_Mod_keepDraftX h h28 := fr_put f27 eh28 rfl
        refine V_aload_n 0 d_Mod_keepDraft_66 rfl rfl ?_
        refine V_getR fa_Mod_13 sk_116 rfl d_Mod_keepDraft_67 ?_
        refine V_iconst 1 d_Mod_keepDraft_70 (by decide) ?_
        refine V_iconst 0 d_Mod_keepDraft_71 (by decide) ?_
        refine N_zast sk_118 tc_1 (by (first | decide +kernel | omega)) d_Mod_keepDraft_72 (fun h31 eh31 => ?_)
        have hI32 : Inv h31 := inv_full hI29 eh31 rfl
        have f33 : fr S_Mod_keepDraftX h h31 := fr_put f30 eh31 rfl
        exact V_vret rfl d_Mod_keepDraft_73 ⟨rfl, ⟨hI32, f33, ⟨⟨fun j hj => (ky_ne (ky_ne (ky_ne (ky_ne (ky_ne (ky_ne (by assumption) eh16 (by decide)) eh19 (by decide)) eh22 (by decide)) eh25 (by decide)) eh28 (by decide)) eh31 (by decide)) j (by (first | decide +kernel | omega)), ((congrArg Int32.toInt (kn_ne eh31 (kn_ne eh28 (kn_nei eh25 (kn_nei eh22 (kn_nei eh19 (kn_put eh16) (by decide)) (by decide)) (by decide)) (by decide)) (by decide))).trans (xE.trans (by (first | decide +kernel | omega)))), ((congrArg Int32.toInt (kn_ne eh31 (kn_ne eh28 (kn_nei eh25 (kn_nei eh22 (kn_put eh19) (by decide)) (by decide)) (by decide)) (by decide))).trans (yE.trans (by (first | decide +kernel | omega)))), ((congrArg Int32.toInt (kn_ne eh31 (kn_ne eh28 (kn_nei eh25 (kn_put eh22) (by decide)) (by decide)) (by decide))).trans (wE.trans (by (first | decide +kernel | omega)))), ((congrArg Int32.toInt (kn_ne eh31 (kn_ne eh28 (kn_put eh25) (by decide)) (by decide))).trans (zE.trans (by (first | decide +kernel | omega))))⟩, (kn_nei eh31 (kn_put eh28) (by decide)).trans (by decide), (kn_put eh31).trans (by decide)⟩⟩⟩
      ·
        refine V_aload_n 0 d_Mod_keepDraft_9 rfl rfl ?_
        refine V_getR fa_Mod_7 sk_116 rfl d_Mod_keepDraft_10 ?_
        refine V_iload_n 1 d_Mod_keepDraft_13 rfl rfl ?_
        refine V_aload_n 0 d_Mod_keepDraft_14 rfl rfl ?_
        refine V_getR fa_Mod_17 sk_116 rfl d_Mod_keepDraft_15 ?_
        refine V_iload_n 1 d_Mod_keepDraft_18 rfl rfl ?_
        refine N_iald sk_119 v5E (by (first | decide +kernel | omega)) d_Mod_keepDraft_19 (fun z34 z34Z z34E z34e => ?_)
        refine N_iast sk_117 v5E (by (first | decide +kernel | omega)) d_Mod_keepDraft_20 (fun h35 eh35 => ?_)
        have hI36 : Inv h35 := inv_st Ih6 eh35 (Or.inl rfl) z34E (stOk_of Ih6 (Or.inr rfl) z34E z34e (by (first | decide +kernel | omega)))
        have f37 : fr S_Mod_keepDraftX h h35 := fr_put Fh6 eh35 rfl
        obtain ⟨z38, z38E, z38e⟩ : ∃ y : Int32, y.toInt = v5Z + 1 ∧ y = v5 + Int32.ofInt 1 := ⟨_, ti_add v5E (by decide) (by (first | decide +kernel | omega)), rfl⟩
        refine V_iinc 1 [some (.ref 116), some (.int z38)] d_Mod_keepDraft_21 rfl z38e.symm (by decide) rfl rfl ?_
        refine V_goto 2 d_Mod_keepDraft_24 (by decide) ?_
        exact ihL3 z38 ((v5Z + 1)) h35 z38E hI36 f37 (kn_ne eh35 K7 (by decide)) (kn_ne eh35 K8 (by decide)) (kn_ne eh35 K9 (by decide)) (kn_ne eh35 K10 (by decide)) (by (first | decide +kernel | omega)) (ky_s (by assumption) (by assumption) (by (first | decide +kernel | omega)) eh35 (by assumption)) (kq_ne (by assumption) eh35 (by decide)) (by (first | decide +kernel | omega))
  exact L3 (Int.toNat ((144 - 0 : Int) + 1)) 0 0 h tc_0 hI f0 xK yK wK zK (by (first | decide +kernel | omega)) ky_0 hy1 (by (first | decide +kernel | omega))
def S_Mod_textX : List (Nat × Option Nat) := [(116, some 16), (116, some 17), (116, some 18), (116, some 19), (116, some 20), (116, some 21), (119, none), (120, none), (116, some 7), (116, some 8), (116, some 9), (116, some 10), (116, some 11), (116, some 13), (117, none), (118, none), (116, some 15), (116, some 2), (116, some 3), (116, some 4), (116, some 5)]
abbrev q_Mod_textX (h : Hp) (b : Int → Int) (s : Int32) (sZ : Int) : Option Value → Hp → Prop := pInt (fun r h' => Inv h' ∧ fr S_Mod_textX h h' ∧ ∃ (v : Int32) (vZ : Int), v.toInt = vZ ∧ h'.1 116 15 = v ∧ ∃ (u : Int32) (uZ : Int), u.toInt = uZ ∧ h'.1 116 20 = u ∧ (vZ = 0 ∧ ∃ n : Nat, x_tx b sZ r uZ n ∧ MK h h' uZ (x_st b n).2.1))
set_option maxRecDepth 100000 in
theorem c_Mod_textX (h : Hp) (b : Int → Int) (hI : Inv h) (s : Int32) (sZ : Int) (sE : s.toInt = sZ) (sK : h.1 116 15 = s) (hy0 : TP h 121 sZ b) : Ct y_Mod_text b_Mod_text 2 (some .int) 6 137 [.ref 116] h (q_Mod_textX h b s sZ) := by
  refine ct_ow R_Mod [some (.ref 116), none] rfl (by decide) rfl (Nat.le_of_ble_eq_true rfl) ?_
  have f0 : fr S_Mod_textX h h := fr_rf
  have g1 : 0 ≤ sZ ∧ sZ ≤ 160 := inv_at hI sE sK.symm rfl
  refine V_iconst 0 d_Mod_text_0 (by decide) ?_
  refine V_istore_n 1 [some (.ref 116), some (.int 0)] d_Mod_text_1 rfl (by decide) rfl rfl ?_
  refine V_aload_n 0 d_Mod_text_2 rfl rfl ?_
  refine V_iconst 0 d_Mod_text_3 (by decide) ?_
  refine N_putI fp_Mod_102 sk_116 rfl d_Mod_text_4 (fun h2 eh2 => ?_)
  have hI3 : Inv h2 := inv_full hI eh2 rfl
  have f4 : fr S_Mod_textX h h2 := fr_put f0 eh2 rfl
  have S5 : SM h h2 := SM_ne eh2 (by decide) SM_rf
  refine V_aload_n 0 d_Mod_text_7 rfl rfl ?_
  refine V_iconst 0 d_Mod_text_8 (by decide) ?_
  refine N_putI fp_Mod_111 sk_116 rfl d_Mod_text_9 (fun h6 eh6 => ?_)
  have hI7 : Inv h6 := inv_put (lo := 0) (hi := 160) hI3 eh6 rfl tc_0 (by (first | decide +kernel | omega))
  have f8 : fr S_Mod_textX h h6 := fr_put f4 eh6 rfl
  have S9 : SM h h6 := SM_ne eh6 (by decide) S5
  refine V_aload_n 0 d_Mod_text_12 rfl rfl ?_
  refine N_callVV [] [] cv_Mod_56 sk_116 rfl d_Mod_text_13 rfl (Nat.le_of_ble_eq_true rfl) (by decide) (by decide) (c_Mod_firstDraftX h6 hI7) (fun h11 p12 => ?_)
  obtain ⟨hI13, fh11, p12⟩ := p12
  have f14 : fr S_Mod_textX h h11 := fr_call f8 fh11 rfl
  have S15 : SM h h11 := SM_fr fh11 rfl S9
  have qF := p12
  refine V_aload_n 0 d_Mod_text_16 rfl rfl ?_
  obtain ⟨z16, z16Z, z16E, z16e⟩ : ∃ (y : Int32) (Y : Int), y.toInt = Y ∧ y = h11.1 116 17 := ⟨_, _, rfl, rfl⟩
  have g17 : 0 ≤ z16Z ∧ z16Z ≤ 160 := inv_at hI13 z16E z16e rfl
  obtain ⟨z18, z18Z, z18E, z18e⟩ : ∃ (y : Int32) (Y : Int), y.toInt = Y ∧ y = h11.1 116 18 := ⟨_, _, rfl, rfl⟩
  obtain ⟨z19, z19Z, z19E, z19e⟩ : ∃ (y : Int32) (Y : Int), y.toInt = Y ∧ y = h11.1 116 19 := ⟨_, _, rfl, rfl⟩
  obtain ⟨z20, z20Z, z20E, z20e⟩ : ∃ (y : Int32) (Y : Int), y.toInt = Y ∧ y = h11.1 116 21 := ⟨_, _, rfl, rfl⟩
  refine N_callVV [] [] cv_Mod_152 sk_116 rfl d_Mod_text_17 rfl (Nat.le_of_ble_eq_true rfl) (by decide) (by decide) (c_Mod_nextX h11 b hI13 s sZ sE (kn_call fh11 (kn_nei eh6 (kn_nei eh2 sK (by decide)) (by decide)) rfl) 0 0 tc_0 (kn_call fh11 (kn_put eh6) rfl) z16 z16Z z16E z16e.symm z18 z18Z z18E z18e.symm z19 z19Z z19E z19e.symm 0 0 tc_0 (kn_call fh11 (kn_nei eh6 (kn_put eh2) (by decide)) rfl) z20 z20Z z20E z20e.symm (TP_fr f14 (fun _ => rfl) hy0) (by (first | decide +kernel | omega))) (fun h22 p23 => ?_)
  obtain ⟨hI24, fh22, o26, o26Z, o26E, o26K, o27, o27Z, o27E, o27K, o28, o28Z, o28E, o28K, o29, o29Z, o29E, o29K, o30, o30Z, o30E, o30K, o31, o31Z, o31E, o31K, p23⟩ := p23
  have f25 : fr S_Mod_textX h h22 := fr_call f14 fh22 rfl
  have S32 : SM h h22 := SM_fr fh22 rfl S15
  have R33 : RM h22 x_T0 x_D0 := RM_fr fh22 rfl qF
  have g34 : 0 ≤ o26Z ∧ o26Z ≤ 160 := inv_at hI24 o26E o26K.symm rfl
  have g35 : 0 ≤ o27Z ∧ o27Z ≤ 160 := inv_at hI24 o27E o27K.symm rfl
  have L36 : ∀ (nn : Nat) (v38 : Int32) (v38Z : Int) (h39 : Hp) (v41 : Int32) (v41Z : Int) (v43 : Int32) (v43Z : Int) (v45 : Int32) (v45Z : Int) (v47 : Int32) (v47Z : Int) (v49 : Int32) (v49Z : Int) (v51 : Int32) (v51Z : Int), v38.toInt = v38Z → Inv h39 → fr S_Mod_textX h h39 → h39.1 116 15 = s → v41.toInt = v41Z → h39.1 116 16 = v41 → v43.toInt = v43Z → h39.1 116 17 = v43 → v45.toInt = v45Z → h39.1 116 18 = v45 → v47.toInt = v47Z → h39.1 116 19 = v47 → v49.toInt = v49Z → h39.1 116 20 = v49 → v51.toInt = v51Z → h39.1 116 21 = v51 → 0 ≤ v41Z ∧ v41Z ≤ sZ → 0 ≤ v49Z → MI b h39 sZ v38Z v41Z v43Z v45Z v47Z v49Z v51Z → 0 ≤ v38Z ∧ v38Z ≤ 161 ∧ (v49Z ≠ 0 ∨ v38Z ≤ v41Z) → SM h h39 → ms v49Z v41Z < (nn : Int) → V R_Mod b_Mod_text 2 (some .int) 6 137 (q_Mod_textX h b s sZ) h39 20 [some (.ref 116), some (.int v38)] [] := by
    intro nn
    induction nn with
    | zero => intro v38 v38Z h39 v41 v41Z v43 v43Z v45 v45Z v47 v47Z v49 v49Z v51 v51Z v38E Ih39 Fh39 K40 v41E K42 v43E K44 v45E K46 v47E K48 v49E K50 v51E K52 q53 q54 q55 q56 q57 hm58; exact absurd hm58 (by have := ms_or v49Z v41Z; omega)
    | succ nn ihL36 =>
      intro v38 v38Z h39 v41 v41Z v43 v43Z v45 v45Z v47 v47Z v49 v49Z v51 v51Z v38E Ih39 Fh39 K40 v41E K42 v43E K44 v45E K46 v47E K48 v49E K50 v51E K52 q53 q54 q55 q56 q57 hm58
      have g59 : 0 ≤ v41Z ∧ v41Z ≤ 160 := inv_at Ih39 v41E K42.symm rfl
      have g60 : 0 ≤ v43Z ∧ v43Z ≤ 160 := inv_at Ih39 v43E K44.symm rfl
      have sm : SM h h39 := by assumption
      refine V_aload_n 0 d_Mod_text_20 rfl rfl ?_
      refine N_getK fa_Mod_102 sk_116 rfl d_Mod_text_21 K50 ?_
      refine V_if_ne 44 v49E d_Mod_text_24 (by decide) (fun c61 => ?_) (fun c61 => ?_)
      ·
        obtain ⟨n, hk, hd, hlk⟩ := MI_dead (show MI b h39 sZ v38Z v41Z v43Z v45Z v47Z v49Z v51Z from by assumption) (by (first | decide +kernel | omega))
        refine V_aload_n 0 d_Mod_text_44 rfl rfl ?_
        refine N_getK fa_Mod_102 sk_116 rfl d_Mod_text_45 K50 ?_
        refine V_if_ne 78 v49E d_Mod_text_48 (by decide) (fun c62 => ?_) (fun c62 => ?_)
        ·
          refine V_aload_n 0 d_Mod_text_78 rfl rfl ?_
          refine V_iconst 0 d_Mod_text_79 (by decide) ?_
          refine N_putI fp_Mod_99 sk_116 rfl d_Mod_text_80 (fun h63 eh63 => ?_)
          have hI64 : Inv h63 := inv_put (lo := 0) (hi := 160) Ih39 eh63 rfl tc_0 (by (first | decide +kernel | omega))
          have f65 : fr S_Mod_textX h h63 := fr_put Fh39 eh63 rfl
          have S66 : SM h h63 := SM_ne eh63 (by decide) sm
          refine V_aload_n 0 d_Mod_text_83 rfl rfl ?_
          refine N_getK fa_Mod_102 sk_116 rfl d_Mod_text_84 (kn_nei eh63 K50 (by decide)) ?_
          refine V_if_le 98 v49E d_Mod_text_87 (by decide) (fun c67 => ?_) (fun c67 => ?_)
          ·
            exact absurd c67 (by (first | decide +kernel | omega))
          ·
            refine V_bipush (-10) d_Mod_text_90 (by decide) ?_
            refine V_aload_n 0 d_Mod_text_92 rfl rfl ?_
            refine N_getK fa_Mod_108 sk_116 rfl d_Mod_text_93 (kn_nei eh63 K52 (by decide)) ?_
            refine N_isubw d_Mod_text_96 (fun z68 z68Z z68E z68e => ?_)
            exact V_iret rfl d_Mod_text_97 ⟨z68, rfl, ⟨hI64, f65, 0, 0, tc_0, (kn_put eh63), v49, v49Z, v49E, (kn_nei eh63 K50 (by decide)), ⟨by (first | decide +kernel | omega), n, ⟨⟨hk, Or.inr (by rw [hlk]; show v49Z ≠ 0; omega)⟩, Or.inr (Or.inr ⟨hd, by rw [hlk], by (first | decide +kernel | omega), v51, by rw [hlk]; exact v51E, by assumption⟩)⟩, (Or.inr ⟨by (first | decide +kernel | omega), S66⟩)⟩⟩⟩
        ·
          exact absurd c62 (by (first | decide +kernel | omega))
      ·
        refine V_aload_n 0 d_Mod_text_27 rfl rfl ?_
        refine N_getK fa_Mod_130 sk_116 rfl d_Mod_text_28 K46 ?_
        refine V_if_eq 44 v45E d_Mod_text_31 (by decide) (fun c69 => ?_) (fun c69 => ?_)
        ·
          obtain ⟨n, hn, hk, hR, hx⟩ := MI_live (show MI b h39 sZ v38Z v41Z v43Z v45Z v47Z v49Z v51Z from by assumption) (by (first | decide +kernel | omega))
          unfold x_lx at hx
          have hg := x_good_k n hk
          unfold x_good at hg
          refine V_aload_n 0 d_Mod_text_44 rfl rfl ?_
          refine N_getK fa_Mod_102 sk_116 rfl d_Mod_text_45 K50 ?_
          refine V_if_ne 78 v49E d_Mod_text_48 (by decide) (fun c70 => ?_) (fun c70 => ?_)
          ·
            exact absurd c70 (by (first | decide +kernel | omega))
          ·
            refine V_aload_n 0 d_Mod_text_51 rfl rfl ?_
            refine V_aload_n 0 d_Mod_text_52 rfl rfl ?_
            refine N_getI fa_Mod_78 sk_116 rfl d_Mod_text_53 (fun z71 z71Z z71E z71e => ?_)
            refine V_aload_n 0 d_Mod_text_56 rfl rfl ?_
            refine N_getI fa_Mod_62 sk_116 rfl d_Mod_text_57 (fun z72 z72Z z72E z72e => ?_)
            have g73 : 0 ≤ z72Z ∧ z72Z ≤ 4 := inv_at Ih39 z72E z72e rfl
            refine V_aload_n 0 d_Mod_text_60 rfl rfl ?_
            refine N_getI fa_Mod_66 sk_116 rfl d_Mod_text_61 (fun z74 z74Z z74E z74e => ?_)
            have g75 : 0 ≤ z74Z ∧ z74Z ≤ 4 := inv_at Ih39 z74E z74e rfl
            have g76 : z72Z = (x_st b n).2.1 144 := RM_fld hR z72e.symm z72E (by decide)
            have g77 : z74Z = (x_st b n).2.1 145 := RM_fld hR z74e.symm z74E (by decide)
            refine N_mul24 z72E z74E (by (first | decide +kernel | omega)) (by (first | decide +kernel | omega)) d_Mod_text_64 (fun z78 z78Z z78E z78e z78r z78m => ?_)
            have hB : z71Z < z78Z ∧ ¬ x_bey b n ∨ z78Z ≤ z71Z ∧ x_bey b n := by unfold x_bey; rw [show (x_st b n).2.1 144 * (x_st b n).2.1 145 = z78Z from by rw [show (x_st b n).2.1 144 = z72Z by (first | decide +kernel | omega), show (x_st b n).2.1 145 = z74Z by (first | decide +kernel | omega)]; exact z78m.symm]; exact x_HI_by (by have q := hR.2.2.1; rw [z71e.symm, z71E] at q; exact q) (by (first | decide +kernel | omega))
            refine V_icmp_ge 72 z71E z78E d_Mod_text_65 (by decide) (fun c79 => ?_) (fun c79 => ?_)
            ·
              have hf : v43Z = sZ := by have q := kd_0 (b := b) (p := (x_st b n).2.2) (by (first | decide +kernel | omega)); rw [← show v43Z = x_fr b (x_st b n).2.2 by (first | decide +kernel | omega)] at q; have q2 := TP_b hy0 v43Z (by (first | decide +kernel | omega)); omega
              replace hB := (hB.resolve_left (fun q => absurd q.1 (by (first | decide +kernel | omega)))).2
              refine V_iconst 0 d_Mod_text_72 (by decide) ?_
              refine V_bipush 6 d_Mod_text_73 (by decide) ?_
              refine N_callVV [.int 0, .int 6] [] cv_Mod_144 sk_116 rfl d_Mod_text_75 rfl (Nat.le_of_ble_eq_true rfl) (by decide) (by decide) (c_Mod_needsX h39 Ih39 0 0 tc_0 6 6 tc_6 v43 v43Z v43E K44 v49 v49Z v49E K50 v51 v51Z v51E K52) (fun h81 p82 => ?_)
              obtain ⟨hI83, fh81, o85, o85Z, o85E, o85K, o86, o86Z, o86E, o86K, p82⟩ := p82
              have f84 : fr S_Mod_textX h h81 := fr_call Fh39 fh81 rfl
              have S87 : SM h h81 := SM_fr fh81 rfl sm
              have R88 : RM h81 (x_st b n).1 (x_st b n).2.1 := RM_fr fh81 rfl hR
              refine V_aload_n 0 d_Mod_text_78 rfl rfl ?_
              refine V_iconst 0 d_Mod_text_79 (by decide) ?_
              refine N_putI fp_Mod_99 sk_116 rfl d_Mod_text_80 (fun h89 eh89 => ?_)
              have hI90 : Inv h89 := inv_put (lo := 0) (hi := 160) hI83 eh89 rfl tc_0 (by (first | decide +kernel | omega))
              have f91 : fr S_Mod_textX h h89 := fr_put f84 eh89 rfl
              have S92 : SM h h89 := SM_ne eh89 (by decide) S87
              have R93 : RM h89 (x_st b n).1 (x_st b n).2.1 := RM_ne eh89 (by decide) R88
              refine V_aload_n 0 d_Mod_text_83 rfl rfl ?_
              refine N_getK fa_Mod_102 sk_116 rfl d_Mod_text_84 (kn_nei eh89 o85K (by decide)) ?_
              refine V_if_le 98 o85E d_Mod_text_87 (by decide) (fun c94 => ?_) (fun c94 => ?_)
              ·
                exact absurd c94 (by (first | decide +kernel | omega))
              ·
                refine V_bipush (-10) d_Mod_text_90 (by decide) ?_
                refine V_aload_n 0 d_Mod_text_92 rfl rfl ?_
                refine N_getK fa_Mod_108 sk_116 rfl d_Mod_text_93 (kn_nei eh89 o86K (by decide)) ?_
                refine N_isubw d_Mod_text_96 (fun z95 z95Z z95E z95e => ?_)
                exact V_iret rfl d_Mod_text_97 ⟨z95, rfl, ⟨hI90, f91, 0, 0, tc_0, (kn_put eh89), o85, o85Z, o85E, (kn_nei eh89 o85K (by decide)), ⟨by (first | decide +kernel | omega), n, ⟨⟨hk, Or.inl (by (first | decide +kernel | omega))⟩, Or.inr (Or.inl ⟨by (first | decide +kernel | omega), hB, by (first | decide +kernel | omega), o86, by rw [o86E]; omega, by assumption⟩)⟩, (Or.inr ⟨by (first | decide +kernel | omega), S92⟩)⟩⟩⟩
            ·
              replace hB := (hB.resolve_right (fun q => absurd q.1 (by (first | decide +kernel | omega)))).2
              refine V_iconst 1 d_Mod_text_68 (by decide) ?_
              refine V_goto 73 d_Mod_text_69 (by decide) ?_
              refine V_bipush 6 d_Mod_text_73 (by decide) ?_
              refine N_callVV [.int 1, .int 6] [] cv_Mod_144 sk_116 rfl d_Mod_text_75 rfl (Nat.le_of_ble_eq_true rfl) (by decide) (by decide) (c_Mod_needsX h39 Ih39 1 1 tc_1 6 6 tc_6 v43 v43Z v43E K44 v49 v49Z v49E K50 v51 v51Z v51E K52) (fun h97 p98 => ?_)
              obtain ⟨hI99, fh97, o101, o101Z, o101E, o101K, o102, o102Z, o102E, o102K, p98⟩ := p98
              have f100 : fr S_Mod_textX h h97 := fr_call Fh39 fh97 rfl
              have S103 : SM h h97 := SM_fr fh97 rfl sm
              have R104 : RM h97 (x_st b n).1 (x_st b n).2.1 := RM_fr fh97 rfl hR
              refine V_aload_n 0 d_Mod_text_78 rfl rfl ?_
              refine V_iconst 0 d_Mod_text_79 (by decide) ?_
              refine N_putI fp_Mod_99 sk_116 rfl d_Mod_text_80 (fun h105 eh105 => ?_)
              have hI106 : Inv h105 := inv_put (lo := 0) (hi := 160) hI99 eh105 rfl tc_0 (by (first | decide +kernel | omega))
              have f107 : fr S_Mod_textX h h105 := fr_put f100 eh105 rfl
              have S108 : SM h h105 := SM_ne eh105 (by decide) S103
              have R109 : RM h105 (x_st b n).1 (x_st b n).2.1 := RM_ne eh105 (by decide) R104
              refine V_aload_n 0 d_Mod_text_83 rfl rfl ?_
              refine N_getK fa_Mod_102 sk_116 rfl d_Mod_text_84 (kn_nei eh105 o101K (by decide)) ?_
              refine V_if_le 98 o101E d_Mod_text_87 (by decide) (fun c110 => ?_) (fun c110 => ?_)
              ·
                refine V_aload_n 0 d_Mod_text_98 rfl rfl ?_
                obtain ⟨z111, z111Z, z111E, z111e⟩ : ∃ (y : Int32) (Y : Int), y.toInt = Y ∧ y = h105.1 116 9 := ⟨_, _, rfl, rfl⟩
                obtain ⟨z112, z112Z, z112E, z112e⟩ : ∃ (y : Int32) (Y : Int), y.toInt = Y ∧ y = h105.1 116 10 := ⟨_, _, rfl, rfl⟩
                refine N_callVV [] [] cv_Mod_59 sk_116 rfl d_Mod_text_99 rfl (Nat.le_of_ble_eq_true rfl) (by decide) (by decide) (c_Mod_keepDraftX h105 (x_st b n).2.1 hI106 z72 z72Z z72E (kn_nei eh105 (kn_call fh97 z72e.symm rfl) (by decide)) z74 z74Z z74E (kn_nei eh105 (kn_call fh97 z74e.symm rfl) (by decide)) z111 z111Z z111E z111e.symm z112 z112Z z112E z112e.symm (by (first | decide +kernel | omega)) (RM_kq R109) ⟨by (first | decide +kernel | omega), by (first | decide +kernel | omega), RM_fld R109 z111e.symm z111E (by decide), RM_fld R109 z112e.symm z112E (by decide)⟩) (fun h114 p115 => ?_)
                obtain ⟨hI116, fh114, p115⟩ := p115
                have f117 : fr S_Mod_textX h h114 := fr_call f107 fh114 rfl
                have qK := p115
                refine V_iload_n 1 d_Mod_text_102 rfl rfl ?_
                exact V_iret rfl d_Mod_text_103 ⟨v38, rfl, ⟨hI116, f117, 0, 0, tc_0, (kn_call fh114 (kn_put eh105) rfl), o101, o101Z, o101E, (kn_call fh114 (kn_nei eh105 o101K (by decide)) rfl), ⟨by (first | decide +kernel | omega), n, ⟨⟨hk, Or.inl (by (first | decide +kernel | omega))⟩, Or.inl ⟨by (first | decide +kernel | omega), hB, by rw [v38E]; omega, by (first | decide +kernel | omega)⟩⟩, (Or.inl ⟨by (first | decide +kernel | omega), qK⟩)⟩⟩⟩
              ·
                exact absurd c110 (by (first | decide +kernel | omega))
        ·
          obtain ⟨n, hn, hk, hR, hx⟩ := MI_live (show MI b h39 sZ v38Z v41Z v43Z v45Z v47Z v49Z v51Z from by assumption) (by (first | decide +kernel | omega))
          unfold x_lx at hx
          have hkd : x_kd b (x_st b n).2.2 ≠ 0 := by (first | decide +kernel | omega)
          have g118 := ms_or v49Z v41Z
          refine V_aload_n 0 d_Mod_text_34 rfl rfl ?_
          obtain ⟨z119, z119Z, z119E, z119e⟩ : ∃ (y : Int32) (Y : Int), y.toInt = Y ∧ y = h39.1 116 11 := ⟨_, _, rfl, rfl⟩
          obtain ⟨z120, z120Z, z120E, z120e⟩ : ∃ (y : Int32) (Y : Int), y.toInt = Y ∧ y = h39.1 119 86 := ⟨_, _, rfl, rfl⟩
          have g121 : 0 ≤ z120Z ∧ z120Z ≤ 8 := inv_at Ih39 z120E z120e rfl
          refine N_callVV [] [] cv_Mod_180 sk_116 rfl d_Mod_text_35 rfl (Nat.le_of_ble_eq_true rfl) (by decide) (by decide) (c_Mod_readLineX h39 b (x_st b n).1 (x_st b n).2.1 (x_st b n).2.2 Ih39 s sZ sE K40 v41 v41Z v41E K42 v43 v43Z v43E K44 v45 v45Z v45E K46 v47 v47Z v47E K48 v49 v49Z v49E K50 v51 v51Z v51E K52 z119 z119Z z119E z119e.symm z120 z120Z z120E z120e.symm (TP_fr Fh39 (fun _ => rfl) hy0) (by (first | decide +kernel | omega)) ⟨by (first | decide +kernel | omega), by (first | decide +kernel | omega), by (first | decide +kernel | omega), by (first | decide +kernel | omega), by (first | decide +kernel | omega), by (first | decide +kernel | omega), by (first | decide +kernel | omega), by (first | decide +kernel | omega), by (first | decide +kernel | omega), by (first | decide +kernel | omega), by (first | decide +kernel | omega)⟩ hR) (fun h123 p124 => ?_)
          obtain ⟨hI125, fh123, o127, o127Z, o127E, o127K, o128, o128Z, o128E, o128K, o129, o129Z, o129E, o129K, o130, o130Z, o130E, o130K, o131, o131Z, o131E, o131K, o132, o132Z, o132E, o132K, p124⟩ := p124
          have f126 : fr S_Mod_textX h h123 := fr_call Fh39 fh123 rfl
          have S133 : SM h h123 := SM_fr fh123 rfl sm
          have g134 : 0 ≤ o127Z ∧ o127Z ≤ 160 := inv_at hI125 o127E o127K.symm rfl
          have g135 : 0 ≤ o128Z ∧ o128Z ≤ 160 := inv_at hI125 o128E o128K.symm rfl
          have hmi : MI b h123 sZ ((n : Int) + 1) o127Z o128Z o129Z o130Z o131Z o132Z := MI_step hk hkd rfl p124.1
          have hpos := rl_pos (b := b) (h := h) (s := sZ) (q := o127Z) (f := o128Z) (k := o129Z) (v := o130Z) (y := o132Z) p124.1
          replace p124 := p124.2
          have g136 := ms_or o131Z o127Z
          obtain ⟨z137, z137E, z137e⟩ : ∃ y : Int32, y.toInt = v38Z + 1 ∧ y = v38 + Int32.ofInt 1 := ⟨_, ti_add v38E (by decide) (by (first | decide +kernel | omega)), rfl⟩
          refine V_iinc 1 [some (.ref 116), some (.int z137)] d_Mod_text_38 rfl z137e.symm (by decide) rfl rfl ?_
          refine V_goto 20 d_Mod_text_41 (by decide) ?_
          exact ihL36 z137 ((v38Z + 1)) h123 o127 o127Z o128 o128Z o129 o129Z o130 o130Z o131 o131Z o132 o132Z z137E hI125 f126 (kn_call fh123 K40 rfl) o127E o127K o128E o128K o129E o129K o130E o130K o131E o131K o132E o132K (by (first | decide +kernel | omega)) (by (first | decide +kernel | omega)) (by rw [show (v38Z + 1) = (n : Int) + 1 by (first | decide +kernel | omega)]; exact hmi) (by (first | decide +kernel | omega)) S133 (by (first | decide +kernel | omega))
  exact L36 (Int.toNat ((ms o30Z o26Z : Int) + 1)) 0 0 h22 o26 o26Z o27 o27Z o28 o28Z o29 o29Z o30 o30Z o31 o31Z tc_0 hI24 f25 (kn_call fh22 (kn_call fh11 (kn_nei eh6 (kn_nei eh2 sK (by decide)) (by decide)) rfl) rfl) o26E o26K o27E o27K o28E o28K o29E o29K o30E o30K o31E o31K (by (first | decide +kernel | omega)) (by (first | decide +kernel | omega)) (MI_of (n := 0) (p := 0) (x_ok_0 b) rfl rfl R33 (if q9 : o30Z = 0 then Or.inr ⟨q9, ⟨by (first | decide +kernel | omega), by (first | decide +kernel | omega), by (first | decide +kernel | omega), by (first | decide +kernel | omega), by (first | decide +kernel | omega), by (first | decide +kernel | omega), by (first | decide +kernel | omega), by (first | decide +kernel | omega), by (first | decide +kernel | omega), by (first | decide +kernel | omega), by (first | decide +kernel | omega)⟩⟩ else Or.inl ⟨by (first | decide +kernel | omega), by (first | decide +kernel | omega), by (first | decide +kernel | omega)⟩)) (by (first | decide +kernel | omega)) S32 (by have := ms_or o30Z o26Z; omega)
