abbrev q_Land_twitchesX_0 (h : Hp) (n : Int32) (nZ : Int) (m : Int32) (mZ : Int) (c : Int32) (cZ : Int) (o : Int32) (oZ : Int) (s : Int32) (sZ : Int) : Option Value → Hp → Prop := pInt (fun r h' => h = h' ∧ (twR r (twC h nZ mZ cZ.toNat oZ sZ)))
set_option maxRecDepth 100000 in
theorem c_Land_twitchesX_0 (h : Hp) (hI : Inv h) (n : Int32) (nZ : Int) (nE : n.toInt = nZ) (m : Int32) (mZ : Int) (mE : m.toInt = mZ) (c : Int32) (cZ : Int) (cE : c.toInt = cZ) (o : Int32) (oZ : Int) (oE : o.toInt = oZ) (s : Int32) (sZ : Int) (sE : s.toInt = sZ) (hy0 : 0 ≤ cZ ∧ cZ ≤ 15) (hy1 : 0 ≤ sZ) (hy2 : 0 ≤ (h.1 3 cZ.toNat).toInt ∧ (h.1 3 cZ.toNat).toInt ≤ 1) : Ct y_Land_twitches b_Land_twitches 8 (some .boolean) 0 0 [.ref 1, .int n, .int m, .int c, .int o, .int s] h (q_Land_twitchesX_0 h n nZ m mZ c cZ o oZ s sZ) := by
  refine ct_ow R_Land [some (.ref 1), some (.int n), some (.int m), some (.int c), some (.int o), some (.int s), none, none] rfl (by decide) rfl (Nat.le_of_ble_eq_true rfl) ?_
  have f0 : fr [] h h := fr_rf
  obtain ⟨uv, uvZ, uvE, uvK⟩ : ∃ (y : Int32) (Y : Int), y.toInt = Y ∧ h.1 2 (cZ).toNat = y := ⟨_, _, rfl, rfl⟩
  obtain ⟨iv, ivZ, ivE, ivK⟩ : ∃ (y : Int32) (Y : Int), y.toInt = Y ∧ h.1 3 (cZ).toNat = y := ⟨_, _, rfl, rfl⟩
  obtain ⟨lv, lvZ, lvE, lvK⟩ : ∃ (y : Int32) (Y : Int), y.toInt = Y ∧ h.1 5 (cZ).toNat = y := ⟨_, _, rfl, rfl⟩
  rw [ivK, ivE] at hy2
  refine V_aload_n 0 d_Land_twitches_0 rfl rfl ?_
  refine V_getR fa_Land_9 sk_1 rfl d_Land_twitches_1 ?_
  refine V_iload_n 3 d_Land_twitches_4 rfl rfl ?_
  refine N_ialdK sk_2 cE (by omega) d_Land_twitches_5 uvK ?_
  refine V_if_le 23 uvE d_Land_twitches_6 (by decide) (fun c2 => ?_) (fun c2 => ?_)
  ·
    refine V_iconst 0 d_Land_twitches_23 (by decide) ?_
    refine V_istore 6 [some (.ref 1), some (.int n), some (.int m), some (.int c), some (.int o), some (.int s), some (.int 0), none] d_Land_twitches_24 (by decide) rfl rfl ?_
    refine V_aload_n 0 d_Land_twitches_26 rfl rfl ?_
    refine V_getR fa_Land_15 sk_1 rfl d_Land_twitches_27 ?_
    refine V_iload_n 3 d_Land_twitches_30 rfl rfl ?_
    refine N_ialdK sk_3 cE (by omega) d_Land_twitches_31 ivK ?_
    refine V_if_eq 39 ivE d_Land_twitches_32 (by decide) (fun c4 => ?_) (fun c4 => ?_)
    ·
      refine V_iconst 0 d_Land_twitches_39 (by decide) ?_
      refine V_istore 7 [some (.ref 1), some (.int n), some (.int m), some (.int c), some (.int o), some (.int s), some (.int 0), some (.int 0)] d_Land_twitches_40 (by decide) rfl rfl ?_
      refine V_iload_n 1 d_Land_twitches_42 rfl rfl ?_
      rcases (by omega : (nZ < 0 ∨ 3 < nZ) ∨ nZ = 0 ∨ nZ = 1 ∨ nZ = 2 ∨ nZ = 3) with c5 | c5 | c5 | c5 | c5
      ·
        refine V_tabOut 108 nE d_Land_twitches_43 c5 (by decide) ?_
        refine V_iload d_Land_twitches_108 rfl ?_
        refine V_if_ne 118 tc_0 d_Land_twitches_110 (by decide) (fun c6 => ?_) (fun c6 => ?_)
        ·
          exact absurd c6 (by decide)
        ·
          refine V_iload d_Land_twitches_113 rfl ?_
          refine V_if_eq 122 tc_0 d_Land_twitches_115 (by decide) (fun c7 => ?_) (fun c7 => ?_)
          ·
            refine V_iconst 0 d_Land_twitches_122 (by decide) ?_
            exact V_zret rfl (by decide) d_Land_twitches_123 ⟨0, rfl, ⟨rfl, (by unfold twR; rw [show Int32.toInt 0 = 0 from rfl]; unfold twC tw; skip; rw [uvK, ivK, lvK, uvE, ivE, lvE]; omega)⟩⟩
          ·
            exact absurd c7 (by decide)
      ·
        refine V_tabIn 72 nE d_Land_twitches_43 (by omega) (by omega) (by rw [c5]; rfl) (by decide) ?_
        refine V_iload d_Land_twitches_72 rfl ?_
        exact V_zret rfl (by decide) d_Land_twitches_74 ⟨0, rfl, ⟨rfl, (by unfold twR; rw [show Int32.toInt 0 = 0 from rfl]; unfold twC tw; skip; rw [uvK, ivK, lvK, uvE, ivE, lvE]; omega)⟩⟩
      ·
        refine V_tabIn 75 nE d_Land_twitches_43 (by omega) (by omega) (by rw [c5]; rfl) (by decide) ?_
        refine V_iload d_Land_twitches_75 rfl ?_
        exact V_zret rfl (by decide) d_Land_twitches_77 ⟨0, rfl, ⟨rfl, (by unfold twR; rw [show Int32.toInt 0 = 0 from rfl]; unfold twC tw; skip; rw [uvK, ivK, lvK, uvE, ivE, lvE]; omega)⟩⟩
      ·
        refine V_tabIn 78 nE d_Land_twitches_43 (by omega) (by omega) (by rw [c5]; rfl) (by decide) ?_
        refine V_iload d_Land_twitches_78 rfl ?_
        refine V_iconst 1 d_Land_twitches_80 (by decide) ?_
        refine N_iand d_Land_twitches_81 (fun z8 z8Z z8E z8e => ?_)
        have hod := odd_and sE (by omega) z8e z8E
        refine V_if_eq 89 z8E d_Land_twitches_82 (by decide) (fun c9 => ?_) (fun c9 => ?_)
        ·
          refine V_iconst 0 d_Land_twitches_89 (by decide) ?_
          exact V_zret rfl (by decide) d_Land_twitches_90 ⟨0, rfl, ⟨rfl, (by unfold twR; rw [show Int32.toInt 0 = 0 from rfl]; unfold twC tw; skip; rw [uvK, ivK, lvK, uvE, ivE, lvE]; omega)⟩⟩
        ·
          refine V_iconst 1 d_Land_twitches_85 (by decide) ?_
          refine V_goto 90 d_Land_twitches_86 (by decide) ?_
          exact V_zret rfl (by decide) d_Land_twitches_90 ⟨1, rfl, ⟨rfl, (by unfold twR; rw [show Int32.toInt 1 = 1 from rfl]; unfold twC tw; skip; rw [uvK, ivK, lvK, uvE, ivE, lvE]; omega)⟩⟩
      ·
        refine V_tabIn 91 nE d_Land_twitches_43 (by omega) (by omega) (by rw [c5]; rfl) (by decide) ?_
        refine V_aload_n 0 d_Land_twitches_91 rfl rfl ?_
        refine V_getR fa_Land_21 sk_1 rfl d_Land_twitches_92 ?_
        refine V_iload_n 3 d_Land_twitches_95 rfl rfl ?_
        refine N_ialdK sk_5 cE (by omega) d_Land_twitches_96 lvK ?_
        refine V_iload d_Land_twitches_97 rfl ?_
        refine V_icmp_ne 106 lvE oE d_Land_twitches_99 (by decide) (fun c11 => ?_) (fun c11 => ?_)
        ·
          refine V_iconst 0 d_Land_twitches_106 (by decide) ?_
          exact V_zret rfl (by decide) d_Land_twitches_107 ⟨0, rfl, ⟨rfl, (by unfold twR; rw [show Int32.toInt 0 = 0 from rfl]; unfold twC tw; skip; rw [uvK, ivK, lvK, uvE, ivE, lvE]; omega)⟩⟩
        ·
          refine V_iconst 1 d_Land_twitches_102 (by decide) ?_
          refine V_goto 107 d_Land_twitches_103 (by decide) ?_
          exact V_zret rfl (by decide) d_Land_twitches_107 ⟨1, rfl, ⟨rfl, (by unfold twR; rw [show Int32.toInt 1 = 1 from rfl]; unfold twC tw; skip; rw [uvK, ivK, lvK, uvE, ivE, lvE]; omega)⟩⟩
    ·
      refine V_iconst 1 d_Land_twitches_35 (by decide) ?_
      refine V_goto 40 d_Land_twitches_36 (by decide) ?_
      refine V_istore 7 [some (.ref 1), some (.int n), some (.int m), some (.int c), some (.int o), some (.int s), some (.int 0), some (.int 1)] d_Land_twitches_40 (by decide) rfl rfl ?_
      refine V_iload_n 1 d_Land_twitches_42 rfl rfl ?_
      rcases (by omega : (nZ < 0 ∨ 3 < nZ) ∨ nZ = 0 ∨ nZ = 1 ∨ nZ = 2 ∨ nZ = 3) with c12 | c12 | c12 | c12 | c12
      ·
        refine V_tabOut 108 nE d_Land_twitches_43 c12 (by decide) ?_
        refine V_iload d_Land_twitches_108 rfl ?_
        refine V_if_ne 118 tc_0 d_Land_twitches_110 (by decide) (fun c13 => ?_) (fun c13 => ?_)
        ·
          exact absurd c13 (by decide)
        ·
          refine V_iload d_Land_twitches_113 rfl ?_
          refine V_if_eq 122 tc_1 d_Land_twitches_115 (by decide) (fun c14 => ?_) (fun c14 => ?_)
          ·
            exact absurd c14 (by decide)
          ·
            refine V_iconst 1 d_Land_twitches_118 (by decide) ?_
            refine V_goto 123 d_Land_twitches_119 (by decide) ?_
            exact V_zret rfl (by decide) d_Land_twitches_123 ⟨1, rfl, ⟨rfl, (by unfold twR; rw [show Int32.toInt 1 = 1 from rfl]; unfold twC tw; skip; rw [uvK, ivK, lvK, uvE, ivE, lvE]; omega)⟩⟩
      ·
        refine V_tabIn 72 nE d_Land_twitches_43 (by omega) (by omega) (by rw [c12]; rfl) (by decide) ?_
        refine V_iload d_Land_twitches_72 rfl ?_
        exact V_zret rfl (by decide) d_Land_twitches_74 ⟨0, rfl, ⟨rfl, (by unfold twR; rw [show Int32.toInt 0 = 0 from rfl]; unfold twC tw; skip; rw [uvK, ivK, lvK, uvE, ivE, lvE]; omega)⟩⟩
      ·
        refine V_tabIn 75 nE d_Land_twitches_43 (by omega) (by omega) (by rw [c12]; rfl) (by decide) ?_
        refine V_iload d_Land_twitches_75 rfl ?_
        exact V_zret rfl (by decide) d_Land_twitches_77 ⟨1, rfl, ⟨rfl, (by unfold twR; rw [show Int32.toInt 1 = 1 from rfl]; unfold twC tw; skip; rw [uvK, ivK, lvK, uvE, ivE, lvE]; omega)⟩⟩
      ·
        refine V_tabIn 78 nE d_Land_twitches_43 (by omega) (by omega) (by rw [c12]; rfl) (by decide) ?_
        refine V_iload d_Land_twitches_78 rfl ?_
        refine V_iconst 1 d_Land_twitches_80 (by decide) ?_
        refine N_iand d_Land_twitches_81 (fun z15 z15Z z15E z15e => ?_)
        have hod := odd_and sE (by omega) z15e z15E
        refine V_if_eq 89 z15E d_Land_twitches_82 (by decide) (fun c16 => ?_) (fun c16 => ?_)
        ·
          refine V_iconst 0 d_Land_twitches_89 (by decide) ?_
          exact V_zret rfl (by decide) d_Land_twitches_90 ⟨0, rfl, ⟨rfl, (by unfold twR; rw [show Int32.toInt 0 = 0 from rfl]; unfold twC tw; skip; rw [uvK, ivK, lvK, uvE, ivE, lvE]; omega)⟩⟩
        ·
          refine V_iconst 1 d_Land_twitches_85 (by decide) ?_
          refine V_goto 90 d_Land_twitches_86 (by decide) ?_
          exact V_zret rfl (by decide) d_Land_twitches_90 ⟨1, rfl, ⟨rfl, (by unfold twR; rw [show Int32.toInt 1 = 1 from rfl]; unfold twC tw; skip; rw [uvK, ivK, lvK, uvE, ivE, lvE]; omega)⟩⟩
      ·
        refine V_tabIn 91 nE d_Land_twitches_43 (by omega) (by omega) (by rw [c12]; rfl) (by decide) ?_
        refine V_aload_n 0 d_Land_twitches_91 rfl rfl ?_
        refine V_getR fa_Land_21 sk_1 rfl d_Land_twitches_92 ?_
        refine V_iload_n 3 d_Land_twitches_95 rfl rfl ?_
        refine N_ialdK sk_5 cE (by omega) d_Land_twitches_96 lvK ?_
        refine V_iload d_Land_twitches_97 rfl ?_
        refine V_icmp_ne 106 lvE oE d_Land_twitches_99 (by decide) (fun c18 => ?_) (fun c18 => ?_)
        ·
          refine V_iconst 0 d_Land_twitches_106 (by decide) ?_
          exact V_zret rfl (by decide) d_Land_twitches_107 ⟨0, rfl, ⟨rfl, (by unfold twR; rw [show Int32.toInt 0 = 0 from rfl]; unfold twC tw; skip; rw [uvK, ivK, lvK, uvE, ivE, lvE]; omega)⟩⟩
        ·
          refine V_iconst 1 d_Land_twitches_102 (by decide) ?_
          refine V_goto 107 d_Land_twitches_103 (by decide) ?_
          exact V_zret rfl (by decide) d_Land_twitches_107 ⟨1, rfl, ⟨rfl, (by unfold twR; rw [show Int32.toInt 1 = 1 from rfl]; unfold twC tw; skip; rw [uvK, ivK, lvK, uvE, ivE, lvE]; omega)⟩⟩
  ·
    refine V_aload_n 0 d_Land_twitches_9 rfl rfl ?_
    refine V_getR fa_Land_9 sk_1 rfl d_Land_twitches_10 ?_
    refine V_iload_n 3 d_Land_twitches_13 rfl rfl ?_
    refine N_ialdK sk_2 cE (by omega) d_Land_twitches_14 uvK ?_
    refine V_iload_n 2 d_Land_twitches_15 rfl rfl ?_
    refine V_icmp_gt 23 uvE mE d_Land_twitches_16 (by decide) (fun c20 => ?_) (fun c20 => ?_)
    ·
      refine V_iconst 0 d_Land_twitches_23 (by decide) ?_
      refine V_istore 6 [some (.ref 1), some (.int n), some (.int m), some (.int c), some (.int o), some (.int s), some (.int 0), none] d_Land_twitches_24 (by decide) rfl rfl ?_
      refine V_aload_n 0 d_Land_twitches_26 rfl rfl ?_
      refine V_getR fa_Land_15 sk_1 rfl d_Land_twitches_27 ?_
      refine V_iload_n 3 d_Land_twitches_30 rfl rfl ?_
      refine N_ialdK sk_3 cE (by omega) d_Land_twitches_31 ivK ?_
      refine V_if_eq 39 ivE d_Land_twitches_32 (by decide) (fun c22 => ?_) (fun c22 => ?_)
      ·
        refine V_iconst 0 d_Land_twitches_39 (by decide) ?_
        refine V_istore 7 [some (.ref 1), some (.int n), some (.int m), some (.int c), some (.int o), some (.int s), some (.int 0), some (.int 0)] d_Land_twitches_40 (by decide) rfl rfl ?_
        refine V_iload_n 1 d_Land_twitches_42 rfl rfl ?_
        rcases (by omega : (nZ < 0 ∨ 3 < nZ) ∨ nZ = 0 ∨ nZ = 1 ∨ nZ = 2 ∨ nZ = 3) with c23 | c23 | c23 | c23 | c23
        ·
          refine V_tabOut 108 nE d_Land_twitches_43 c23 (by decide) ?_
          refine V_iload d_Land_twitches_108 rfl ?_
          refine V_if_ne 118 tc_0 d_Land_twitches_110 (by decide) (fun c24 => ?_) (fun c24 => ?_)
          ·
            exact absurd c24 (by decide)
          ·
            refine V_iload d_Land_twitches_113 rfl ?_
            refine V_if_eq 122 tc_0 d_Land_twitches_115 (by decide) (fun c25 => ?_) (fun c25 => ?_)
            ·
              refine V_iconst 0 d_Land_twitches_122 (by decide) ?_
              exact V_zret rfl (by decide) d_Land_twitches_123 ⟨0, rfl, ⟨rfl, (by unfold twR; rw [show Int32.toInt 0 = 0 from rfl]; unfold twC tw; skip; rw [uvK, ivK, lvK, uvE, ivE, lvE]; omega)⟩⟩
            ·
              exact absurd c25 (by decide)
        ·
          refine V_tabIn 72 nE d_Land_twitches_43 (by omega) (by omega) (by rw [c23]; rfl) (by decide) ?_
          refine V_iload d_Land_twitches_72 rfl ?_
          exact V_zret rfl (by decide) d_Land_twitches_74 ⟨0, rfl, ⟨rfl, (by unfold twR; rw [show Int32.toInt 0 = 0 from rfl]; unfold twC tw; skip; rw [uvK, ivK, lvK, uvE, ivE, lvE]; omega)⟩⟩
        ·
          refine V_tabIn 75 nE d_Land_twitches_43 (by omega) (by omega) (by rw [c23]; rfl) (by decide) ?_
          refine V_iload d_Land_twitches_75 rfl ?_
          exact V_zret rfl (by decide) d_Land_twitches_77 ⟨0, rfl, ⟨rfl, (by unfold twR; rw [show Int32.toInt 0 = 0 from rfl]; unfold twC tw; skip; rw [uvK, ivK, lvK, uvE, ivE, lvE]; omega)⟩⟩
        ·
          refine V_tabIn 78 nE d_Land_twitches_43 (by omega) (by omega) (by rw [c23]; rfl) (by decide) ?_
          refine V_iload d_Land_twitches_78 rfl ?_
          refine V_iconst 1 d_Land_twitches_80 (by decide) ?_
          refine N_iand d_Land_twitches_81 (fun z26 z26Z z26E z26e => ?_)
          have hod := odd_and sE (by omega) z26e z26E
          refine V_if_eq 89 z26E d_Land_twitches_82 (by decide) (fun c27 => ?_) (fun c27 => ?_)
          ·
            refine V_iconst 0 d_Land_twitches_89 (by decide) ?_
            exact V_zret rfl (by decide) d_Land_twitches_90 ⟨0, rfl, ⟨rfl, (by unfold twR; rw [show Int32.toInt 0 = 0 from rfl]; unfold twC tw; skip; rw [uvK, ivK, lvK, uvE, ivE, lvE]; omega)⟩⟩
          ·
            refine V_iconst 1 d_Land_twitches_85 (by decide) ?_
            refine V_goto 90 d_Land_twitches_86 (by decide) ?_
            exact V_zret rfl (by decide) d_Land_twitches_90 ⟨1, rfl, ⟨rfl, (by unfold twR; rw [show Int32.toInt 1 = 1 from rfl]; unfold twC tw; skip; rw [uvK, ivK, lvK, uvE, ivE, lvE]; omega)⟩⟩
        ·
          refine V_tabIn 91 nE d_Land_twitches_43 (by omega) (by omega) (by rw [c23]; rfl) (by decide) ?_
          refine V_aload_n 0 d_Land_twitches_91 rfl rfl ?_
          refine V_getR fa_Land_21 sk_1 rfl d_Land_twitches_92 ?_
          refine V_iload_n 3 d_Land_twitches_95 rfl rfl ?_
          refine N_ialdK sk_5 cE (by omega) d_Land_twitches_96 lvK ?_
          refine V_iload d_Land_twitches_97 rfl ?_
          refine V_icmp_ne 106 lvE oE d_Land_twitches_99 (by decide) (fun c29 => ?_) (fun c29 => ?_)
          ·
            refine V_iconst 0 d_Land_twitches_106 (by decide) ?_
            exact V_zret rfl (by decide) d_Land_twitches_107 ⟨0, rfl, ⟨rfl, (by unfold twR; rw [show Int32.toInt 0 = 0 from rfl]; unfold twC tw; skip; rw [uvK, ivK, lvK, uvE, ivE, lvE]; omega)⟩⟩
          ·
            refine V_iconst 1 d_Land_twitches_102 (by decide) ?_
            refine V_goto 107 d_Land_twitches_103 (by decide) ?_
            exact V_zret rfl (by decide) d_Land_twitches_107 ⟨1, rfl, ⟨rfl, (by unfold twR; rw [show Int32.toInt 1 = 1 from rfl]; unfold twC tw; skip; rw [uvK, ivK, lvK, uvE, ivE, lvE]; omega)⟩⟩
      ·
        refine V_iconst 1 d_Land_twitches_35 (by decide) ?_
        refine V_goto 40 d_Land_twitches_36 (by decide) ?_
        refine V_istore 7 [some (.ref 1), some (.int n), some (.int m), some (.int c), some (.int o), some (.int s), some (.int 0), some (.int 1)] d_Land_twitches_40 (by decide) rfl rfl ?_
        refine V_iload_n 1 d_Land_twitches_42 rfl rfl ?_
        rcases (by omega : (nZ < 0 ∨ 3 < nZ) ∨ nZ = 0 ∨ nZ = 1 ∨ nZ = 2 ∨ nZ = 3) with c30 | c30 | c30 | c30 | c30
        ·
          refine V_tabOut 108 nE d_Land_twitches_43 c30 (by decide) ?_
          refine V_iload d_Land_twitches_108 rfl ?_
          refine V_if_ne 118 tc_0 d_Land_twitches_110 (by decide) (fun c31 => ?_) (fun c31 => ?_)
          ·
            exact absurd c31 (by decide)
          ·
            refine V_iload d_Land_twitches_113 rfl ?_
            refine V_if_eq 122 tc_1 d_Land_twitches_115 (by decide) (fun c32 => ?_) (fun c32 => ?_)
            ·
              exact absurd c32 (by decide)
            ·
              refine V_iconst 1 d_Land_twitches_118 (by decide) ?_
              refine V_goto 123 d_Land_twitches_119 (by decide) ?_
              exact V_zret rfl (by decide) d_Land_twitches_123 ⟨1, rfl, ⟨rfl, (by unfold twR; rw [show Int32.toInt 1 = 1 from rfl]; unfold twC tw; skip; rw [uvK, ivK, lvK, uvE, ivE, lvE]; omega)⟩⟩
        ·
          refine V_tabIn 72 nE d_Land_twitches_43 (by omega) (by omega) (by rw [c30]; rfl) (by decide) ?_
          refine V_iload d_Land_twitches_72 rfl ?_
          exact V_zret rfl (by decide) d_Land_twitches_74 ⟨0, rfl, ⟨rfl, (by unfold twR; rw [show Int32.toInt 0 = 0 from rfl]; unfold twC tw; skip; rw [uvK, ivK, lvK, uvE, ivE, lvE]; omega)⟩⟩
        ·
          refine V_tabIn 75 nE d_Land_twitches_43 (by omega) (by omega) (by rw [c30]; rfl) (by decide) ?_
          refine V_iload d_Land_twitches_75 rfl ?_
          exact V_zret rfl (by decide) d_Land_twitches_77 ⟨1, rfl, ⟨rfl, (by unfold twR; rw [show Int32.toInt 1 = 1 from rfl]; unfold twC tw; skip; rw [uvK, ivK, lvK, uvE, ivE, lvE]; omega)⟩⟩
        ·
          refine V_tabIn 78 nE d_Land_twitches_43 (by omega) (by omega) (by rw [c30]; rfl) (by decide) ?_
          refine V_iload d_Land_twitches_78 rfl ?_
          refine V_iconst 1 d_Land_twitches_80 (by decide) ?_
          refine N_iand d_Land_twitches_81 (fun z33 z33Z z33E z33e => ?_)
          have hod := odd_and sE (by omega) z33e z33E
          refine V_if_eq 89 z33E d_Land_twitches_82 (by decide) (fun c34 => ?_) (fun c34 => ?_)
          ·
            refine V_iconst 0 d_Land_twitches_89 (by decide) ?_
            exact V_zret rfl (by decide) d_Land_twitches_90 ⟨0, rfl, ⟨rfl, (by unfold twR; rw [show Int32.toInt 0 = 0 from rfl]; unfold twC tw; skip; rw [uvK, ivK, lvK, uvE, ivE, lvE]; omega)⟩⟩
          ·
            refine V_iconst 1 d_Land_twitches_85 (by decide) ?_
            refine V_goto 90 d_Land_twitches_86 (by decide) ?_
            exact V_zret rfl (by decide) d_Land_twitches_90 ⟨1, rfl, ⟨rfl, (by unfold twR; rw [show Int32.toInt 1 = 1 from rfl]; unfold twC tw; skip; rw [uvK, ivK, lvK, uvE, ivE, lvE]; omega)⟩⟩
        ·
          refine V_tabIn 91 nE d_Land_twitches_43 (by omega) (by omega) (by rw [c30]; rfl) (by decide) ?_
          refine V_aload_n 0 d_Land_twitches_91 rfl rfl ?_
          refine V_getR fa_Land_21 sk_1 rfl d_Land_twitches_92 ?_
          refine V_iload_n 3 d_Land_twitches_95 rfl rfl ?_
          refine N_ialdK sk_5 cE (by omega) d_Land_twitches_96 lvK ?_
          refine V_iload d_Land_twitches_97 rfl ?_
          refine V_icmp_ne 106 lvE oE d_Land_twitches_99 (by decide) (fun c36 => ?_) (fun c36 => ?_)
          ·
            refine V_iconst 0 d_Land_twitches_106 (by decide) ?_
            exact V_zret rfl (by decide) d_Land_twitches_107 ⟨0, rfl, ⟨rfl, (by unfold twR; rw [show Int32.toInt 0 = 0 from rfl]; unfold twC tw; skip; rw [uvK, ivK, lvK, uvE, ivE, lvE]; omega)⟩⟩
          ·
            refine V_iconst 1 d_Land_twitches_102 (by decide) ?_
            refine V_goto 107 d_Land_twitches_103 (by decide) ?_
            exact V_zret rfl (by decide) d_Land_twitches_107 ⟨1, rfl, ⟨rfl, (by unfold twR; rw [show Int32.toInt 1 = 1 from rfl]; unfold twC tw; skip; rw [uvK, ivK, lvK, uvE, ivE, lvE]; omega)⟩⟩
    ·
      refine V_iconst 1 d_Land_twitches_19 (by decide) ?_
      refine V_goto 24 d_Land_twitches_20 (by decide) ?_
      refine V_istore 6 [some (.ref 1), some (.int n), some (.int m), some (.int c), some (.int o), some (.int s), some (.int 1), none] d_Land_twitches_24 (by decide) rfl rfl ?_
      refine V_aload_n 0 d_Land_twitches_26 rfl rfl ?_
      refine V_getR fa_Land_15 sk_1 rfl d_Land_twitches_27 ?_
      refine V_iload_n 3 d_Land_twitches_30 rfl rfl ?_
      refine N_ialdK sk_3 cE (by omega) d_Land_twitches_31 ivK ?_
      refine V_if_eq 39 ivE d_Land_twitches_32 (by decide) (fun c38 => ?_) (fun c38 => ?_)
      ·
        refine V_iconst 0 d_Land_twitches_39 (by decide) ?_
        refine V_istore 7 [some (.ref 1), some (.int n), some (.int m), some (.int c), some (.int o), some (.int s), some (.int 1), some (.int 0)] d_Land_twitches_40 (by decide) rfl rfl ?_
        refine V_iload_n 1 d_Land_twitches_42 rfl rfl ?_
        rcases (by omega : (nZ < 0 ∨ 3 < nZ) ∨ nZ = 0 ∨ nZ = 1 ∨ nZ = 2 ∨ nZ = 3) with c39 | c39 | c39 | c39 | c39
        ·
          refine V_tabOut 108 nE d_Land_twitches_43 c39 (by decide) ?_
          refine V_iload d_Land_twitches_108 rfl ?_
          refine V_if_ne 118 tc_1 d_Land_twitches_110 (by decide) (fun c40 => ?_) (fun c40 => ?_)
          ·
            refine V_iconst 1 d_Land_twitches_118 (by decide) ?_
            refine V_goto 123 d_Land_twitches_119 (by decide) ?_
            exact V_zret rfl (by decide) d_Land_twitches_123 ⟨1, rfl, ⟨rfl, (by unfold twR; rw [show Int32.toInt 1 = 1 from rfl]; unfold twC tw; skip; rw [uvK, ivK, lvK, uvE, ivE, lvE]; omega)⟩⟩
          ·
            exact absurd c40 (by decide)
        ·
          refine V_tabIn 72 nE d_Land_twitches_43 (by omega) (by omega) (by rw [c39]; rfl) (by decide) ?_
          refine V_iload d_Land_twitches_72 rfl ?_
          exact V_zret rfl (by decide) d_Land_twitches_74 ⟨1, rfl, ⟨rfl, (by unfold twR; rw [show Int32.toInt 1 = 1 from rfl]; unfold twC tw; skip; rw [uvK, ivK, lvK, uvE, ivE, lvE]; omega)⟩⟩
        ·
          refine V_tabIn 75 nE d_Land_twitches_43 (by omega) (by omega) (by rw [c39]; rfl) (by decide) ?_
          refine V_iload d_Land_twitches_75 rfl ?_
          exact V_zret rfl (by decide) d_Land_twitches_77 ⟨0, rfl, ⟨rfl, (by unfold twR; rw [show Int32.toInt 0 = 0 from rfl]; unfold twC tw; skip; rw [uvK, ivK, lvK, uvE, ivE, lvE]; omega)⟩⟩
        ·
          refine V_tabIn 78 nE d_Land_twitches_43 (by omega) (by omega) (by rw [c39]; rfl) (by decide) ?_
          refine V_iload d_Land_twitches_78 rfl ?_
          refine V_iconst 1 d_Land_twitches_80 (by decide) ?_
          refine N_iand d_Land_twitches_81 (fun z41 z41Z z41E z41e => ?_)
          have hod := odd_and sE (by omega) z41e z41E
          refine V_if_eq 89 z41E d_Land_twitches_82 (by decide) (fun c42 => ?_) (fun c42 => ?_)
          ·
            refine V_iconst 0 d_Land_twitches_89 (by decide) ?_
            exact V_zret rfl (by decide) d_Land_twitches_90 ⟨0, rfl, ⟨rfl, (by unfold twR; rw [show Int32.toInt 0 = 0 from rfl]; unfold twC tw; skip; rw [uvK, ivK, lvK, uvE, ivE, lvE]; omega)⟩⟩
          ·
            refine V_iconst 1 d_Land_twitches_85 (by decide) ?_
            refine V_goto 90 d_Land_twitches_86 (by decide) ?_
            exact V_zret rfl (by decide) d_Land_twitches_90 ⟨1, rfl, ⟨rfl, (by unfold twR; rw [show Int32.toInt 1 = 1 from rfl]; unfold twC tw; skip; rw [uvK, ivK, lvK, uvE, ivE, lvE]; omega)⟩⟩
        ·
          refine V_tabIn 91 nE d_Land_twitches_43 (by omega) (by omega) (by rw [c39]; rfl) (by decide) ?_
          refine V_aload_n 0 d_Land_twitches_91 rfl rfl ?_
          refine V_getR fa_Land_21 sk_1 rfl d_Land_twitches_92 ?_
          refine V_iload_n 3 d_Land_twitches_95 rfl rfl ?_
          refine N_ialdK sk_5 cE (by omega) d_Land_twitches_96 lvK ?_
          refine V_iload d_Land_twitches_97 rfl ?_
          refine V_icmp_ne 106 lvE oE d_Land_twitches_99 (by decide) (fun c44 => ?_) (fun c44 => ?_)
          ·
            refine V_iconst 0 d_Land_twitches_106 (by decide) ?_
            exact V_zret rfl (by decide) d_Land_twitches_107 ⟨0, rfl, ⟨rfl, (by unfold twR; rw [show Int32.toInt 0 = 0 from rfl]; unfold twC tw; skip; rw [uvK, ivK, lvK, uvE, ivE, lvE]; omega)⟩⟩
          ·
            refine V_iconst 1 d_Land_twitches_102 (by decide) ?_
            refine V_goto 107 d_Land_twitches_103 (by decide) ?_
            exact V_zret rfl (by decide) d_Land_twitches_107 ⟨1, rfl, ⟨rfl, (by unfold twR; rw [show Int32.toInt 1 = 1 from rfl]; unfold twC tw; skip; rw [uvK, ivK, lvK, uvE, ivE, lvE]; omega)⟩⟩
      ·
        refine V_iconst 1 d_Land_twitches_35 (by decide) ?_
        refine V_goto 40 d_Land_twitches_36 (by decide) ?_
        refine V_istore 7 [some (.ref 1), some (.int n), some (.int m), some (.int c), some (.int o), some (.int s), some (.int 1), some (.int 1)] d_Land_twitches_40 (by decide) rfl rfl ?_
        refine V_iload_n 1 d_Land_twitches_42 rfl rfl ?_
        rcases (by omega : (nZ < 0 ∨ 3 < nZ) ∨ nZ = 0 ∨ nZ = 1 ∨ nZ = 2 ∨ nZ = 3) with c45 | c45 | c45 | c45 | c45
        ·
          refine V_tabOut 108 nE d_Land_twitches_43 c45 (by decide) ?_
          refine V_iload d_Land_twitches_108 rfl ?_
          refine V_if_ne 118 tc_1 d_Land_twitches_110 (by decide) (fun c46 => ?_) (fun c46 => ?_)
          ·
            refine V_iconst 1 d_Land_twitches_118 (by decide) ?_
            refine V_goto 123 d_Land_twitches_119 (by decide) ?_
            exact V_zret rfl (by decide) d_Land_twitches_123 ⟨1, rfl, ⟨rfl, (by unfold twR; rw [show Int32.toInt 1 = 1 from rfl]; unfold twC tw; skip; rw [uvK, ivK, lvK, uvE, ivE, lvE]; omega)⟩⟩
          ·
            exact absurd c46 (by decide)
        ·
          refine V_tabIn 72 nE d_Land_twitches_43 (by omega) (by omega) (by rw [c45]; rfl) (by decide) ?_
          refine V_iload d_Land_twitches_72 rfl ?_
          exact V_zret rfl (by decide) d_Land_twitches_74 ⟨1, rfl, ⟨rfl, (by unfold twR; rw [show Int32.toInt 1 = 1 from rfl]; unfold twC tw; skip; rw [uvK, ivK, lvK, uvE, ivE, lvE]; omega)⟩⟩
        ·
          refine V_tabIn 75 nE d_Land_twitches_43 (by omega) (by omega) (by rw [c45]; rfl) (by decide) ?_
          refine V_iload d_Land_twitches_75 rfl ?_
          exact V_zret rfl (by decide) d_Land_twitches_77 ⟨1, rfl, ⟨rfl, (by unfold twR; rw [show Int32.toInt 1 = 1 from rfl]; unfold twC tw; skip; rw [uvK, ivK, lvK, uvE, ivE, lvE]; omega)⟩⟩
        ·
          refine V_tabIn 78 nE d_Land_twitches_43 (by omega) (by omega) (by rw [c45]; rfl) (by decide) ?_
          refine V_iload d_Land_twitches_78 rfl ?_
          refine V_iconst 1 d_Land_twitches_80 (by decide) ?_
          refine N_iand d_Land_twitches_81 (fun z47 z47Z z47E z47e => ?_)
          have hod := odd_and sE (by omega) z47e z47E
          refine V_if_eq 89 z47E d_Land_twitches_82 (by decide) (fun c48 => ?_) (fun c48 => ?_)
          ·
            refine V_iconst 0 d_Land_twitches_89 (by decide) ?_
            exact V_zret rfl (by decide) d_Land_twitches_90 ⟨0, rfl, ⟨rfl, (by unfold twR; rw [show Int32.toInt 0 = 0 from rfl]; unfold twC tw; skip; rw [uvK, ivK, lvK, uvE, ivE, lvE]; omega)⟩⟩
          ·
            refine V_iconst 1 d_Land_twitches_85 (by decide) ?_
            refine V_goto 90 d_Land_twitches_86 (by decide) ?_
            exact V_zret rfl (by decide) d_Land_twitches_90 ⟨1, rfl, ⟨rfl, (by unfold twR; rw [show Int32.toInt 1 = 1 from rfl]; unfold twC tw; skip; rw [uvK, ivK, lvK, uvE, ivE, lvE]; omega)⟩⟩
        ·
          refine V_tabIn 91 nE d_Land_twitches_43 (by omega) (by omega) (by rw [c45]; rfl) (by decide) ?_
          refine V_aload_n 0 d_Land_twitches_91 rfl rfl ?_
          refine V_getR fa_Land_21 sk_1 rfl d_Land_twitches_92 ?_
          refine V_iload_n 3 d_Land_twitches_95 rfl rfl ?_
          refine N_ialdK sk_5 cE (by omega) d_Land_twitches_96 lvK ?_
          refine V_iload d_Land_twitches_97 rfl ?_
          refine V_icmp_ne 106 lvE oE d_Land_twitches_99 (by decide) (fun c50 => ?_) (fun c50 => ?_)
          ·
            refine V_iconst 0 d_Land_twitches_106 (by decide) ?_
            exact V_zret rfl (by decide) d_Land_twitches_107 ⟨0, rfl, ⟨rfl, (by unfold twR; rw [show Int32.toInt 0 = 0 from rfl]; unfold twC tw; skip; rw [uvK, ivK, lvK, uvE, ivE, lvE]; omega)⟩⟩
          ·
            refine V_iconst 1 d_Land_twitches_102 (by decide) ?_
            refine V_goto 107 d_Land_twitches_103 (by decide) ?_
            exact V_zret rfl (by decide) d_Land_twitches_107 ⟨1, rfl, ⟨rfl, (by unfold twR; rw [show Int32.toInt 1 = 1 from rfl]; unfold twC tw; skip; rw [uvK, ivK, lvK, uvE, ivE, lvE]; omega)⟩⟩
abbrev q_Mod_doesTwitchX (h : Hp) (n : Int32) (nZ : Int) (m : Int32) (mZ : Int) (c : Int32) (cZ : Int) (o : Int32) (oZ : Int) (s : Int32) (sZ : Int) : Option Value → Hp → Prop := pInt (fun r h' => h = h' ∧ (twR r (twM h nZ mZ cZ.toNat oZ sZ)))
set_option maxRecDepth 100000 in
theorem c_Mod_doesTwitchX (h : Hp) (hI : Inv h) (n : Int32) (nZ : Int) (nE : n.toInt = nZ) (m : Int32) (mZ : Int) (mE : m.toInt = mZ) (c : Int32) (cZ : Int) (cE : c.toInt = cZ) (o : Int32) (oZ : Int) (oE : o.toInt = oZ) (s : Int32) (sZ : Int) (sE : s.toInt = sZ) (hy0 : 0 ≤ cZ ∧ cZ ≤ 15) (hy1 : 0 ≤ sZ) : Ct y_Mod_doesTwitch b_Mod_doesTwitch 8 (some .boolean) 0 0 [.ref 116, .int n, .int m, .int c, .int o, .int s] h (q_Mod_doesTwitchX h n nZ m mZ c cZ o oZ s sZ) := by
  refine ct_ow R_Mod [some (.ref 116), some (.int n), some (.int m), some (.int c), some (.int o), some (.int s), none, none] rfl (by decide) rfl (Nat.le_of_ble_eq_true rfl) ?_
  have f0 : fr [] h h := fr_rf
  obtain ⟨uv, uvZ, uvE, uvK⟩ : ∃ (y : Int32) (Y : Int), y.toInt = Y ∧ h.1 117 ((0 + cZ)).toNat = y := ⟨_, _, rfl, rfl⟩
  obtain ⟨iv, ivZ, ivE, ivK⟩ : ∃ (y : Int32) (Y : Int), y.toInt = Y ∧ h.1 117 ((16 + cZ)).toNat = y := ⟨_, _, rfl, rfl⟩
  obtain ⟨lv, lvZ, lvE, lvK⟩ : ∃ (y : Int32) (Y : Int), y.toInt = Y ∧ h.1 117 ((48 + cZ)).toNat = y := ⟨_, _, rfl, rfl⟩
  refine V_aload_n 0 d_Mod_doesTwitch_0 rfl rfl ?_
  refine V_getR fa_Mod_7 sk_116 rfl d_Mod_doesTwitch_1 ?_
  refine V_iconst 0 d_Mod_doesTwitch_4 (by decide) ?_
  refine V_iload_n 3 d_Mod_doesTwitch_5 rfl rfl ?_
  refine V_iadd tc_0 cE (by omega) d_Mod_doesTwitch_6 (fun z1 z1e z1E => ?_)
  refine N_ialdK sk_117 z1E (by omega) d_Mod_doesTwitch_7 uvK ?_
  refine V_if_le 27 uvE d_Mod_doesTwitch_8 (by decide) (fun c3 => ?_) (fun c3 => ?_)
  ·
    refine V_iconst 0 d_Mod_doesTwitch_27 (by decide) ?_
    refine V_istore 6 [some (.ref 116), some (.int n), some (.int m), some (.int c), some (.int o), some (.int s), some (.int 0), none] d_Mod_doesTwitch_28 (by decide) rfl rfl ?_
    refine V_aload_n 0 d_Mod_doesTwitch_30 rfl rfl ?_
    refine V_getR fa_Mod_7 sk_116 rfl d_Mod_doesTwitch_31 ?_
    refine V_bipush 16 d_Mod_doesTwitch_34 (by decide) ?_
    refine V_iload_n 3 d_Mod_doesTwitch_36 rfl rfl ?_
    refine V_iadd tc_16 cE (by omega) d_Mod_doesTwitch_37 (fun z4 z4e z4E => ?_)
    refine N_ialdK sk_117 z4E (by omega) d_Mod_doesTwitch_38 ivK ?_
    refine V_iconst 1 d_Mod_doesTwitch_39 (by decide) ?_
    refine V_icmp_ne 47 ivE tc_1 d_Mod_doesTwitch_40 (by decide) (fun c6 => ?_) (fun c6 => ?_)
    ·
      refine V_iconst 0 d_Mod_doesTwitch_47 (by decide) ?_
      refine V_istore 7 [some (.ref 116), some (.int n), some (.int m), some (.int c), some (.int o), some (.int s), some (.int 0), some (.int 0)] d_Mod_doesTwitch_48 (by decide) rfl rfl ?_
      refine V_iload_n 1 d_Mod_doesTwitch_50 rfl rfl ?_
      rcases (by omega : (nZ < 0 ∨ 3 < nZ) ∨ nZ = 0 ∨ nZ = 1 ∨ nZ = 2 ∨ nZ = 3) with c7 | c7 | c7 | c7 | c7
      ·
        refine V_tabOut 120 nE d_Mod_doesTwitch_51 c7 (by decide) ?_
        refine V_iload d_Mod_doesTwitch_120 rfl ?_
        refine V_if_ne 130 tc_0 d_Mod_doesTwitch_122 (by decide) (fun c8 => ?_) (fun c8 => ?_)
        ·
          exact absurd c8 (by decide)
        ·
          refine V_iload d_Mod_doesTwitch_125 rfl ?_
          refine V_if_eq 134 tc_0 d_Mod_doesTwitch_127 (by decide) (fun c9 => ?_) (fun c9 => ?_)
          ·
            refine V_iconst 0 d_Mod_doesTwitch_134 (by decide) ?_
            exact V_zret rfl (by decide) d_Mod_doesTwitch_135 ⟨0, rfl, ⟨rfl, (by unfold twR; rw [show Int32.toInt 0 = 0 from rfl]; unfold twM tw; rw [show 16 + cZ.toNat = (16 + cZ).toNat by omega, show 48 + cZ.toNat = (48 + cZ).toNat by omega, show cZ.toNat = (0 + cZ).toNat by omega]; rw [uvK, ivK, lvK, uvE, ivE, lvE]; omega)⟩⟩
          ·
            exact absurd c9 (by decide)
      ·
        refine V_tabIn 80 nE d_Mod_doesTwitch_51 (by omega) (by omega) (by rw [c7]; rfl) (by decide) ?_
        refine V_iload d_Mod_doesTwitch_80 rfl ?_
        exact V_zret rfl (by decide) d_Mod_doesTwitch_82 ⟨0, rfl, ⟨rfl, (by unfold twR; rw [show Int32.toInt 0 = 0 from rfl]; unfold twM tw; rw [show 16 + cZ.toNat = (16 + cZ).toNat by omega, show 48 + cZ.toNat = (48 + cZ).toNat by omega, show cZ.toNat = (0 + cZ).toNat by omega]; rw [uvK, ivK, lvK, uvE, ivE, lvE]; omega)⟩⟩
      ·
        refine V_tabIn 83 nE d_Mod_doesTwitch_51 (by omega) (by omega) (by rw [c7]; rfl) (by decide) ?_
        refine V_iload d_Mod_doesTwitch_83 rfl ?_
        exact V_zret rfl (by decide) d_Mod_doesTwitch_85 ⟨0, rfl, ⟨rfl, (by unfold twR; rw [show Int32.toInt 0 = 0 from rfl]; unfold twM tw; rw [show 16 + cZ.toNat = (16 + cZ).toNat by omega, show 48 + cZ.toNat = (48 + cZ).toNat by omega, show cZ.toNat = (0 + cZ).toNat by omega]; rw [uvK, ivK, lvK, uvE, ivE, lvE]; omega)⟩⟩
      ·
        refine V_tabIn 86 nE d_Mod_doesTwitch_51 (by omega) (by omega) (by rw [c7]; rfl) (by decide) ?_
        refine V_iload d_Mod_doesTwitch_86 rfl ?_
        refine V_iconst 2 d_Mod_doesTwitch_88 (by decide) ?_
        refine N_irem sE tc_2 (by omega) d_Mod_doesTwitch_89 (fun z10 z10e z10E => ?_)
        refine V_iconst 1 d_Mod_doesTwitch_90 (by decide) ?_
        refine V_icmp_ne 98 z10E tc_1 d_Mod_doesTwitch_91 (by decide) (fun c11 => ?_) (fun c11 => ?_)
        ·
          refine V_iconst 0 d_Mod_doesTwitch_98 (by decide) ?_
          exact V_zret rfl (by decide) d_Mod_doesTwitch_99 ⟨0, rfl, ⟨rfl, (by unfold twR; rw [show Int32.toInt 0 = 0 from rfl]; unfold twM tw; rw [show 16 + cZ.toNat = (16 + cZ).toNat by omega, show 48 + cZ.toNat = (48 + cZ).toNat by omega, show cZ.toNat = (0 + cZ).toNat by omega]; rw [uvK, ivK, lvK, uvE, ivE, lvE]; omega)⟩⟩
        ·
          refine V_iconst 1 d_Mod_doesTwitch_94 (by decide) ?_
          refine V_goto 99 d_Mod_doesTwitch_95 (by decide) ?_
          exact V_zret rfl (by decide) d_Mod_doesTwitch_99 ⟨1, rfl, ⟨rfl, (by unfold twR; rw [show Int32.toInt 1 = 1 from rfl]; unfold twM tw; rw [show 16 + cZ.toNat = (16 + cZ).toNat by omega, show 48 + cZ.toNat = (48 + cZ).toNat by omega, show cZ.toNat = (0 + cZ).toNat by omega]; rw [uvK, ivK, lvK, uvE, ivE, lvE]; omega)⟩⟩
      ·
        refine V_tabIn 100 nE d_Mod_doesTwitch_51 (by omega) (by omega) (by rw [c7]; rfl) (by decide) ?_
        refine V_aload_n 0 d_Mod_doesTwitch_100 rfl rfl ?_
        refine V_getR fa_Mod_7 sk_116 rfl d_Mod_doesTwitch_101 ?_
        refine V_bipush 48 d_Mod_doesTwitch_104 (by decide) ?_
        refine V_iload_n 3 d_Mod_doesTwitch_106 rfl rfl ?_
        refine V_iadd tc_48 cE (by omega) d_Mod_doesTwitch_107 (fun z12 z12e z12E => ?_)
        refine N_ialdK sk_117 z12E (by omega) d_Mod_doesTwitch_108 lvK ?_
        refine V_iload d_Mod_doesTwitch_109 rfl ?_
        refine V_icmp_ne 118 lvE oE d_Mod_doesTwitch_111 (by decide) (fun c14 => ?_) (fun c14 => ?_)
        ·
          refine V_iconst 0 d_Mod_doesTwitch_118 (by decide) ?_
          exact V_zret rfl (by decide) d_Mod_doesTwitch_119 ⟨0, rfl, ⟨rfl, (by unfold twR; rw [show Int32.toInt 0 = 0 from rfl]; unfold twM tw; rw [show 16 + cZ.toNat = (16 + cZ).toNat by omega, show 48 + cZ.toNat = (48 + cZ).toNat by omega, show cZ.toNat = (0 + cZ).toNat by omega]; rw [uvK, ivK, lvK, uvE, ivE, lvE]; omega)⟩⟩
        ·
          refine V_iconst 1 d_Mod_doesTwitch_114 (by decide) ?_
          refine V_goto 119 d_Mod_doesTwitch_115 (by decide) ?_
          exact V_zret rfl (by decide) d_Mod_doesTwitch_119 ⟨1, rfl, ⟨rfl, (by unfold twR; rw [show Int32.toInt 1 = 1 from rfl]; unfold twM tw; rw [show 16 + cZ.toNat = (16 + cZ).toNat by omega, show 48 + cZ.toNat = (48 + cZ).toNat by omega, show cZ.toNat = (0 + cZ).toNat by omega]; rw [uvK, ivK, lvK, uvE, ivE, lvE]; omega)⟩⟩
    ·
      refine V_iconst 1 d_Mod_doesTwitch_43 (by decide) ?_
      refine V_goto 48 d_Mod_doesTwitch_44 (by decide) ?_
      refine V_istore 7 [some (.ref 116), some (.int n), some (.int m), some (.int c), some (.int o), some (.int s), some (.int 0), some (.int 1)] d_Mod_doesTwitch_48 (by decide) rfl rfl ?_
      refine V_iload_n 1 d_Mod_doesTwitch_50 rfl rfl ?_
      rcases (by omega : (nZ < 0 ∨ 3 < nZ) ∨ nZ = 0 ∨ nZ = 1 ∨ nZ = 2 ∨ nZ = 3) with c15 | c15 | c15 | c15 | c15
      ·
        refine V_tabOut 120 nE d_Mod_doesTwitch_51 c15 (by decide) ?_
        refine V_iload d_Mod_doesTwitch_120 rfl ?_
        refine V_if_ne 130 tc_0 d_Mod_doesTwitch_122 (by decide) (fun c16 => ?_) (fun c16 => ?_)
        ·
          exact absurd c16 (by decide)
        ·
          refine V_iload d_Mod_doesTwitch_125 rfl ?_
          refine V_if_eq 134 tc_1 d_Mod_doesTwitch_127 (by decide) (fun c17 => ?_) (fun c17 => ?_)
          ·
            exact absurd c17 (by decide)
          ·
            refine V_iconst 1 d_Mod_doesTwitch_130 (by decide) ?_
            refine V_goto 135 d_Mod_doesTwitch_131 (by decide) ?_
            exact V_zret rfl (by decide) d_Mod_doesTwitch_135 ⟨1, rfl, ⟨rfl, (by unfold twR; rw [show Int32.toInt 1 = 1 from rfl]; unfold twM tw; rw [show 16 + cZ.toNat = (16 + cZ).toNat by omega, show 48 + cZ.toNat = (48 + cZ).toNat by omega, show cZ.toNat = (0 + cZ).toNat by omega]; rw [uvK, ivK, lvK, uvE, ivE, lvE]; omega)⟩⟩
      ·
        refine V_tabIn 80 nE d_Mod_doesTwitch_51 (by omega) (by omega) (by rw [c15]; rfl) (by decide) ?_
        refine V_iload d_Mod_doesTwitch_80 rfl ?_
        exact V_zret rfl (by decide) d_Mod_doesTwitch_82 ⟨0, rfl, ⟨rfl, (by unfold twR; rw [show Int32.toInt 0 = 0 from rfl]; unfold twM tw; rw [show 16 + cZ.toNat = (16 + cZ).toNat by omega, show 48 + cZ.toNat = (48 + cZ).toNat by omega, show cZ.toNat = (0 + cZ).toNat by omega]; rw [uvK, ivK, lvK, uvE, ivE, lvE]; omega)⟩⟩
      ·
        refine V_tabIn 83 nE d_Mod_doesTwitch_51 (by omega) (by omega) (by rw [c15]; rfl) (by decide) ?_
        refine V_iload d_Mod_doesTwitch_83 rfl ?_
        exact V_zret rfl (by decide) d_Mod_doesTwitch_85 ⟨1, rfl, ⟨rfl, (by unfold twR; rw [show Int32.toInt 1 = 1 from rfl]; unfold twM tw; rw [show 16 + cZ.toNat = (16 + cZ).toNat by omega, show 48 + cZ.toNat = (48 + cZ).toNat by omega, show cZ.toNat = (0 + cZ).toNat by omega]; rw [uvK, ivK, lvK, uvE, ivE, lvE]; omega)⟩⟩
      ·
        refine V_tabIn 86 nE d_Mod_doesTwitch_51 (by omega) (by omega) (by rw [c15]; rfl) (by decide) ?_
        refine V_iload d_Mod_doesTwitch_86 rfl ?_
        refine V_iconst 2 d_Mod_doesTwitch_88 (by decide) ?_
        refine N_irem sE tc_2 (by omega) d_Mod_doesTwitch_89 (fun z18 z18e z18E => ?_)
        refine V_iconst 1 d_Mod_doesTwitch_90 (by decide) ?_
        refine V_icmp_ne 98 z18E tc_1 d_Mod_doesTwitch_91 (by decide) (fun c19 => ?_) (fun c19 => ?_)
        ·
          refine V_iconst 0 d_Mod_doesTwitch_98 (by decide) ?_
          exact V_zret rfl (by decide) d_Mod_doesTwitch_99 ⟨0, rfl, ⟨rfl, (by unfold twR; rw [show Int32.toInt 0 = 0 from rfl]; unfold twM tw; rw [show 16 + cZ.toNat = (16 + cZ).toNat by omega, show 48 + cZ.toNat = (48 + cZ).toNat by omega, show cZ.toNat = (0 + cZ).toNat by omega]; rw [uvK, ivK, lvK, uvE, ivE, lvE]; omega)⟩⟩
        ·
          refine V_iconst 1 d_Mod_doesTwitch_94 (by decide) ?_
          refine V_goto 99 d_Mod_doesTwitch_95 (by decide) ?_
          exact V_zret rfl (by decide) d_Mod_doesTwitch_99 ⟨1, rfl, ⟨rfl, (by unfold twR; rw [show Int32.toInt 1 = 1 from rfl]; unfold twM tw; rw [show 16 + cZ.toNat = (16 + cZ).toNat by omega, show 48 + cZ.toNat = (48 + cZ).toNat by omega, show cZ.toNat = (0 + cZ).toNat by omega]; rw [uvK, ivK, lvK, uvE, ivE, lvE]; omega)⟩⟩
      ·
        refine V_tabIn 100 nE d_Mod_doesTwitch_51 (by omega) (by omega) (by rw [c15]; rfl) (by decide) ?_
        refine V_aload_n 0 d_Mod_doesTwitch_100 rfl rfl ?_
        refine V_getR fa_Mod_7 sk_116 rfl d_Mod_doesTwitch_101 ?_
        refine V_bipush 48 d_Mod_doesTwitch_104 (by decide) ?_
        refine V_iload_n 3 d_Mod_doesTwitch_106 rfl rfl ?_
        refine V_iadd tc_48 cE (by omega) d_Mod_doesTwitch_107 (fun z20 z20e z20E => ?_)
        refine N_ialdK sk_117 z20E (by omega) d_Mod_doesTwitch_108 lvK ?_
        refine V_iload d_Mod_doesTwitch_109 rfl ?_
        refine V_icmp_ne 118 lvE oE d_Mod_doesTwitch_111 (by decide) (fun c22 => ?_) (fun c22 => ?_)
        ·
          refine V_iconst 0 d_Mod_doesTwitch_118 (by decide) ?_
          exact V_zret rfl (by decide) d_Mod_doesTwitch_119 ⟨0, rfl, ⟨rfl, (by unfold twR; rw [show Int32.toInt 0 = 0 from rfl]; unfold twM tw; rw [show 16 + cZ.toNat = (16 + cZ).toNat by omega, show 48 + cZ.toNat = (48 + cZ).toNat by omega, show cZ.toNat = (0 + cZ).toNat by omega]; rw [uvK, ivK, lvK, uvE, ivE, lvE]; omega)⟩⟩
        ·
          refine V_iconst 1 d_Mod_doesTwitch_114 (by decide) ?_
          refine V_goto 119 d_Mod_doesTwitch_115 (by decide) ?_
          exact V_zret rfl (by decide) d_Mod_doesTwitch_119 ⟨1, rfl, ⟨rfl, (by unfold twR; rw [show Int32.toInt 1 = 1 from rfl]; unfold twM tw; rw [show 16 + cZ.toNat = (16 + cZ).toNat by omega, show 48 + cZ.toNat = (48 + cZ).toNat by omega, show cZ.toNat = (0 + cZ).toNat by omega]; rw [uvK, ivK, lvK, uvE, ivE, lvE]; omega)⟩⟩
  ·
    refine V_aload_n 0 d_Mod_doesTwitch_11 rfl rfl ?_
    refine V_getR fa_Mod_7 sk_116 rfl d_Mod_doesTwitch_12 ?_
    refine V_iconst 0 d_Mod_doesTwitch_15 (by decide) ?_
    refine V_iload_n 3 d_Mod_doesTwitch_16 rfl rfl ?_
    refine V_iadd tc_0 cE (by omega) d_Mod_doesTwitch_17 (fun z23 z23e z23E => ?_)
    refine N_ialdK sk_117 z23E (by omega) d_Mod_doesTwitch_18 uvK ?_
    refine V_iload_n 2 d_Mod_doesTwitch_19 rfl rfl ?_
    refine V_icmp_gt 27 uvE mE d_Mod_doesTwitch_20 (by decide) (fun c25 => ?_) (fun c25 => ?_)
    ·
      refine V_iconst 0 d_Mod_doesTwitch_27 (by decide) ?_
      refine V_istore 6 [some (.ref 116), some (.int n), some (.int m), some (.int c), some (.int o), some (.int s), some (.int 0), none] d_Mod_doesTwitch_28 (by decide) rfl rfl ?_
      refine V_aload_n 0 d_Mod_doesTwitch_30 rfl rfl ?_
      refine V_getR fa_Mod_7 sk_116 rfl d_Mod_doesTwitch_31 ?_
      refine V_bipush 16 d_Mod_doesTwitch_34 (by decide) ?_
      refine V_iload_n 3 d_Mod_doesTwitch_36 rfl rfl ?_
      refine V_iadd tc_16 cE (by omega) d_Mod_doesTwitch_37 (fun z26 z26e z26E => ?_)
      refine N_ialdK sk_117 z26E (by omega) d_Mod_doesTwitch_38 ivK ?_
      refine V_iconst 1 d_Mod_doesTwitch_39 (by decide) ?_
      refine V_icmp_ne 47 ivE tc_1 d_Mod_doesTwitch_40 (by decide) (fun c28 => ?_) (fun c28 => ?_)
      ·
        refine V_iconst 0 d_Mod_doesTwitch_47 (by decide) ?_
        refine V_istore 7 [some (.ref 116), some (.int n), some (.int m), some (.int c), some (.int o), some (.int s), some (.int 0), some (.int 0)] d_Mod_doesTwitch_48 (by decide) rfl rfl ?_
        refine V_iload_n 1 d_Mod_doesTwitch_50 rfl rfl ?_
        rcases (by omega : (nZ < 0 ∨ 3 < nZ) ∨ nZ = 0 ∨ nZ = 1 ∨ nZ = 2 ∨ nZ = 3) with c29 | c29 | c29 | c29 | c29
        ·
          refine V_tabOut 120 nE d_Mod_doesTwitch_51 c29 (by decide) ?_
          refine V_iload d_Mod_doesTwitch_120 rfl ?_
          refine V_if_ne 130 tc_0 d_Mod_doesTwitch_122 (by decide) (fun c30 => ?_) (fun c30 => ?_)
          ·
            exact absurd c30 (by decide)
          ·
            refine V_iload d_Mod_doesTwitch_125 rfl ?_
            refine V_if_eq 134 tc_0 d_Mod_doesTwitch_127 (by decide) (fun c31 => ?_) (fun c31 => ?_)
            ·
              refine V_iconst 0 d_Mod_doesTwitch_134 (by decide) ?_
              exact V_zret rfl (by decide) d_Mod_doesTwitch_135 ⟨0, rfl, ⟨rfl, (by unfold twR; rw [show Int32.toInt 0 = 0 from rfl]; unfold twM tw; rw [show 16 + cZ.toNat = (16 + cZ).toNat by omega, show 48 + cZ.toNat = (48 + cZ).toNat by omega, show cZ.toNat = (0 + cZ).toNat by omega]; rw [uvK, ivK, lvK, uvE, ivE, lvE]; omega)⟩⟩
            ·
              exact absurd c31 (by decide)
        ·
          refine V_tabIn 80 nE d_Mod_doesTwitch_51 (by omega) (by omega) (by rw [c29]; rfl) (by decide) ?_
          refine V_iload d_Mod_doesTwitch_80 rfl ?_
          exact V_zret rfl (by decide) d_Mod_doesTwitch_82 ⟨0, rfl, ⟨rfl, (by unfold twR; rw [show Int32.toInt 0 = 0 from rfl]; unfold twM tw; rw [show 16 + cZ.toNat = (16 + cZ).toNat by omega, show 48 + cZ.toNat = (48 + cZ).toNat by omega, show cZ.toNat = (0 + cZ).toNat by omega]; rw [uvK, ivK, lvK, uvE, ivE, lvE]; omega)⟩⟩
        ·
          refine V_tabIn 83 nE d_Mod_doesTwitch_51 (by omega) (by omega) (by rw [c29]; rfl) (by decide) ?_
          refine V_iload d_Mod_doesTwitch_83 rfl ?_
          exact V_zret rfl (by decide) d_Mod_doesTwitch_85 ⟨0, rfl, ⟨rfl, (by unfold twR; rw [show Int32.toInt 0 = 0 from rfl]; unfold twM tw; rw [show 16 + cZ.toNat = (16 + cZ).toNat by omega, show 48 + cZ.toNat = (48 + cZ).toNat by omega, show cZ.toNat = (0 + cZ).toNat by omega]; rw [uvK, ivK, lvK, uvE, ivE, lvE]; omega)⟩⟩
        ·
          refine V_tabIn 86 nE d_Mod_doesTwitch_51 (by omega) (by omega) (by rw [c29]; rfl) (by decide) ?_
          refine V_iload d_Mod_doesTwitch_86 rfl ?_
          refine V_iconst 2 d_Mod_doesTwitch_88 (by decide) ?_
          refine N_irem sE tc_2 (by omega) d_Mod_doesTwitch_89 (fun z32 z32e z32E => ?_)
          refine V_iconst 1 d_Mod_doesTwitch_90 (by decide) ?_
          refine V_icmp_ne 98 z32E tc_1 d_Mod_doesTwitch_91 (by decide) (fun c33 => ?_) (fun c33 => ?_)
          ·
            refine V_iconst 0 d_Mod_doesTwitch_98 (by decide) ?_
            exact V_zret rfl (by decide) d_Mod_doesTwitch_99 ⟨0, rfl, ⟨rfl, (by unfold twR; rw [show Int32.toInt 0 = 0 from rfl]; unfold twM tw; rw [show 16 + cZ.toNat = (16 + cZ).toNat by omega, show 48 + cZ.toNat = (48 + cZ).toNat by omega, show cZ.toNat = (0 + cZ).toNat by omega]; rw [uvK, ivK, lvK, uvE, ivE, lvE]; omega)⟩⟩
          ·
            refine V_iconst 1 d_Mod_doesTwitch_94 (by decide) ?_
            refine V_goto 99 d_Mod_doesTwitch_95 (by decide) ?_
            exact V_zret rfl (by decide) d_Mod_doesTwitch_99 ⟨1, rfl, ⟨rfl, (by unfold twR; rw [show Int32.toInt 1 = 1 from rfl]; unfold twM tw; rw [show 16 + cZ.toNat = (16 + cZ).toNat by omega, show 48 + cZ.toNat = (48 + cZ).toNat by omega, show cZ.toNat = (0 + cZ).toNat by omega]; rw [uvK, ivK, lvK, uvE, ivE, lvE]; omega)⟩⟩
        ·
          refine V_tabIn 100 nE d_Mod_doesTwitch_51 (by omega) (by omega) (by rw [c29]; rfl) (by decide) ?_
          refine V_aload_n 0 d_Mod_doesTwitch_100 rfl rfl ?_
          refine V_getR fa_Mod_7 sk_116 rfl d_Mod_doesTwitch_101 ?_
          refine V_bipush 48 d_Mod_doesTwitch_104 (by decide) ?_
          refine V_iload_n 3 d_Mod_doesTwitch_106 rfl rfl ?_
          refine V_iadd tc_48 cE (by omega) d_Mod_doesTwitch_107 (fun z34 z34e z34E => ?_)
          refine N_ialdK sk_117 z34E (by omega) d_Mod_doesTwitch_108 lvK ?_
          refine V_iload d_Mod_doesTwitch_109 rfl ?_
          refine V_icmp_ne 118 lvE oE d_Mod_doesTwitch_111 (by decide) (fun c36 => ?_) (fun c36 => ?_)
          ·
            refine V_iconst 0 d_Mod_doesTwitch_118 (by decide) ?_
            exact V_zret rfl (by decide) d_Mod_doesTwitch_119 ⟨0, rfl, ⟨rfl, (by unfold twR; rw [show Int32.toInt 0 = 0 from rfl]; unfold twM tw; rw [show 16 + cZ.toNat = (16 + cZ).toNat by omega, show 48 + cZ.toNat = (48 + cZ).toNat by omega, show cZ.toNat = (0 + cZ).toNat by omega]; rw [uvK, ivK, lvK, uvE, ivE, lvE]; omega)⟩⟩
          ·
            refine V_iconst 1 d_Mod_doesTwitch_114 (by decide) ?_
            refine V_goto 119 d_Mod_doesTwitch_115 (by decide) ?_
            exact V_zret rfl (by decide) d_Mod_doesTwitch_119 ⟨1, rfl, ⟨rfl, (by unfold twR; rw [show Int32.toInt 1 = 1 from rfl]; unfold twM tw; rw [show 16 + cZ.toNat = (16 + cZ).toNat by omega, show 48 + cZ.toNat = (48 + cZ).toNat by omega, show cZ.toNat = (0 + cZ).toNat by omega]; rw [uvK, ivK, lvK, uvE, ivE, lvE]; omega)⟩⟩
      ·
        refine V_iconst 1 d_Mod_doesTwitch_43 (by decide) ?_
        refine V_goto 48 d_Mod_doesTwitch_44 (by decide) ?_
        refine V_istore 7 [some (.ref 116), some (.int n), some (.int m), some (.int c), some (.int o), some (.int s), some (.int 0), some (.int 1)] d_Mod_doesTwitch_48 (by decide) rfl rfl ?_
        refine V_iload_n 1 d_Mod_doesTwitch_50 rfl rfl ?_
        rcases (by omega : (nZ < 0 ∨ 3 < nZ) ∨ nZ = 0 ∨ nZ = 1 ∨ nZ = 2 ∨ nZ = 3) with c37 | c37 | c37 | c37 | c37
        ·
          refine V_tabOut 120 nE d_Mod_doesTwitch_51 c37 (by decide) ?_
          refine V_iload d_Mod_doesTwitch_120 rfl ?_
          refine V_if_ne 130 tc_0 d_Mod_doesTwitch_122 (by decide) (fun c38 => ?_) (fun c38 => ?_)
          ·
            exact absurd c38 (by decide)
          ·
            refine V_iload d_Mod_doesTwitch_125 rfl ?_
            refine V_if_eq 134 tc_1 d_Mod_doesTwitch_127 (by decide) (fun c39 => ?_) (fun c39 => ?_)
            ·
              exact absurd c39 (by decide)
            ·
              refine V_iconst 1 d_Mod_doesTwitch_130 (by decide) ?_
              refine V_goto 135 d_Mod_doesTwitch_131 (by decide) ?_
              exact V_zret rfl (by decide) d_Mod_doesTwitch_135 ⟨1, rfl, ⟨rfl, (by unfold twR; rw [show Int32.toInt 1 = 1 from rfl]; unfold twM tw; rw [show 16 + cZ.toNat = (16 + cZ).toNat by omega, show 48 + cZ.toNat = (48 + cZ).toNat by omega, show cZ.toNat = (0 + cZ).toNat by omega]; rw [uvK, ivK, lvK, uvE, ivE, lvE]; omega)⟩⟩
        ·
          refine V_tabIn 80 nE d_Mod_doesTwitch_51 (by omega) (by omega) (by rw [c37]; rfl) (by decide) ?_
          refine V_iload d_Mod_doesTwitch_80 rfl ?_
          exact V_zret rfl (by decide) d_Mod_doesTwitch_82 ⟨0, rfl, ⟨rfl, (by unfold twR; rw [show Int32.toInt 0 = 0 from rfl]; unfold twM tw; rw [show 16 + cZ.toNat = (16 + cZ).toNat by omega, show 48 + cZ.toNat = (48 + cZ).toNat by omega, show cZ.toNat = (0 + cZ).toNat by omega]; rw [uvK, ivK, lvK, uvE, ivE, lvE]; omega)⟩⟩
        ·
          refine V_tabIn 83 nE d_Mod_doesTwitch_51 (by omega) (by omega) (by rw [c37]; rfl) (by decide) ?_
          refine V_iload d_Mod_doesTwitch_83 rfl ?_
          exact V_zret rfl (by decide) d_Mod_doesTwitch_85 ⟨1, rfl, ⟨rfl, (by unfold twR; rw [show Int32.toInt 1 = 1 from rfl]; unfold twM tw; rw [show 16 + cZ.toNat = (16 + cZ).toNat by omega, show 48 + cZ.toNat = (48 + cZ).toNat by omega, show cZ.toNat = (0 + cZ).toNat by omega]; rw [uvK, ivK, lvK, uvE, ivE, lvE]; omega)⟩⟩
        ·
          refine V_tabIn 86 nE d_Mod_doesTwitch_51 (by omega) (by omega) (by rw [c37]; rfl) (by decide) ?_
          refine V_iload d_Mod_doesTwitch_86 rfl ?_
          refine V_iconst 2 d_Mod_doesTwitch_88 (by decide) ?_
          refine N_irem sE tc_2 (by omega) d_Mod_doesTwitch_89 (fun z40 z40e z40E => ?_)
          refine V_iconst 1 d_Mod_doesTwitch_90 (by decide) ?_
          refine V_icmp_ne 98 z40E tc_1 d_Mod_doesTwitch_91 (by decide) (fun c41 => ?_) (fun c41 => ?_)
          ·
            refine V_iconst 0 d_Mod_doesTwitch_98 (by decide) ?_
            exact V_zret rfl (by decide) d_Mod_doesTwitch_99 ⟨0, rfl, ⟨rfl, (by unfold twR; rw [show Int32.toInt 0 = 0 from rfl]; unfold twM tw; rw [show 16 + cZ.toNat = (16 + cZ).toNat by omega, show 48 + cZ.toNat = (48 + cZ).toNat by omega, show cZ.toNat = (0 + cZ).toNat by omega]; rw [uvK, ivK, lvK, uvE, ivE, lvE]; omega)⟩⟩
          ·
            refine V_iconst 1 d_Mod_doesTwitch_94 (by decide) ?_
            refine V_goto 99 d_Mod_doesTwitch_95 (by decide) ?_
            exact V_zret rfl (by decide) d_Mod_doesTwitch_99 ⟨1, rfl, ⟨rfl, (by unfold twR; rw [show Int32.toInt 1 = 1 from rfl]; unfold twM tw; rw [show 16 + cZ.toNat = (16 + cZ).toNat by omega, show 48 + cZ.toNat = (48 + cZ).toNat by omega, show cZ.toNat = (0 + cZ).toNat by omega]; rw [uvK, ivK, lvK, uvE, ivE, lvE]; omega)⟩⟩
        ·
          refine V_tabIn 100 nE d_Mod_doesTwitch_51 (by omega) (by omega) (by rw [c37]; rfl) (by decide) ?_
          refine V_aload_n 0 d_Mod_doesTwitch_100 rfl rfl ?_
          refine V_getR fa_Mod_7 sk_116 rfl d_Mod_doesTwitch_101 ?_
          refine V_bipush 48 d_Mod_doesTwitch_104 (by decide) ?_
          refine V_iload_n 3 d_Mod_doesTwitch_106 rfl rfl ?_
          refine V_iadd tc_48 cE (by omega) d_Mod_doesTwitch_107 (fun z42 z42e z42E => ?_)
          refine N_ialdK sk_117 z42E (by omega) d_Mod_doesTwitch_108 lvK ?_
          refine V_iload d_Mod_doesTwitch_109 rfl ?_
          refine V_icmp_ne 118 lvE oE d_Mod_doesTwitch_111 (by decide) (fun c44 => ?_) (fun c44 => ?_)
          ·
            refine V_iconst 0 d_Mod_doesTwitch_118 (by decide) ?_
            exact V_zret rfl (by decide) d_Mod_doesTwitch_119 ⟨0, rfl, ⟨rfl, (by unfold twR; rw [show Int32.toInt 0 = 0 from rfl]; unfold twM tw; rw [show 16 + cZ.toNat = (16 + cZ).toNat by omega, show 48 + cZ.toNat = (48 + cZ).toNat by omega, show cZ.toNat = (0 + cZ).toNat by omega]; rw [uvK, ivK, lvK, uvE, ivE, lvE]; omega)⟩⟩
          ·
            refine V_iconst 1 d_Mod_doesTwitch_114 (by decide) ?_
            refine V_goto 119 d_Mod_doesTwitch_115 (by decide) ?_
            exact V_zret rfl (by decide) d_Mod_doesTwitch_119 ⟨1, rfl, ⟨rfl, (by unfold twR; rw [show Int32.toInt 1 = 1 from rfl]; unfold twM tw; rw [show 16 + cZ.toNat = (16 + cZ).toNat by omega, show 48 + cZ.toNat = (48 + cZ).toNat by omega, show cZ.toNat = (0 + cZ).toNat by omega]; rw [uvK, ivK, lvK, uvE, ivE, lvE]; omega)⟩⟩
    ·
      refine V_iconst 1 d_Mod_doesTwitch_23 (by decide) ?_
      refine V_goto 28 d_Mod_doesTwitch_24 (by decide) ?_
      refine V_istore 6 [some (.ref 116), some (.int n), some (.int m), some (.int c), some (.int o), some (.int s), some (.int 1), none] d_Mod_doesTwitch_28 (by decide) rfl rfl ?_
      refine V_aload_n 0 d_Mod_doesTwitch_30 rfl rfl ?_
      refine V_getR fa_Mod_7 sk_116 rfl d_Mod_doesTwitch_31 ?_
      refine V_bipush 16 d_Mod_doesTwitch_34 (by decide) ?_
      refine V_iload_n 3 d_Mod_doesTwitch_36 rfl rfl ?_
      refine V_iadd tc_16 cE (by omega) d_Mod_doesTwitch_37 (fun z45 z45e z45E => ?_)
      refine N_ialdK sk_117 z45E (by omega) d_Mod_doesTwitch_38 ivK ?_
      refine V_iconst 1 d_Mod_doesTwitch_39 (by decide) ?_
      refine V_icmp_ne 47 ivE tc_1 d_Mod_doesTwitch_40 (by decide) (fun c47 => ?_) (fun c47 => ?_)
      ·
        refine V_iconst 0 d_Mod_doesTwitch_47 (by decide) ?_
        refine V_istore 7 [some (.ref 116), some (.int n), some (.int m), some (.int c), some (.int o), some (.int s), some (.int 1), some (.int 0)] d_Mod_doesTwitch_48 (by decide) rfl rfl ?_
        refine V_iload_n 1 d_Mod_doesTwitch_50 rfl rfl ?_
        rcases (by omega : (nZ < 0 ∨ 3 < nZ) ∨ nZ = 0 ∨ nZ = 1 ∨ nZ = 2 ∨ nZ = 3) with c48 | c48 | c48 | c48 | c48
        ·
          refine V_tabOut 120 nE d_Mod_doesTwitch_51 c48 (by decide) ?_
          refine V_iload d_Mod_doesTwitch_120 rfl ?_
          refine V_if_ne 130 tc_1 d_Mod_doesTwitch_122 (by decide) (fun c49 => ?_) (fun c49 => ?_)
          ·
            refine V_iconst 1 d_Mod_doesTwitch_130 (by decide) ?_
            refine V_goto 135 d_Mod_doesTwitch_131 (by decide) ?_
            exact V_zret rfl (by decide) d_Mod_doesTwitch_135 ⟨1, rfl, ⟨rfl, (by unfold twR; rw [show Int32.toInt 1 = 1 from rfl]; unfold twM tw; rw [show 16 + cZ.toNat = (16 + cZ).toNat by omega, show 48 + cZ.toNat = (48 + cZ).toNat by omega, show cZ.toNat = (0 + cZ).toNat by omega]; rw [uvK, ivK, lvK, uvE, ivE, lvE]; omega)⟩⟩
          ·
            exact absurd c49 (by decide)
        ·
          refine V_tabIn 80 nE d_Mod_doesTwitch_51 (by omega) (by omega) (by rw [c48]; rfl) (by decide) ?_
          refine V_iload d_Mod_doesTwitch_80 rfl ?_
          exact V_zret rfl (by decide) d_Mod_doesTwitch_82 ⟨1, rfl, ⟨rfl, (by unfold twR; rw [show Int32.toInt 1 = 1 from rfl]; unfold twM tw; rw [show 16 + cZ.toNat = (16 + cZ).toNat by omega, show 48 + cZ.toNat = (48 + cZ).toNat by omega, show cZ.toNat = (0 + cZ).toNat by omega]; rw [uvK, ivK, lvK, uvE, ivE, lvE]; omega)⟩⟩
        ·
          refine V_tabIn 83 nE d_Mod_doesTwitch_51 (by omega) (by omega) (by rw [c48]; rfl) (by decide) ?_
          refine V_iload d_Mod_doesTwitch_83 rfl ?_
          exact V_zret rfl (by decide) d_Mod_doesTwitch_85 ⟨0, rfl, ⟨rfl, (by unfold twR; rw [show Int32.toInt 0 = 0 from rfl]; unfold twM tw; rw [show 16 + cZ.toNat = (16 + cZ).toNat by omega, show 48 + cZ.toNat = (48 + cZ).toNat by omega, show cZ.toNat = (0 + cZ).toNat by omega]; rw [uvK, ivK, lvK, uvE, ivE, lvE]; omega)⟩⟩
        ·
          refine V_tabIn 86 nE d_Mod_doesTwitch_51 (by omega) (by omega) (by rw [c48]; rfl) (by decide) ?_
          refine V_iload d_Mod_doesTwitch_86 rfl ?_
          refine V_iconst 2 d_Mod_doesTwitch_88 (by decide) ?_
          refine N_irem sE tc_2 (by omega) d_Mod_doesTwitch_89 (fun z50 z50e z50E => ?_)
          refine V_iconst 1 d_Mod_doesTwitch_90 (by decide) ?_
          refine V_icmp_ne 98 z50E tc_1 d_Mod_doesTwitch_91 (by decide) (fun c51 => ?_) (fun c51 => ?_)
          ·
            refine V_iconst 0 d_Mod_doesTwitch_98 (by decide) ?_
            exact V_zret rfl (by decide) d_Mod_doesTwitch_99 ⟨0, rfl, ⟨rfl, (by unfold twR; rw [show Int32.toInt 0 = 0 from rfl]; unfold twM tw; rw [show 16 + cZ.toNat = (16 + cZ).toNat by omega, show 48 + cZ.toNat = (48 + cZ).toNat by omega, show cZ.toNat = (0 + cZ).toNat by omega]; rw [uvK, ivK, lvK, uvE, ivE, lvE]; omega)⟩⟩
          ·
            refine V_iconst 1 d_Mod_doesTwitch_94 (by decide) ?_
            refine V_goto 99 d_Mod_doesTwitch_95 (by decide) ?_
            exact V_zret rfl (by decide) d_Mod_doesTwitch_99 ⟨1, rfl, ⟨rfl, (by unfold twR; rw [show Int32.toInt 1 = 1 from rfl]; unfold twM tw; rw [show 16 + cZ.toNat = (16 + cZ).toNat by omega, show 48 + cZ.toNat = (48 + cZ).toNat by omega, show cZ.toNat = (0 + cZ).toNat by omega]; rw [uvK, ivK, lvK, uvE, ivE, lvE]; omega)⟩⟩
        ·
          refine V_tabIn 100 nE d_Mod_doesTwitch_51 (by omega) (by omega) (by rw [c48]; rfl) (by decide) ?_
          refine V_aload_n 0 d_Mod_doesTwitch_100 rfl rfl ?_
          refine V_getR fa_Mod_7 sk_116 rfl d_Mod_doesTwitch_101 ?_
          refine V_bipush 48 d_Mod_doesTwitch_104 (by decide) ?_
          refine V_iload_n 3 d_Mod_doesTwitch_106 rfl rfl ?_
          refine V_iadd tc_48 cE (by omega) d_Mod_doesTwitch_107 (fun z52 z52e z52E => ?_)
          refine N_ialdK sk_117 z52E (by omega) d_Mod_doesTwitch_108 lvK ?_
          refine V_iload d_Mod_doesTwitch_109 rfl ?_
          refine V_icmp_ne 118 lvE oE d_Mod_doesTwitch_111 (by decide) (fun c54 => ?_) (fun c54 => ?_)
          ·
            refine V_iconst 0 d_Mod_doesTwitch_118 (by decide) ?_
            exact V_zret rfl (by decide) d_Mod_doesTwitch_119 ⟨0, rfl, ⟨rfl, (by unfold twR; rw [show Int32.toInt 0 = 0 from rfl]; unfold twM tw; rw [show 16 + cZ.toNat = (16 + cZ).toNat by omega, show 48 + cZ.toNat = (48 + cZ).toNat by omega, show cZ.toNat = (0 + cZ).toNat by omega]; rw [uvK, ivK, lvK, uvE, ivE, lvE]; omega)⟩⟩
          ·
            refine V_iconst 1 d_Mod_doesTwitch_114 (by decide) ?_
            refine V_goto 119 d_Mod_doesTwitch_115 (by decide) ?_
            exact V_zret rfl (by decide) d_Mod_doesTwitch_119 ⟨1, rfl, ⟨rfl, (by unfold twR; rw [show Int32.toInt 1 = 1 from rfl]; unfold twM tw; rw [show 16 + cZ.toNat = (16 + cZ).toNat by omega, show 48 + cZ.toNat = (48 + cZ).toNat by omega, show cZ.toNat = (0 + cZ).toNat by omega]; rw [uvK, ivK, lvK, uvE, ivE, lvE]; omega)⟩⟩
      ·
        refine V_iconst 1 d_Mod_doesTwitch_43 (by decide) ?_
        refine V_goto 48 d_Mod_doesTwitch_44 (by decide) ?_
        refine V_istore 7 [some (.ref 116), some (.int n), some (.int m), some (.int c), some (.int o), some (.int s), some (.int 1), some (.int 1)] d_Mod_doesTwitch_48 (by decide) rfl rfl ?_
        refine V_iload_n 1 d_Mod_doesTwitch_50 rfl rfl ?_
        rcases (by omega : (nZ < 0 ∨ 3 < nZ) ∨ nZ = 0 ∨ nZ = 1 ∨ nZ = 2 ∨ nZ = 3) with c55 | c55 | c55 | c55 | c55
        ·
          refine V_tabOut 120 nE d_Mod_doesTwitch_51 c55 (by decide) ?_
          refine V_iload d_Mod_doesTwitch_120 rfl ?_
          refine V_if_ne 130 tc_1 d_Mod_doesTwitch_122 (by decide) (fun c56 => ?_) (fun c56 => ?_)
          ·
            refine V_iconst 1 d_Mod_doesTwitch_130 (by decide) ?_
            refine V_goto 135 d_Mod_doesTwitch_131 (by decide) ?_
            exact V_zret rfl (by decide) d_Mod_doesTwitch_135 ⟨1, rfl, ⟨rfl, (by unfold twR; rw [show Int32.toInt 1 = 1 from rfl]; unfold twM tw; rw [show 16 + cZ.toNat = (16 + cZ).toNat by omega, show 48 + cZ.toNat = (48 + cZ).toNat by omega, show cZ.toNat = (0 + cZ).toNat by omega]; rw [uvK, ivK, lvK, uvE, ivE, lvE]; omega)⟩⟩
          ·
            exact absurd c56 (by decide)
        ·
          refine V_tabIn 80 nE d_Mod_doesTwitch_51 (by omega) (by omega) (by rw [c55]; rfl) (by decide) ?_
          refine V_iload d_Mod_doesTwitch_80 rfl ?_
          exact V_zret rfl (by decide) d_Mod_doesTwitch_82 ⟨1, rfl, ⟨rfl, (by unfold twR; rw [show Int32.toInt 1 = 1 from rfl]; unfold twM tw; rw [show 16 + cZ.toNat = (16 + cZ).toNat by omega, show 48 + cZ.toNat = (48 + cZ).toNat by omega, show cZ.toNat = (0 + cZ).toNat by omega]; rw [uvK, ivK, lvK, uvE, ivE, lvE]; omega)⟩⟩
        ·
          refine V_tabIn 83 nE d_Mod_doesTwitch_51 (by omega) (by omega) (by rw [c55]; rfl) (by decide) ?_
          refine V_iload d_Mod_doesTwitch_83 rfl ?_
          exact V_zret rfl (by decide) d_Mod_doesTwitch_85 ⟨1, rfl, ⟨rfl, (by unfold twR; rw [show Int32.toInt 1 = 1 from rfl]; unfold twM tw; rw [show 16 + cZ.toNat = (16 + cZ).toNat by omega, show 48 + cZ.toNat = (48 + cZ).toNat by omega, show cZ.toNat = (0 + cZ).toNat by omega]; rw [uvK, ivK, lvK, uvE, ivE, lvE]; omega)⟩⟩
        ·
          refine V_tabIn 86 nE d_Mod_doesTwitch_51 (by omega) (by omega) (by rw [c55]; rfl) (by decide) ?_
          refine V_iload d_Mod_doesTwitch_86 rfl ?_
          refine V_iconst 2 d_Mod_doesTwitch_88 (by decide) ?_
          refine N_irem sE tc_2 (by omega) d_Mod_doesTwitch_89 (fun z57 z57e z57E => ?_)
          refine V_iconst 1 d_Mod_doesTwitch_90 (by decide) ?_
          refine V_icmp_ne 98 z57E tc_1 d_Mod_doesTwitch_91 (by decide) (fun c58 => ?_) (fun c58 => ?_)
          ·
            refine V_iconst 0 d_Mod_doesTwitch_98 (by decide) ?_
            exact V_zret rfl (by decide) d_Mod_doesTwitch_99 ⟨0, rfl, ⟨rfl, (by unfold twR; rw [show Int32.toInt 0 = 0 from rfl]; unfold twM tw; rw [show 16 + cZ.toNat = (16 + cZ).toNat by omega, show 48 + cZ.toNat = (48 + cZ).toNat by omega, show cZ.toNat = (0 + cZ).toNat by omega]; rw [uvK, ivK, lvK, uvE, ivE, lvE]; omega)⟩⟩
          ·
            refine V_iconst 1 d_Mod_doesTwitch_94 (by decide) ?_
            refine V_goto 99 d_Mod_doesTwitch_95 (by decide) ?_
            exact V_zret rfl (by decide) d_Mod_doesTwitch_99 ⟨1, rfl, ⟨rfl, (by unfold twR; rw [show Int32.toInt 1 = 1 from rfl]; unfold twM tw; rw [show 16 + cZ.toNat = (16 + cZ).toNat by omega, show 48 + cZ.toNat = (48 + cZ).toNat by omega, show cZ.toNat = (0 + cZ).toNat by omega]; rw [uvK, ivK, lvK, uvE, ivE, lvE]; omega)⟩⟩
        ·
          refine V_tabIn 100 nE d_Mod_doesTwitch_51 (by omega) (by omega) (by rw [c55]; rfl) (by decide) ?_
          refine V_aload_n 0 d_Mod_doesTwitch_100 rfl rfl ?_
          refine V_getR fa_Mod_7 sk_116 rfl d_Mod_doesTwitch_101 ?_
          refine V_bipush 48 d_Mod_doesTwitch_104 (by decide) ?_
          refine V_iload_n 3 d_Mod_doesTwitch_106 rfl rfl ?_
          refine V_iadd tc_48 cE (by omega) d_Mod_doesTwitch_107 (fun z59 z59e z59E => ?_)
          refine N_ialdK sk_117 z59E (by omega) d_Mod_doesTwitch_108 lvK ?_
          refine V_iload d_Mod_doesTwitch_109 rfl ?_
          refine V_icmp_ne 118 lvE oE d_Mod_doesTwitch_111 (by decide) (fun c61 => ?_) (fun c61 => ?_)
          ·
            refine V_iconst 0 d_Mod_doesTwitch_118 (by decide) ?_
            exact V_zret rfl (by decide) d_Mod_doesTwitch_119 ⟨0, rfl, ⟨rfl, (by unfold twR; rw [show Int32.toInt 0 = 0 from rfl]; unfold twM tw; rw [show 16 + cZ.toNat = (16 + cZ).toNat by omega, show 48 + cZ.toNat = (48 + cZ).toNat by omega, show cZ.toNat = (0 + cZ).toNat by omega]; rw [uvK, ivK, lvK, uvE, ivE, lvE]; omega)⟩⟩
          ·
            refine V_iconst 1 d_Mod_doesTwitch_114 (by decide) ?_
            refine V_goto 119 d_Mod_doesTwitch_115 (by decide) ?_
            exact V_zret rfl (by decide) d_Mod_doesTwitch_119 ⟨1, rfl, ⟨rfl, (by unfold twR; rw [show Int32.toInt 1 = 1 from rfl]; unfold twM tw; rw [show 16 + cZ.toNat = (16 + cZ).toNat by omega, show 48 + cZ.toNat = (48 + cZ).toNat by omega, show cZ.toNat = (0 + cZ).toNat by omega]; rw [uvK, ivK, lvK, uvE, ivE, lvE]; omega)⟩⟩
abbrev q_County_twitchesX_0 (h : Hp) (c : Int32) (cZ : Int) (o : Int32) (oZ : Int) (s : Int32) (sZ : Int) (n : Int32) (nZ : Int) (m : Int32) (mZ : Int) : Option Value → Hp → Prop := pInt (fun r h' => h = h' ∧ (twR r (twC h nZ mZ cZ.toNat oZ sZ)))
set_option maxRecDepth 100000 in
theorem c_County_twitchesX_0 (h : Hp) (hI : Inv h) (c : Int32) (cZ : Int) (cE : c.toInt = cZ) (o : Int32) (oZ : Int) (oE : o.toInt = oZ) (s : Int32) (sZ : Int) (sE : s.toInt = sZ) (n : Int32) (nZ : Int) (nE : n.toInt = nZ) (nK : h.1 0 3 = n) (m : Int32) (mZ : Int) (mE : m.toInt = mZ) (mK : h.1 0 4 = m) (hy0 : 0 ≤ cZ ∧ cZ ≤ 15) (hy1 : 0 ≤ sZ) (hy2 : ∀ i : Nat, i < 16 → 0 ≤ (h.1 3 i).toInt ∧ (h.1 3 i).toInt ≤ 1) : Ct y_County_twitches b_County_twitches 4 (some .boolean) 1 27 [.ref 0, .int c, .int o, .int s] h (q_County_twitchesX_0 h c cZ o oZ s sZ n nZ m mZ) := by
  refine ct_ow R_County [some (.ref 0), some (.int c), some (.int o), some (.int s)] rfl (by decide) rfl (Nat.le_of_ble_eq_true rfl) ?_
  have f0 : fr [] h h := fr_rf
  refine V_aload_n 0 d_County_twitches_0 rfl rfl ?_
  refine V_getR fa_County_12 sk_0 rfl d_County_twitches_1 ?_
  refine V_aload_n 0 d_County_twitches_4 rfl rfl ?_
  refine N_getK fa_County_41 sk_0 rfl d_County_twitches_5 nK ?_
  refine V_aload_n 0 d_County_twitches_8 rfl rfl ?_
  refine N_getK fa_County_44 sk_0 rfl d_County_twitches_9 mK ?_
  refine V_iload_n 1 d_County_twitches_12 rfl rfl ?_
  refine V_iload_n 2 d_County_twitches_13 rfl rfl ?_
  refine V_iload_n 3 d_County_twitches_14 rfl rfl ?_
  refine N_callVI [.int n, .int m, .int c, .int o, .int s] [] cv_County_57 sk_1 rfl d_County_twitches_15 rfl (Nat.le_of_ble_eq_true rfl) (by decide) (by decide) (c_Land_twitchesX_0 h hI n nZ nE m mZ mE c cZ cE o oZ oE s sZ sE (by omega) (by omega) (hy2 _ (by omega))) (fun z1 h2 z1Z z1E p3 => ?_)
  obtain ⟨eh2, p3⟩ := p3
  subst eh2
  have := twR_01 p3
  exact V_zret rfl (by rw [z1E]; omega) d_County_twitches_18 ⟨z1, rfl, ⟨rfl, p3⟩⟩
abbrev q_Rod_twitchX (h : Hp) (c : Int32) (cZ : Int) (o : Int32) (oZ : Int) (s : Int32) (sZ : Int) (w : Int32) (wZ : Int) (g : Int32) (gZ : Int) (n : Int32) (nZ : Int) (m : Int32) (mZ : Int) : Option Value → Hp → Prop := pInt (fun r h' => h = h' ∧ (TWa (0 ≤ cZ ∧ cZ < wZ * gZ ∧ 0 ≤ oZ ∧ oZ ≤ 3 ∧ 1 ≤ sZ ∧ sZ ≤ 9) r (twC h nZ mZ cZ.toNat oZ sZ)))
set_option maxRecDepth 100000 in
theorem c_Rod_twitchX (h : Hp) (hI : Inv h) (c : Int32) (cZ : Int) (cE : c.toInt = cZ) (o : Int32) (oZ : Int) (oE : o.toInt = oZ) (s : Int32) (sZ : Int) (sE : s.toInt = sZ) (w : Int32) (wZ : Int) (wE : w.toInt = wZ) (wK : h.1 1 0 = w) (g : Int32) (gZ : Int) (gE : g.toInt = gZ) (gK : h.1 1 1 = g) (n : Int32) (nZ : Int) (nE : n.toInt = nZ) (nK : h.1 0 3 = n) (m : Int32) (mZ : Int) (mE : m.toInt = mZ) (mK : h.1 0 4 = m) (hy0 : ∀ i : Nat, i < 16 → 0 ≤ (h.1 3 i).toInt ∧ (h.1 3 i).toInt ≤ 1) : Ct y_Rod_twitch b_Rod_twitch 4 (some .int) 3 64 [.ref 85, .int c, .int o, .int s] h (q_Rod_twitchX h c cZ o oZ s sZ w wZ g gZ n nZ m mZ) := by
  refine ct_ow R_Rod [some (.ref 85), some (.int c), some (.int o), some (.int s)] rfl (by decide) rfl (Nat.le_of_ble_eq_true rfl) ?_
  have f0 : fr [] h h := fr_rf
  have g1 : 2 ≤ wZ ∧ wZ ≤ 4 := inv_at hI wE wK.symm rfl
  have g2 : 2 ≤ gZ ∧ gZ ≤ 4 := inv_at hI gE gK.symm rfl
  refine V_aload_n 0 d_Rod_twitch_0 rfl rfl ?_
  refine V_iload_n 1 d_Rod_twitch_1 rfl rfl ?_
  refine V_iload_n 2 d_Rod_twitch_2 rfl rfl ?_
  refine V_iload_n 3 d_Rod_twitch_3 rfl rfl ?_
  refine N_callVI [.int c, .int o, .int s] [] cv_Rod_171 sk_85 rfl d_Rod_twitch_4 rfl (Nat.le_of_ble_eq_true rfl) (by decide) (by decide) (c_Rod_isSightX h hI c cZ cE o oZ oE s sZ sE w wZ wE wK g gZ gE gK) (fun z3 h4 z3Z z3E p5 => ?_)
  obtain ⟨eh4, p5⟩ := p5
  subst eh4
  refine V_if_ne 12 z3E d_Rod_twitch_7 (by decide) (fun c6 => ?_) (fun c6 => ?_)
  ·
    refine V_aload_n 0 d_Rod_twitch_12 rfl rfl ?_
    refine V_getR fa_Rod_12 sk_85 rfl d_Rod_twitch_13 ?_
    refine V_iload_n 1 d_Rod_twitch_16 rfl rfl ?_
    refine V_iload_n 2 d_Rod_twitch_17 rfl rfl ?_
    refine V_iload_n 3 d_Rod_twitch_18 rfl rfl ?_
    refine N_callVI [.int c, .int o, .int s] [] cv_Rod_175 sk_0 rfl d_Rod_twitch_19 rfl (Nat.le_of_ble_eq_true rfl) (by decide) (by decide) (c_County_twitchesX_0 h hI c cZ cE o oZ oE s sZ sE n nZ nE nK m mZ mE mK (by omega) (by omega) hy0) (fun z7 h8 z7Z z7E p9 => ?_)
    obtain ⟨eh8, p9⟩ := p9
    subst eh8
    have := twR_01 p9
    refine N_callSI [.int z7] [] cs_Rod_147 d_Rod_twitch_22 rfl (Nat.le_of_ble_eq_true rfl) (by decide) (by decide) (c_Rod_oneIf h z7 z7Z z7E) (fun z10 h11 z10Z z10E p12 => ?_)
    obtain ⟨eh11, p12⟩ := p12
    subst eh11
    exact V_iret rfl d_Rod_twitch_25 ⟨z10, rfl, ⟨rfl, (Or.inl ⟨by omega, twR_fl p9 z7E p12⟩)⟩⟩
  ·
    refine V_iconst (-1) d_Rod_twitch_10 (by decide) ?_
    exact V_iret rfl d_Rod_twitch_11 ⟨(-1), rfl, ⟨rfl, (Or.inr ⟨by omega, tc_m1⟩)⟩⟩
abbrev q_Mod_twitchX (h : Hp) (c : Int32) (cZ : Int) (o : Int32) (oZ : Int) (s : Int32) (sZ : Int) (w : Int32) (wZ : Int) (g : Int32) (gZ : Int) (n : Int32) (nZ : Int) (m : Int32) (mZ : Int) : Option Value → Hp → Prop := pInt (fun r h' => h = h' ∧ (TWa (0 ≤ cZ ∧ cZ < wZ * gZ ∧ 0 ≤ oZ ∧ oZ ≤ 3 ∧ 1 ≤ sZ ∧ sZ ≤ 9) r (twM h nZ mZ cZ.toNat oZ sZ)))
set_option maxRecDepth 100000 in
theorem c_Mod_twitchX (h : Hp) (hI : Inv h) (c : Int32) (cZ : Int) (cE : c.toInt = cZ) (o : Int32) (oZ : Int) (oE : o.toInt = oZ) (s : Int32) (sZ : Int) (sE : s.toInt = sZ) (w : Int32) (wZ : Int) (wE : w.toInt = wZ) (wK : h.1 116 2 = w) (g : Int32) (gZ : Int) (gE : g.toInt = gZ) (gK : h.1 116 3 = g) (n : Int32) (nZ : Int) (nE : n.toInt = nZ) (nK : h.1 117 84 = n) (m : Int32) (mZ : Int) (mE : m.toInt = mZ) (mK : h.1 117 85 = m) : Ct y_Mod_twitch b_Mod_twitch 4 (some .int) 3 69 [.ref 116, .int c, .int o, .int s] h (q_Mod_twitchX h c cZ o oZ s sZ w wZ g gZ n nZ m mZ) := by
  refine ct_ow R_Mod [some (.ref 116), some (.int c), some (.int o), some (.int s)] rfl (by decide) rfl (Nat.le_of_ble_eq_true rfl) ?_
  have f0 : fr [] h h := fr_rf
  have g1 : 2 ≤ wZ ∧ wZ ≤ 4 := inv_at hI wE wK.symm rfl
  have g2 : 2 ≤ gZ ∧ gZ ≤ 4 := inv_at hI gE gK.symm rfl
  refine V_aload_n 0 d_Mod_twitch_0 rfl rfl ?_
  refine V_iload_n 1 d_Mod_twitch_1 rfl rfl ?_
  refine V_iload_n 2 d_Mod_twitch_2 rfl rfl ?_
  refine V_iload_n 3 d_Mod_twitch_3 rfl rfl ?_
  refine N_callVI [.int c, .int o, .int s] [] cv_Mod_226 sk_116 rfl d_Mod_twitch_4 rfl (Nat.le_of_ble_eq_true rfl) (by decide) (by decide) (c_Mod_isSeenX h hI c cZ cE o oZ oE s sZ sE w wZ wE wK g gZ gE gK) (fun z3 h4 z3Z z3E p5 => ?_)
  obtain ⟨eh4, p5⟩ := p5
  subst eh4
  refine V_if_eq 37 z3E d_Mod_twitch_7 (by decide) (fun c6 => ?_) (fun c6 => ?_)
  ·
    refine V_iconst (-1) d_Mod_twitch_37 (by decide) ?_
    exact V_iret rfl d_Mod_twitch_38 ⟨(-1), rfl, ⟨rfl, (Or.inr ⟨by omega, tc_m1⟩)⟩⟩
  ·
    refine V_aload_n 0 d_Mod_twitch_10 rfl rfl ?_
    refine V_aload_n 0 d_Mod_twitch_11 rfl rfl ?_
    refine V_getR fa_Mod_7 sk_116 rfl d_Mod_twitch_12 ?_
    refine V_bipush 84 d_Mod_twitch_15 (by decide) ?_
    refine N_ialdK sk_117 tc_84 (by omega) d_Mod_twitch_17 nK ?_
    refine V_aload_n 0 d_Mod_twitch_18 rfl rfl ?_
    refine V_getR fa_Mod_7 sk_116 rfl d_Mod_twitch_19 ?_
    refine V_bipush 85 d_Mod_twitch_22 (by decide) ?_
    refine N_ialdK sk_117 tc_85 (by omega) d_Mod_twitch_24 mK ?_
    refine V_iload_n 1 d_Mod_twitch_25 rfl rfl ?_
    refine V_iload_n 2 d_Mod_twitch_26 rfl rfl ?_
    refine V_iload_n 3 d_Mod_twitch_27 rfl rfl ?_
    refine N_callVI [.int n, .int m, .int c, .int o, .int s] [] cv_Mod_229 sk_116 rfl d_Mod_twitch_28 rfl (Nat.le_of_ble_eq_true rfl) (by decide) (by decide) (c_Mod_doesTwitchX h hI n nZ nE m mZ mE c cZ cE o oZ oE s sZ sE (by omega) (by omega)) (fun z9 h10 z9Z z9E p11 => ?_)
    obtain ⟨eh10, p11⟩ := p11
    subst eh10
    have := twR_01 p11
    refine N_callSI [.int z9] [] cs_Mod_196 d_Mod_twitch_31 rfl (Nat.le_of_ble_eq_true rfl) (by decide) (by decide) (c_Mod_flag h z9 z9Z z9E) (fun z12 h13 z12Z z12E p14 => ?_)
    obtain ⟨eh13, p14⟩ := p14
    subst eh13
    refine V_goto 38 d_Mod_twitch_34 (by decide) ?_
    exact V_iret rfl d_Mod_twitch_38 ⟨z12, rfl, ⟨rfl, (Or.inl ⟨by omega, twR_fl p11 z9E p14⟩)⟩⟩
