abbrev q_Tape_isLetterX (h : Hp) (c : Int32) (cZ : Int) : Option Value → Hp → Prop := pInt (fun r h' => h = h' ∧ (97 ≤ cZ ∧ cZ ≤ 122 ∧ r.toInt = 1 ∨ (cZ < 97 ∨ 122 < cZ) ∧ r.toInt = 0))
set_option maxRecDepth 100000 in
theorem c_Tape_isLetterX (h : Hp) (c : Int32) (cZ : Int) (cE : c.toInt = cZ) : Ct y_Tape_isLetter b_Tape_isLetter 1 (some .boolean) 0 0 [.int c] h (q_Tape_isLetterX h c cZ) := by
  refine ct_ow R_Tape [some (.int c)] rfl (by decide) rfl (Nat.le_of_ble_eq_true rfl) ?_
  have f0 : fr [] h h := fr_rf
  refine V_iload_n 0 d_Tape_isLetter_0 rfl rfl ?_
  refine V_bipush 97 d_Tape_isLetter_1 (by decide) ?_
  refine V_icmp_lt 16 cE tc_97 d_Tape_isLetter_3 (by decide) (fun c1 => ?_) (fun c1 => ?_)
  ·
    refine V_iconst 0 d_Tape_isLetter_16 (by decide) ?_
    exact V_zret rfl (by decide) d_Tape_isLetter_17 ⟨0, rfl, ⟨rfl, (by (try rw [show Int32.toInt 0 = 0 from rfl]) <;> omega)⟩⟩
  ·
    refine V_iload_n 0 d_Tape_isLetter_6 rfl rfl ?_
    refine V_bipush 122 d_Tape_isLetter_7 (by decide) ?_
    refine V_icmp_gt 16 cE tc_122 d_Tape_isLetter_9 (by decide) (fun c2 => ?_) (fun c2 => ?_)
    ·
      refine V_iconst 0 d_Tape_isLetter_16 (by decide) ?_
      exact V_zret rfl (by decide) d_Tape_isLetter_17 ⟨0, rfl, ⟨rfl, (by (try rw [show Int32.toInt 0 = 0 from rfl]) <;> omega)⟩⟩
    ·
      refine V_iconst 1 d_Tape_isLetter_12 (by decide) ?_
      refine V_goto 17 d_Tape_isLetter_13 (by decide) ?_
      exact V_zret rfl (by decide) d_Tape_isLetter_17 ⟨1, rfl, ⟨rfl, (by (try rw [show Int32.toInt 1 = 1 from rfl]) <;> omega)⟩⟩
abbrev q_Tape_isFigureX (h : Hp) (c : Int32) (cZ : Int) : Option Value → Hp → Prop := pInt (fun r h' => h = h' ∧ (48 ≤ cZ ∧ cZ ≤ 57 ∧ r.toInt = 1 ∨ (cZ < 48 ∨ 57 < cZ) ∧ r.toInt = 0))
set_option maxRecDepth 100000 in
theorem c_Tape_isFigureX (h : Hp) (c : Int32) (cZ : Int) (cE : c.toInt = cZ) : Ct y_Tape_isFigure b_Tape_isFigure 1 (some .boolean) 0 0 [.int c] h (q_Tape_isFigureX h c cZ) := by
  refine ct_ow R_Tape [some (.int c)] rfl (by decide) rfl (Nat.le_of_ble_eq_true rfl) ?_
  have f0 : fr [] h h := fr_rf
  refine V_iload_n 0 d_Tape_isFigure_0 rfl rfl ?_
  refine V_bipush 48 d_Tape_isFigure_1 (by decide) ?_
  refine V_icmp_lt 16 cE tc_48 d_Tape_isFigure_3 (by decide) (fun c1 => ?_) (fun c1 => ?_)
  ·
    refine V_iconst 0 d_Tape_isFigure_16 (by decide) ?_
    exact V_zret rfl (by decide) d_Tape_isFigure_17 ⟨0, rfl, ⟨rfl, (by (try rw [show Int32.toInt 0 = 0 from rfl]) <;> omega)⟩⟩
  ·
    refine V_iload_n 0 d_Tape_isFigure_6 rfl rfl ?_
    refine V_bipush 57 d_Tape_isFigure_7 (by decide) ?_
    refine V_icmp_gt 16 cE tc_57 d_Tape_isFigure_9 (by decide) (fun c2 => ?_) (fun c2 => ?_)
    ·
      refine V_iconst 0 d_Tape_isFigure_16 (by decide) ?_
      exact V_zret rfl (by decide) d_Tape_isFigure_17 ⟨0, rfl, ⟨rfl, (by (try rw [show Int32.toInt 0 = 0 from rfl]) <;> omega)⟩⟩
    ·
      refine V_iconst 1 d_Tape_isFigure_12 (by decide) ?_
      refine V_goto 17 d_Tape_isFigure_13 (by decide) ?_
      exact V_zret rfl (by decide) d_Tape_isFigure_17 ⟨1, rfl, ⟨rfl, (by (try rw [show Int32.toInt 1 = 1 from rfl]) <;> omega)⟩⟩
def S_Tape_passLettersX : List (Nat × Option Nat) := [(89, some 4)]
abbrev q_Tape_passLettersX (h : Hp) (b : Int → Int) (s : Int32) (sZ : Int) (t : Int32) (tZ : Int) : Option Value → Hp → Prop := pVd (fun h' => Inv h' ∧ fr S_Tape_passLettersX h h' ∧ ∃ (u : Int32) (uZ : Int), u.toInt = uZ ∧ h'.1 89 4 = u ∧ (uZ = rn leB b tZ ∧ tZ ≤ uZ ∧ uZ ≤ sZ))
set_option maxRecDepth 100000 in
theorem c_Tape_passLettersX (h : Hp) (b : Int → Int) (hI : Inv h) (s : Int32) (sZ : Int) (sE : s.toInt = sZ) (sK : h.1 89 1 = s) (t : Int32) (tZ : Int) (tE : t.toInt = tZ) (tK : h.1 89 4 = t) (hy0 : TP h 90 sZ b) (hy1 : tZ ≤ sZ) : Ct y_Tape_passLetters b_Tape_passLetters 1 none 1 20 [.ref 89] h (q_Tape_passLettersX h b s sZ t tZ) := by
  refine ct_ow R_Tape [some (.ref 89)] rfl (by decide) rfl (Nat.le_of_ble_eq_true rfl) ?_
  have f0 : fr S_Tape_passLettersX h h := fr_rf
  have g1 : 0 ≤ sZ ∧ sZ ≤ 160 := inv_at hI sE sK.symm rfl
  have g2 : 0 ≤ tZ ∧ tZ ≤ 160 := inv_at hI tE tK.symm rfl
  have L3 : ∀ (nn : Nat) (h5 : Hp) (v7 : Int32) (v7Z : Int), Inv h5 → fr S_Tape_passLettersX h h5 → h5.1 89 1 = s → v7.toInt = v7Z → h5.1 89 4 = v7 → tZ ≤ v7Z ∧ v7Z ≤ sZ → rn leB b v7Z = rn leB b tZ → 160 - v7Z < (nn : Int) → V R_Tape b_Tape_passLetters 1 none 1 20 (q_Tape_passLettersX h b s sZ t tZ) h5 0 [some (.ref 89)] [] := by
    intro nn
    induction nn with
    | zero => intro h5 v7 v7Z Ih5 Fh5 K6 v7E K8 q9 q10 hm11; exact absurd hm11 (by (first | decide +kernel | omega))
    | succ nn ihL3 =>
      intro h5 v7 v7Z Ih5 Fh5 K6 v7E K8 q9 q10 hm11
      have g12 : 0 ≤ v7Z ∧ v7Z ≤ 160 := inv_at Ih5 v7E K8.symm rfl
      have g13 := TP_b hy0 v7Z (by (first | decide +kernel | omega))
      refine V_aload_n 0 d_Tape_passLetters_0 rfl rfl ?_
      refine N_getK fa_Tape_15 sk_89 rfl d_Tape_passLetters_1 K8 ?_
      refine V_aload_n 0 d_Tape_passLetters_4 rfl rfl ?_
      refine N_getK fa_Tape_22 sk_89 rfl d_Tape_passLetters_5 K6 ?_
      refine V_icmp_ge 39 v7E sE d_Tape_passLetters_8 (by decide) (fun c14 => ?_) (fun c14 => ?_)
      ·
        have g15 := rn_stop (P := leB) (b := b) (p := v7Z) (leB_n (by (first | decide +kernel | omega)))
        exact V_vret rfl d_Tape_passLetters_39 ⟨rfl, ⟨Ih5, Fh5, v7, v7Z, v7E, K8, (by (first | decide +kernel | omega))⟩⟩
      ·
        refine V_aload_n 0 d_Tape_passLetters_11 rfl rfl ?_
        refine V_getR fa_Tape_9 sk_89 rfl d_Tape_passLetters_12 ?_
        refine V_aload_n 0 d_Tape_passLetters_15 rfl rfl ?_
        refine N_getK fa_Tape_15 sk_89 rfl d_Tape_passLetters_16 K8 ?_
        refine N_bald sk_90 v7E (by (first | decide +kernel | omega)) d_Tape_passLetters_19 (fun z16 z16Z z16E z16e => ?_)
        have g17 : z16Z = b v7Z := TP_rd (TP_fr Fh5 (fun _ => rfl) hy0) (by (first | decide +kernel | omega)) z16E z16e
        refine N_callSI [.int z16] [] cs_Tape_28 d_Tape_passLetters_20 rfl (Nat.le_of_ble_eq_true rfl) (by decide) (by decide) (c_Tape_isLetterX h5 z16 z16Z z16E) (fun z18 h19 z18Z z18E p20 => ?_)
        obtain ⟨eh19, p20⟩ := p20
        subst eh19
        refine V_if_eq 39 z18E d_Tape_passLetters_23 (by decide) (fun c21 => ?_) (fun c21 => ?_)
        ·
          have g22 := rn_stop (P := leB) (b := b) (p := v7Z) (leB_n (by (first | decide +kernel | omega)))
          exact V_vret rfl d_Tape_passLetters_39 ⟨rfl, ⟨Ih5, Fh5, v7, v7Z, v7E, K8, (by (first | decide +kernel | omega))⟩⟩
        ·
          have g23 := rn_step (P := leB) (b := b) (p := v7Z) (leB_y (by (first | decide +kernel | omega))) (by (first | decide +kernel | omega))
          refine V_aload_n 0 d_Tape_passLetters_26 rfl rfl ?_
          refine V_dup d_Tape_passLetters_27 rfl ?_
          refine N_getK fa_Tape_15 sk_89 rfl d_Tape_passLetters_28 K8 ?_
          refine V_iconst 1 d_Tape_passLetters_31 (by decide) ?_
          refine V_iadd v7E tc_1 (by (first | decide +kernel | omega)) d_Tape_passLetters_32 (fun z24 z24e z24E => ?_)
          refine N_putI fp_Tape_15 sk_89 rfl d_Tape_passLetters_33 (fun h25 eh25 => ?_)
          have hI26 : Inv h25 := inv_put (lo := 0) (hi := 160) Ih5 eh25 rfl z24E (by (first | decide +kernel | omega))
          have f27 : fr S_Tape_passLettersX h h25 := fr_put Fh5 eh25 rfl
          refine V_goto 0 d_Tape_passLetters_36 (by decide) ?_
          exact ihL3 h25 z24 ((v7Z + 1)) hI26 f27 (kn_nei eh25 K6 (by decide)) z24E (kn_put eh25) (by (first | decide +kernel | omega)) (by (first | decide +kernel | omega)) (by (first | decide +kernel | omega))
  exact L3 (Int.toNat ((160 - tZ : Int) + 1)) h t tZ hI f0 sK tE tK (by (first | decide +kernel | omega)) (by (first | decide +kernel | omega)) (by (first | decide +kernel | omega))
def S_Tape_passFiguresX : List (Nat × Option Nat) := [(89, some 4), (89, some 5)]
abbrev q_Tape_passFiguresX (h : Hp) (b : Int → Int) (s : Int32) (sZ : Int) (t : Int32) (tZ : Int) : Option Value → Hp → Prop := pVd (fun h' => Inv h' ∧ fr S_Tape_passFiguresX h h' ∧ ∃ (u : Int32) (uZ : Int), u.toInt = uZ ∧ h'.1 89 4 = u ∧ ∃ (v : Int32) (vZ : Int), v.toInt = vZ ∧ h'.1 89 5 = v ∧ (uZ = rn fiB b tZ ∧ tZ ≤ uZ ∧ uZ ≤ sZ ∧ (uZ - tZ = 0 ∨ uZ - tZ = 1 ∧ vZ = b tZ - 48 ∧ 0 ≤ vZ ∧ vZ ≤ 9 ∨ uZ - tZ = 2 ∧ vZ = 10 * (b tZ - 48) + (b (tZ + 1) - 48) ∧ 0 ≤ vZ ∧ vZ ≤ 99 ∨ 2 < uZ - tZ)))
set_option maxRecDepth 100000 in
theorem c_Tape_passFiguresX (h : Hp) (b : Int → Int) (hI : Inv h) (s : Int32) (sZ : Int) (sE : s.toInt = sZ) (sK : h.1 89 1 = s) (t : Int32) (tZ : Int) (tE : t.toInt = tZ) (tK : h.1 89 4 = t) (hy0 : TP h 90 sZ b) (hy1 : tZ ≤ sZ) : Ct y_Tape_passFigures b_Tape_passFigures 1 none 1 20 [.ref 89] h (q_Tape_passFiguresX h b s sZ t tZ) := by
  refine ct_ow R_Tape [some (.ref 89)] rfl (by decide) rfl (Nat.le_of_ble_eq_true rfl) ?_
  have f0 : fr S_Tape_passFiguresX h h := fr_rf
  have g1 : 0 ≤ sZ ∧ sZ ≤ 160 := inv_at hI sE sK.symm rfl
  have g2 : 0 ≤ tZ ∧ tZ ≤ 160 := inv_at hI tE tK.symm rfl
  refine V_aload_n 0 d_Tape_passFigures_0 rfl rfl ?_
  refine V_iconst 0 d_Tape_passFigures_1 (by decide) ?_
  refine N_putI fp_Tape_51 sk_89 rfl d_Tape_passFigures_2 (fun h3 eh3 => ?_)
  have hI4 : Inv h3 := inv_full hI eh3 rfl
  have f5 : fr S_Tape_passFiguresX h h3 := fr_put f0 eh3 rfl
  have L6 : ∀ (nn : Nat) (h8 : Hp) (v10 : Int32) (v10Z : Int) (v12 : Int32) (v12Z : Int), Inv h8 → fr S_Tape_passFiguresX h h8 → h8.1 89 1 = s → v10.toInt = v10Z → h8.1 89 4 = v10 → v12.toInt = v12Z → h8.1 89 5 = v12 → tZ ≤ v10Z ∧ v10Z ≤ sZ → rn fiB b v10Z = rn fiB b tZ → VFp b tZ v10Z v12Z → DFp b tZ v10Z → 160 - v10Z < (nn : Int) → V R_Tape b_Tape_passFigures 1 none 1 20 (q_Tape_passFiguresX h b s sZ t tZ) h8 5 [some (.ref 89)] [] := by
    intro nn
    induction nn with
    | zero => intro h8 v10 v10Z v12 v12Z Ih8 Fh8 K9 v10E K11 v12E K13 q14 q15 q16 q17 hm18; exact absurd hm18 (by (first | decide +kernel | omega))
    | succ nn ihL6 =>
      intro h8 v10 v10Z v12 v12Z Ih8 Fh8 K9 v10E K11 v12E K13 q14 q15 q16 q17 hm18
      have g19 : 0 ≤ v10Z ∧ v10Z ≤ 160 := inv_at Ih8 v10E K11.symm rfl
      have g20 := TP_b hy0 v10Z (by (first | decide +kernel | omega))
      refine V_aload_n 0 d_Tape_passFigures_5 rfl rfl ?_
      refine N_getK fa_Tape_15 sk_89 rfl d_Tape_passFigures_6 K11 ?_
      refine V_aload_n 0 d_Tape_passFigures_9 rfl rfl ?_
      refine N_getK fa_Tape_22 sk_89 rfl d_Tape_passFigures_10 K9 ?_
      refine V_icmp_ge 68 v10E sE d_Tape_passFigures_13 (by decide) (fun c21 => ?_) (fun c21 => ?_)
      ·
        have g22 := rn_stop (P := fiB) (b := b) (p := v10Z) (fiB_n (by (first | decide +kernel | omega)))
        exact V_vret rfl d_Tape_passFigures_68 ⟨rfl, ⟨Ih8, Fh8, v10, v10Z, v10E, K11, v12, v12Z, v12E, K13, ⟨by (first | decide +kernel | omega), by (first | decide +kernel | omega), by (first | decide +kernel | omega), VFp_e (by assumption) (by assumption)⟩⟩⟩
      ·
        refine V_aload_n 0 d_Tape_passFigures_16 rfl rfl ?_
        refine V_getR fa_Tape_9 sk_89 rfl d_Tape_passFigures_17 ?_
        refine V_aload_n 0 d_Tape_passFigures_20 rfl rfl ?_
        refine N_getK fa_Tape_15 sk_89 rfl d_Tape_passFigures_21 K11 ?_
        refine N_bald sk_90 v10E (by (first | decide +kernel | omega)) d_Tape_passFigures_24 (fun z23 z23Z z23E z23e => ?_)
        have g24 : z23Z = b v10Z := TP_rd (TP_fr Fh8 (fun _ => rfl) hy0) (by (first | decide +kernel | omega)) z23E z23e
        refine N_callSI [.int z23] [] cs_Tape_35 d_Tape_passFigures_25 rfl (Nat.le_of_ble_eq_true rfl) (by decide) (by decide) (c_Tape_isFigureX h8 z23 z23Z z23E) (fun z25 h26 z25Z z25E p27 => ?_)
        obtain ⟨eh26, p27⟩ := p27
        subst eh26
        refine V_if_eq 68 z25E d_Tape_passFigures_28 (by decide) (fun c28 => ?_) (fun c28 => ?_)
        ·
          have g29 := rn_stop (P := fiB) (b := b) (p := v10Z) (fiB_n (by (first | decide +kernel | omega)))
          exact V_vret rfl d_Tape_passFigures_68 ⟨rfl, ⟨Ih8, Fh8, v10, v10Z, v10E, K11, v12, v12Z, v12E, K13, ⟨by (first | decide +kernel | omega), by (first | decide +kernel | omega), by (first | decide +kernel | omega), VFp_e (by assumption) (by assumption)⟩⟩⟩
        ·
          have hf9 : 48 ≤ b v10Z ∧ b v10Z ≤ 57 := by (first | decide +kernel | omega)
          have g30 := rn_step (P := fiB) (b := b) (p := v10Z) (fiB_y hf9) (by (first | decide +kernel | omega))
          refine V_aload_n 0 d_Tape_passFigures_31 rfl rfl ?_
          refine V_bipush 10 d_Tape_passFigures_32 (by decide) ?_
          refine V_aload_n 0 d_Tape_passFigures_34 rfl rfl ?_
          refine N_getK fa_Tape_51 sk_89 rfl d_Tape_passFigures_35 K13 ?_
          refine N_imulw d_Tape_passFigures_38 (fun z31 z31Z z31E z31e => ?_)
          have hw1 := wr_mul tc_10 v12E z31e z31E
          refine V_aload_n 0 d_Tape_passFigures_39 rfl rfl ?_
          refine V_getR fa_Tape_9 sk_89 rfl d_Tape_passFigures_40 ?_
          refine V_aload_n 0 d_Tape_passFigures_43 rfl rfl ?_
          refine N_getK fa_Tape_15 sk_89 rfl d_Tape_passFigures_44 K11 ?_
          refine N_bald sk_90 v10E (by (first | decide +kernel | omega)) d_Tape_passFigures_47 (fun z33 z33Z z33E z33e => ?_)
          have hx9 : z33Z = b v10Z := TP_rd (TP_fr Fh8 (fun _ => rfl) hy0) (by (first | decide +kernel | omega)) z33E z33e
          refine N_iaddw d_Tape_passFigures_48 (fun z35 z35Z z35E z35e => ?_)
          have hw2 := wr_add z31E z33E z35e z35E
          refine V_bipush 48 d_Tape_passFigures_49 (by decide) ?_
          refine N_isubw d_Tape_passFigures_51 (fun z37 z37Z z37E z37e => ?_)
          have hw3 := wr_sub z35E tc_48 z37e z37E
          refine N_putI fp_Tape_51 sk_89 rfl d_Tape_passFigures_52 (fun h39 eh39 => ?_)
          have hI40 : Inv h39 := inv_full Ih8 eh39 rfl
          have f41 : fr S_Tape_passFiguresX h h39 := fr_put Fh8 eh39 rfl
          refine V_aload_n 0 d_Tape_passFigures_55 rfl rfl ?_
          refine V_dup d_Tape_passFigures_56 rfl ?_
          refine N_getK fa_Tape_15 sk_89 rfl d_Tape_passFigures_57 (kn_nei eh39 K11 (by decide)) ?_
          refine V_iconst 1 d_Tape_passFigures_60 (by decide) ?_
          refine V_iadd v10E tc_1 (by (first | decide +kernel | omega)) d_Tape_passFigures_61 (fun z42 z42e z42E => ?_)
          refine N_putI fp_Tape_15 sk_89 rfl d_Tape_passFigures_62 (fun h43 eh43 => ?_)
          have hI44 : Inv h43 := inv_put (lo := 0) (hi := 160) hI40 eh43 rfl z42E (by (first | decide +kernel | omega))
          have f45 : fr S_Tape_passFiguresX h h43 := fr_put f41 eh43 rfl
          refine V_goto 5 d_Tape_passFigures_65 (by decide) ?_
          exact ihL6 h43 z42 ((v10Z + 1)) z37 z37Z hI44 f45 (kn_nei eh43 (kn_nei eh39 K9 (by decide)) (by decide)) z42E (kn_put eh43) z37E (kn_nei eh43 (kn_put eh39) (by decide)) (by (first | decide +kernel | omega)) (by (first | decide +kernel | omega)) (VFp_s (by assumption) (by assumption) hf9 hx9 hw1 hw2 hw3) (DFp_s (by assumption) (by (first | decide +kernel | omega)) hf9) (by (first | decide +kernel | omega))
  exact L6 (Int.toNat ((160 - tZ : Int) + 1)) h3 t tZ 0 0 hI4 f5 (kn_nei eh3 sK (by decide)) tE (kn_nei eh3 tK (by decide)) tc_0 (kn_put eh3) (by (first | decide +kernel | omega)) (by (first | decide +kernel | omega)) VFp_0 DFp_0 (by (first | decide +kernel | omega))
def S_Tape_advanceX : List (Nat × Option Nat) := [(89, some 2), (89, some 3), (89, some 4), (89, some 5)]
abbrev q_Tape_advanceX (h : Hp) (b : Int → Int) (s : Int32) (sZ : Int) (t : Int32) (tZ : Int) : Option Value → Hp → Prop := pVd (fun h' => Inv h' ∧ fr S_Tape_advanceX h h' ∧ ∃ (k : Int32) (kZ : Int), k.toInt = kZ ∧ h'.1 89 2 = k ∧ ∃ (f : Int32) (fZ : Int), f.toInt = fZ ∧ h'.1 89 3 = f ∧ ∃ (u : Int32) (uZ : Int), u.toInt = uZ ∧ h'.1 89 4 = u ∧ ∃ (v : Int32) (vZ : Int), v.toInt = vZ ∧ h'.1 89 5 = v ∧ (fZ = x_fr b tZ ∧ kZ = x_kd b tZ ∧ (kZ = 4 ∨ uZ = x_en b tZ) ∧ (kZ ≠ 2 ∨ vZ = x_vl b tZ ∧ 0 ≤ vZ ∧ vZ ≤ 99) ∧ tZ ≤ fZ ∧ fZ ≤ uZ ∧ uZ ≤ sZ ∧ (kZ = 0 ∧ fZ = sZ ∨ kZ ≠ 0 ∧ fZ < sZ) ∧ 0 ≤ kZ ∧ kZ ≤ 4 ∧ (kZ = 0 ∨ kZ = 4 ∨ fZ < uZ)))
set_option maxRecDepth 100000 in
theorem c_Tape_advanceX (h : Hp) (b : Int → Int) (hI : Inv h) (s : Int32) (sZ : Int) (sE : s.toInt = sZ) (sK : h.1 89 1 = s) (t : Int32) (tZ : Int) (tE : t.toInt = tZ) (tK : h.1 89 4 = t) (hy0 : TP h 90 sZ b) (hy1 : tZ ≤ sZ) : Ct y_Tape_advance b_Tape_advance 1 none 2 40 [.ref 89] h (q_Tape_advanceX h b s sZ t tZ) := by
  refine ct_ow R_Tape [some (.ref 89)] rfl (by decide) rfl (Nat.le_of_ble_eq_true rfl) ?_
  have f0 : fr S_Tape_advanceX h h := fr_rf
  have g1 : 0 ≤ sZ ∧ sZ ≤ 160 := inv_at hI sE sK.symm rfl
  have g2 : 0 ≤ tZ ∧ tZ ≤ 160 := inv_at hI tE tK.symm rfl
  refine V_aload_n 0 d_Tape_advance_0 rfl rfl ?_
  refine V_aload_n 0 d_Tape_advance_1 rfl rfl ?_
  refine N_getK fa_Tape_15 sk_89 rfl d_Tape_advance_2 tK ?_
  refine N_putI fp_Tape_19 sk_89 rfl d_Tape_advance_5 (fun h3 eh3 => ?_)
  have hI4 : Inv h3 := inv_put (lo := 0) (hi := 160) hI eh3 rfl tE (by (first | decide +kernel | omega))
  have f5 : fr S_Tape_advanceX h h3 := fr_put f0 eh3 rfl
  have L6 : ∀ (nn : Nat) (h8 : Hp) (v11 : Int32) (v11Z : Int), Inv h8 → fr S_Tape_advanceX h h8 → h8.1 89 1 = s → h8.1 89 4 = t → v11.toInt = v11Z → h8.1 89 3 = v11 → tZ ≤ v11Z ∧ v11Z ≤ sZ → rn blB b v11Z = rn blB b tZ → 160 - v11Z < (nn : Int) → V R_Tape b_Tape_advance 1 none 2 40 (q_Tape_advanceX h b s sZ t tZ) h8 8 [some (.ref 89)] [] := by
    intro nn
    induction nn with
    | zero => intro h8 v11 v11Z Ih8 Fh8 K9 K10 v11E K12 q13 q14 hm15; exact absurd hm15 (by (first | decide +kernel | omega))
    | succ nn ihL6 =>
      intro h8 v11 v11Z Ih8 Fh8 K9 K10 v11E K12 q13 q14 hm15
      have g16 : 0 ≤ v11Z ∧ v11Z ≤ 160 := inv_at Ih8 v11E K12.symm rfl
      have g17 := TP_b hy0 v11Z (by (first | decide +kernel | omega))
      refine V_aload_n 0 d_Tape_advance_8 rfl rfl ?_
      refine N_getK fa_Tape_19 sk_89 rfl d_Tape_advance_9 K12 ?_
      refine V_aload_n 0 d_Tape_advance_12 rfl rfl ?_
      refine N_getK fa_Tape_22 sk_89 rfl d_Tape_advance_13 K9 ?_
      refine V_icmp_ge 46 v11E sE d_Tape_advance_16 (by decide) (fun c18 => ?_) (fun c18 => ?_)
      ·
        have g19 := rn_stop (P := blB) (b := b) (p := v11Z) (blB_n (by (first | decide +kernel | omega)))
        refine V_aload_n 0 d_Tape_advance_46 rfl rfl ?_
        refine V_aload_n 0 d_Tape_advance_47 rfl rfl ?_
        refine N_getK fa_Tape_19 sk_89 rfl d_Tape_advance_48 K12 ?_
        refine N_putI fp_Tape_15 sk_89 rfl d_Tape_advance_51 (fun h20 eh20 => ?_)
        have hI21 : Inv h20 := inv_put (lo := 0) (hi := 160) Ih8 eh20 rfl v11E (by (first | decide +kernel | omega))
        have f22 : fr S_Tape_advanceX h h20 := fr_put Fh8 eh20 rfl
        refine V_aload_n 0 d_Tape_advance_54 rfl rfl ?_
        refine N_getK fa_Tape_19 sk_89 rfl d_Tape_advance_55 (kn_nei eh20 K12 (by decide)) ?_
        refine V_aload_n 0 d_Tape_advance_58 rfl rfl ?_
        refine N_getK fa_Tape_22 sk_89 rfl d_Tape_advance_59 (kn_nei eh20 K9 (by decide)) ?_
        refine V_icmp_lt 73 v11E sE d_Tape_advance_62 (by decide) (fun c23 => ?_) (fun c23 => ?_)
        ·
          refine V_aload_n 0 d_Tape_advance_73 rfl rfl ?_
          refine V_getR fa_Tape_9 sk_89 rfl d_Tape_advance_74 ?_
          refine V_aload_n 0 d_Tape_advance_77 rfl rfl ?_
          refine N_getK fa_Tape_19 sk_89 rfl d_Tape_advance_78 (kn_nei eh20 K12 (by decide)) ?_
          refine N_bald sk_90 v11E (by (first | decide +kernel | omega)) d_Tape_advance_81 (fun z24 z24Z z24E z24e => ?_)
          have g25 : z24Z = b v11Z := TP_rd (TP_fr f22 (fun _ => rfl) hy0) (by (first | decide +kernel | omega)) z24E z24e
          refine V_bipush 59 d_Tape_advance_82 (by decide) ?_
          refine V_icmp_ne 105 z24E tc_59 d_Tape_advance_84 (by decide) (fun c26 => ?_) (fun c26 => ?_)
          ·
            refine V_aload_n 0 d_Tape_advance_105 rfl rfl ?_
            refine V_getR fa_Tape_9 sk_89 rfl d_Tape_advance_106 ?_
            refine V_aload_n 0 d_Tape_advance_109 rfl rfl ?_
            refine N_getK fa_Tape_19 sk_89 rfl d_Tape_advance_110 (kn_nei eh20 K12 (by decide)) ?_
            refine N_bald sk_90 v11E (by (first | decide +kernel | omega)) d_Tape_advance_113 (fun z27 z27Z z27E z27e => ?_)
            have g28 : z27Z = b v11Z := TP_rd (TP_fr f22 (fun _ => rfl) hy0) (by (first | decide +kernel | omega)) z27E z27e
            refine N_callSI [.int z27] [] cs_Tape_28 d_Tape_advance_114 rfl (Nat.le_of_ble_eq_true rfl) (by decide) (by decide) (c_Tape_isLetterX h20 z27 z27Z z27E) (fun z29 h30 z29Z z29E p31 => ?_)
            obtain ⟨eh30, p31⟩ := p31
            subst eh30
            refine V_if_eq 132 z29E d_Tape_advance_117 (by decide) (fun c32 => ?_) (fun c32 => ?_)
            ·
              refine V_aload_n 0 d_Tape_advance_132 rfl rfl ?_
              refine V_getR fa_Tape_9 sk_89 rfl d_Tape_advance_133 ?_
              refine V_aload_n 0 d_Tape_advance_136 rfl rfl ?_
              refine N_getK fa_Tape_19 sk_89 rfl d_Tape_advance_137 (kn_nei eh20 K12 (by decide)) ?_
              refine N_bald sk_90 v11E (by (first | decide +kernel | omega)) d_Tape_advance_140 (fun z33 z33Z z33E z33e => ?_)
              have g34 : z33Z = b v11Z := TP_rd (TP_fr f22 (fun _ => rfl) hy0) (by (first | decide +kernel | omega)) z33E z33e
              refine N_callSI [.int z33] [] cs_Tape_35 d_Tape_advance_141 rfl (Nat.le_of_ble_eq_true rfl) (by decide) (by decide) (c_Tape_isFigureX h20 z33 z33Z z33E) (fun z35 h36 z35Z z35E p37 => ?_)
              obtain ⟨eh36, p37⟩ := p37
              subst eh36
              refine V_if_eq 176 z35E d_Tape_advance_144 (by decide) (fun c38 => ?_) (fun c38 => ?_)
              ·
                have g39 := tok_4 (p := tZ) (show v11Z = x_fr b tZ by unfold x_fr; omega) (by (first | decide +kernel | omega))
                have g40 : v11Z = x_fr b tZ := by unfold x_fr; omega
                refine V_aload_n 0 d_Tape_advance_176 rfl rfl ?_
                refine V_iconst 4 d_Tape_advance_177 (by decide) ?_
                refine N_putI fp_Tape_25 sk_89 rfl d_Tape_advance_178 (fun h41 eh41 => ?_)
                have hI42 : Inv h41 := inv_full hI21 eh41 rfl
                have f43 : fr S_Tape_advanceX h h41 := fr_put f22 eh41 rfl
                obtain ⟨z44, z44Z, z44E, z44e⟩ : ∃ (y : Int32) (Y : Int), y.toInt = Y ∧ y = h41.1 89 5 := ⟨_, _, rfl, rfl⟩
                exact V_vret rfl d_Tape_advance_181 ⟨rfl, ⟨hI42, f43, 4, 4, tc_4, (kn_put eh41), v11, v11Z, v11E, (kn_nei eh41 (kn_nei eh20 K12 (by decide)) (by decide)), v11, v11Z, v11E, (kn_nei eh41 (kn_put eh20) (by decide)), z44, z44Z, z44E, z44e.symm, (by (first | decide +kernel | omega))⟩⟩
              ·
                refine V_aload_n 0 d_Tape_advance_147 rfl rfl ?_
                refine N_callVV [] [] cv_Tape_38 sk_89 rfl d_Tape_advance_148 rfl (Nat.le_of_ble_eq_true rfl) (by decide) (by decide) (c_Tape_passFiguresX h20 b hI21 s sZ sE (kn_nei eh20 K9 (by decide)) v11 v11Z v11E (kn_put eh20) (TP_fr f22 (fun _ => rfl) hy0) (by (first | decide +kernel | omega))) (fun h46 p47 => ?_)
                obtain ⟨hI48, fh46, o50, o50Z, o50E, o50K, o51, o51Z, o51E, o51K, p47⟩ := p47
                have f49 : fr S_Tape_advanceX h h46 := fr_call f22 fh46 rfl
                have g52 : 0 ≤ o50Z ∧ o50Z ≤ 160 := inv_at hI48 o50E o50K.symm rfl
                have g53 := tok_2 (p := tZ) (u := o50Z) (show v11Z = x_fr b tZ by unfold x_fr; omega) (by (first | decide +kernel | omega)) (by (first | decide +kernel | omega))
                have g54 : v11Z = x_fr b tZ := by unfold x_fr; omega
                have g55 := rn_step (P := fiB) (b := b) (p := v11Z) (fiB_y (by (first | decide +kernel | omega))) (by (first | decide +kernel | omega))
                have g56 := rn_ge (P := fiB) (b := b) (v11Z + 1)
                refine V_aload_n 0 d_Tape_advance_151 rfl rfl ?_
                refine V_aload_n 0 d_Tape_advance_152 rfl rfl ?_
                refine N_getK fa_Tape_15 sk_89 rfl d_Tape_advance_153 o50K ?_
                refine V_aload_n 0 d_Tape_advance_156 rfl rfl ?_
                refine N_getK fa_Tape_19 sk_89 rfl d_Tape_advance_157 (kn_call fh46 (kn_nei eh20 K12 (by decide)) rfl) ?_
                refine V_isub o50E v11E (by (first | decide +kernel | omega)) d_Tape_advance_160 (fun z57 z57e z57E => ?_)
                refine V_iconst 2 d_Tape_advance_161 (by decide) ?_
                refine V_icmp_le 169 z57E tc_2 d_Tape_advance_162 (by decide) (fun c58 => ?_) (fun c58 => ?_)
                ·
                  have g59 := tok_v (p := tZ) (u := o50Z) (v := o51Z) (show v11Z = x_fr b tZ by unfold x_fr; omega) (by (first | decide +kernel | omega)) (by (first | decide +kernel | omega))
                  refine V_iconst 2 d_Tape_advance_169 (by decide) ?_
                  refine N_putI fp_Tape_25 sk_89 rfl d_Tape_advance_170 (fun h60 eh60 => ?_)
                  have hI61 : Inv h60 := inv_full hI48 eh60 rfl
                  have f62 : fr S_Tape_advanceX h h60 := fr_put f49 eh60 rfl
                  refine V_goto 181 d_Tape_advance_173 (by decide) ?_
                  exact V_vret rfl d_Tape_advance_181 ⟨rfl, ⟨hI61, f62, 2, 2, tc_2, (kn_put eh60), v11, v11Z, v11E, (kn_nei eh60 (kn_call fh46 (kn_nei eh20 K12 (by decide)) rfl) (by decide)), o50, o50Z, o50E, (kn_nei eh60 o50K (by decide)), o51, o51Z, o51E, (kn_nei eh60 o51K (by decide)), (by (first | decide +kernel | omega))⟩⟩
                ·
                  refine V_iconst 4 d_Tape_advance_165 (by decide) ?_
                  refine V_goto 170 d_Tape_advance_166 (by decide) ?_
                  refine N_putI fp_Tape_25 sk_89 rfl d_Tape_advance_170 (fun h63 eh63 => ?_)
                  have hI64 : Inv h63 := inv_full hI48 eh63 rfl
                  have f65 : fr S_Tape_advanceX h h63 := fr_put f49 eh63 rfl
                  refine V_goto 181 d_Tape_advance_173 (by decide) ?_
                  exact V_vret rfl d_Tape_advance_181 ⟨rfl, ⟨hI64, f65, 4, 4, tc_4, (kn_put eh63), v11, v11Z, v11E, (kn_nei eh63 (kn_call fh46 (kn_nei eh20 K12 (by decide)) rfl) (by decide)), o50, o50Z, o50E, (kn_nei eh63 o50K (by decide)), o51, o51Z, o51E, (kn_nei eh63 o51K (by decide)), (by (first | decide +kernel | omega))⟩⟩
            ·
              refine V_aload_n 0 d_Tape_advance_120 rfl rfl ?_
              refine V_iconst 1 d_Tape_advance_121 (by decide) ?_
              refine N_putI fp_Tape_25 sk_89 rfl d_Tape_advance_122 (fun h66 eh66 => ?_)
              have hI67 : Inv h66 := inv_full hI21 eh66 rfl
              have f68 : fr S_Tape_advanceX h h66 := fr_put f22 eh66 rfl
              refine V_aload_n 0 d_Tape_advance_125 rfl rfl ?_
              refine N_callVV [] [] cv_Tape_32 sk_89 rfl d_Tape_advance_126 rfl (Nat.le_of_ble_eq_true rfl) (by decide) (by decide) (c_Tape_passLettersX h66 b hI67 s sZ sE (kn_nei eh66 (kn_nei eh20 K9 (by decide)) (by decide)) v11 v11Z v11E (kn_nei eh66 (kn_put eh20) (by decide)) (TP_fr f68 (fun _ => rfl) hy0) (by (first | decide +kernel | omega))) (fun h70 p71 => ?_)
              obtain ⟨hI72, fh70, o74, o74Z, o74E, o74K, p71⟩ := p71
              have f73 : fr S_Tape_advanceX h h70 := fr_call f68 fh70 rfl
              have g75 : 0 ≤ o74Z ∧ o74Z ≤ 160 := inv_at hI72 o74E o74K.symm rfl
              have g76 := tok_1 (p := tZ) (u := o74Z) (show v11Z = x_fr b tZ by unfold x_fr; omega) (by (first | decide +kernel | omega)) (by (first | decide +kernel | omega))
              have g77 : v11Z = x_fr b tZ := by unfold x_fr; omega
              have g78 := rn_step (P := leB) (b := b) (p := v11Z) (leB_y (by (first | decide +kernel | omega))) (by (first | decide +kernel | omega))
              have g79 := rn_ge (P := leB) (b := b) (v11Z + 1)
              refine V_goto 181 d_Tape_advance_129 (by decide) ?_
              obtain ⟨z80, z80Z, z80E, z80e⟩ : ∃ (y : Int32) (Y : Int), y.toInt = Y ∧ y = h70.1 89 5 := ⟨_, _, rfl, rfl⟩
              exact V_vret rfl d_Tape_advance_181 ⟨rfl, ⟨hI72, f73, 1, 1, tc_1, (kn_call fh70 (kn_put eh66) rfl), v11, v11Z, v11E, (kn_call fh70 (kn_nei eh66 (kn_nei eh20 K12 (by decide)) (by decide)) rfl), o74, o74Z, o74E, o74K, z80, z80Z, z80E, z80e.symm, (by (first | decide +kernel | omega))⟩⟩
          ·
            have g81 := tok_3 (p := tZ) (show v11Z = x_fr b tZ by unfold x_fr; omega) (by (first | decide +kernel | omega))
            have g82 : v11Z = x_fr b tZ := by unfold x_fr; omega
            refine V_aload_n 0 d_Tape_advance_87 rfl rfl ?_
            refine V_iconst 3 d_Tape_advance_88 (by decide) ?_
            refine N_putI fp_Tape_25 sk_89 rfl d_Tape_advance_89 (fun h83 eh83 => ?_)
            have hI84 : Inv h83 := inv_full hI21 eh83 rfl
            have f85 : fr S_Tape_advanceX h h83 := fr_put f22 eh83 rfl
            refine V_aload_n 0 d_Tape_advance_92 rfl rfl ?_
            refine V_aload_n 0 d_Tape_advance_93 rfl rfl ?_
            refine N_getK fa_Tape_19 sk_89 rfl d_Tape_advance_94 (kn_nei eh83 (kn_nei eh20 K12 (by decide)) (by decide)) ?_
            refine V_iconst 1 d_Tape_advance_97 (by decide) ?_
            refine V_iadd v11E tc_1 (by (first | decide +kernel | omega)) d_Tape_advance_98 (fun z86 z86e z86E => ?_)
            refine N_putI fp_Tape_15 sk_89 rfl d_Tape_advance_99 (fun h87 eh87 => ?_)
            have hI88 : Inv h87 := inv_put (lo := 0) (hi := 160) hI84 eh87 rfl z86E (by (first | decide +kernel | omega))
            have f89 : fr S_Tape_advanceX h h87 := fr_put f85 eh87 rfl
            refine V_goto 181 d_Tape_advance_102 (by decide) ?_
            obtain ⟨z90, z90Z, z90E, z90e⟩ : ∃ (y : Int32) (Y : Int), y.toInt = Y ∧ y = h87.1 89 5 := ⟨_, _, rfl, rfl⟩
            exact V_vret rfl d_Tape_advance_181 ⟨rfl, ⟨hI88, f89, 3, 3, tc_3, (kn_nei eh87 (kn_put eh83) (by decide)), v11, v11Z, v11E, (kn_nei eh87 (kn_nei eh83 (kn_nei eh20 K12 (by decide)) (by decide)) (by decide)), z86, (v11Z + 1), z86E, (kn_put eh87), z90, z90Z, z90E, z90e.symm, (by (first | decide +kernel | omega))⟩⟩
        ·
          have g91 := tok_0 (p := tZ) (show v11Z = x_fr b tZ by unfold x_fr; omega) (by (first | decide +kernel | omega))
          have g92 : v11Z = x_fr b tZ := by unfold x_fr; omega
          refine V_aload_n 0 d_Tape_advance_65 rfl rfl ?_
          refine V_iconst 0 d_Tape_advance_66 (by decide) ?_
          refine N_putI fp_Tape_25 sk_89 rfl d_Tape_advance_67 (fun h93 eh93 => ?_)
          have hI94 : Inv h93 := inv_full hI21 eh93 rfl
          have f95 : fr S_Tape_advanceX h h93 := fr_put f22 eh93 rfl
          refine V_goto 181 d_Tape_advance_70 (by decide) ?_
          obtain ⟨z96, z96Z, z96E, z96e⟩ : ∃ (y : Int32) (Y : Int), y.toInt = Y ∧ y = h93.1 89 5 := ⟨_, _, rfl, rfl⟩
          exact V_vret rfl d_Tape_advance_181 ⟨rfl, ⟨hI94, f95, 0, 0, tc_0, (kn_put eh93), v11, v11Z, v11E, (kn_nei eh93 (kn_nei eh20 K12 (by decide)) (by decide)), v11, v11Z, v11E, (kn_nei eh93 (kn_put eh20) (by decide)), z96, z96Z, z96E, z96e.symm, (by (first | decide +kernel | omega))⟩⟩
      ·
        refine V_aload_n 0 d_Tape_advance_19 rfl rfl ?_
        refine V_getR fa_Tape_9 sk_89 rfl d_Tape_advance_20 ?_
        refine V_aload_n 0 d_Tape_advance_23 rfl rfl ?_
        refine N_getK fa_Tape_19 sk_89 rfl d_Tape_advance_24 K12 ?_
        refine N_bald sk_90 v11E (by (first | decide +kernel | omega)) d_Tape_advance_27 (fun z97 z97Z z97E z97e => ?_)
        have g98 : z97Z = b v11Z := TP_rd (TP_fr Fh8 (fun _ => rfl) hy0) (by (first | decide +kernel | omega)) z97E z97e
        refine V_bipush 32 d_Tape_advance_28 (by decide) ?_
        refine V_icmp_ne 46 z97E tc_32 d_Tape_advance_30 (by decide) (fun c99 => ?_) (fun c99 => ?_)
        ·
          have g100 := rn_stop (P := blB) (b := b) (p := v11Z) (blB_n (by (first | decide +kernel | omega)))
          refine V_aload_n 0 d_Tape_advance_46 rfl rfl ?_
          refine V_aload_n 0 d_Tape_advance_47 rfl rfl ?_
          refine N_getK fa_Tape_19 sk_89 rfl d_Tape_advance_48 K12 ?_
          refine N_putI fp_Tape_15 sk_89 rfl d_Tape_advance_51 (fun h101 eh101 => ?_)
          have hI102 : Inv h101 := inv_put (lo := 0) (hi := 160) Ih8 eh101 rfl v11E (by (first | decide +kernel | omega))
          have f103 : fr S_Tape_advanceX h h101 := fr_put Fh8 eh101 rfl
          refine V_aload_n 0 d_Tape_advance_54 rfl rfl ?_
          refine N_getK fa_Tape_19 sk_89 rfl d_Tape_advance_55 (kn_nei eh101 K12 (by decide)) ?_
          refine V_aload_n 0 d_Tape_advance_58 rfl rfl ?_
          refine N_getK fa_Tape_22 sk_89 rfl d_Tape_advance_59 (kn_nei eh101 K9 (by decide)) ?_
          refine V_icmp_lt 73 v11E sE d_Tape_advance_62 (by decide) (fun c104 => ?_) (fun c104 => ?_)
          ·
            refine V_aload_n 0 d_Tape_advance_73 rfl rfl ?_
            refine V_getR fa_Tape_9 sk_89 rfl d_Tape_advance_74 ?_
            refine V_aload_n 0 d_Tape_advance_77 rfl rfl ?_
            refine N_getK fa_Tape_19 sk_89 rfl d_Tape_advance_78 (kn_nei eh101 K12 (by decide)) ?_
            refine N_bald sk_90 v11E (by (first | decide +kernel | omega)) d_Tape_advance_81 (fun z105 z105Z z105E z105e => ?_)
            have g106 : z105Z = b v11Z := TP_rd (TP_fr f103 (fun _ => rfl) hy0) (by (first | decide +kernel | omega)) z105E z105e
            refine V_bipush 59 d_Tape_advance_82 (by decide) ?_
            refine V_icmp_ne 105 z105E tc_59 d_Tape_advance_84 (by decide) (fun c107 => ?_) (fun c107 => ?_)
            ·
              refine V_aload_n 0 d_Tape_advance_105 rfl rfl ?_
              refine V_getR fa_Tape_9 sk_89 rfl d_Tape_advance_106 ?_
              refine V_aload_n 0 d_Tape_advance_109 rfl rfl ?_
              refine N_getK fa_Tape_19 sk_89 rfl d_Tape_advance_110 (kn_nei eh101 K12 (by decide)) ?_
              refine N_bald sk_90 v11E (by (first | decide +kernel | omega)) d_Tape_advance_113 (fun z108 z108Z z108E z108e => ?_)
              have g109 : z108Z = b v11Z := TP_rd (TP_fr f103 (fun _ => rfl) hy0) (by (first | decide +kernel | omega)) z108E z108e
              refine N_callSI [.int z108] [] cs_Tape_28 d_Tape_advance_114 rfl (Nat.le_of_ble_eq_true rfl) (by decide) (by decide) (c_Tape_isLetterX h101 z108 z108Z z108E) (fun z110 h111 z110Z z110E p112 => ?_)
              obtain ⟨eh111, p112⟩ := p112
              subst eh111
              refine V_if_eq 132 z110E d_Tape_advance_117 (by decide) (fun c113 => ?_) (fun c113 => ?_)
              ·
                refine V_aload_n 0 d_Tape_advance_132 rfl rfl ?_
                refine V_getR fa_Tape_9 sk_89 rfl d_Tape_advance_133 ?_
                refine V_aload_n 0 d_Tape_advance_136 rfl rfl ?_
                refine N_getK fa_Tape_19 sk_89 rfl d_Tape_advance_137 (kn_nei eh101 K12 (by decide)) ?_
                refine N_bald sk_90 v11E (by (first | decide +kernel | omega)) d_Tape_advance_140 (fun z114 z114Z z114E z114e => ?_)
                have g115 : z114Z = b v11Z := TP_rd (TP_fr f103 (fun _ => rfl) hy0) (by (first | decide +kernel | omega)) z114E z114e
                refine N_callSI [.int z114] [] cs_Tape_35 d_Tape_advance_141 rfl (Nat.le_of_ble_eq_true rfl) (by decide) (by decide) (c_Tape_isFigureX h101 z114 z114Z z114E) (fun z116 h117 z116Z z116E p118 => ?_)
                obtain ⟨eh117, p118⟩ := p118
                subst eh117
                refine V_if_eq 176 z116E d_Tape_advance_144 (by decide) (fun c119 => ?_) (fun c119 => ?_)
                ·
                  have g120 := tok_4 (p := tZ) (show v11Z = x_fr b tZ by unfold x_fr; omega) (by (first | decide +kernel | omega))
                  have g121 : v11Z = x_fr b tZ := by unfold x_fr; omega
                  refine V_aload_n 0 d_Tape_advance_176 rfl rfl ?_
                  refine V_iconst 4 d_Tape_advance_177 (by decide) ?_
                  refine N_putI fp_Tape_25 sk_89 rfl d_Tape_advance_178 (fun h122 eh122 => ?_)
                  have hI123 : Inv h122 := inv_full hI102 eh122 rfl
                  have f124 : fr S_Tape_advanceX h h122 := fr_put f103 eh122 rfl
                  obtain ⟨z125, z125Z, z125E, z125e⟩ : ∃ (y : Int32) (Y : Int), y.toInt = Y ∧ y = h122.1 89 5 := ⟨_, _, rfl, rfl⟩
                  exact V_vret rfl d_Tape_advance_181 ⟨rfl, ⟨hI123, f124, 4, 4, tc_4, (kn_put eh122), v11, v11Z, v11E, (kn_nei eh122 (kn_nei eh101 K12 (by decide)) (by decide)), v11, v11Z, v11E, (kn_nei eh122 (kn_put eh101) (by decide)), z125, z125Z, z125E, z125e.symm, (by (first | decide +kernel | omega))⟩⟩
                ·
                  refine V_aload_n 0 d_Tape_advance_147 rfl rfl ?_
                  refine N_callVV [] [] cv_Tape_38 sk_89 rfl d_Tape_advance_148 rfl (Nat.le_of_ble_eq_true rfl) (by decide) (by decide) (c_Tape_passFiguresX h101 b hI102 s sZ sE (kn_nei eh101 K9 (by decide)) v11 v11Z v11E (kn_put eh101) (TP_fr f103 (fun _ => rfl) hy0) (by (first | decide +kernel | omega))) (fun h127 p128 => ?_)
                  obtain ⟨hI129, fh127, o131, o131Z, o131E, o131K, o132, o132Z, o132E, o132K, p128⟩ := p128
                  have f130 : fr S_Tape_advanceX h h127 := fr_call f103 fh127 rfl
                  have g133 : 0 ≤ o131Z ∧ o131Z ≤ 160 := inv_at hI129 o131E o131K.symm rfl
                  have g134 := tok_2 (p := tZ) (u := o131Z) (show v11Z = x_fr b tZ by unfold x_fr; omega) (by (first | decide +kernel | omega)) (by (first | decide +kernel | omega))
                  have g135 : v11Z = x_fr b tZ := by unfold x_fr; omega
                  have g136 := rn_step (P := fiB) (b := b) (p := v11Z) (fiB_y (by (first | decide +kernel | omega))) (by (first | decide +kernel | omega))
                  have g137 := rn_ge (P := fiB) (b := b) (v11Z + 1)
                  refine V_aload_n 0 d_Tape_advance_151 rfl rfl ?_
                  refine V_aload_n 0 d_Tape_advance_152 rfl rfl ?_
                  refine N_getK fa_Tape_15 sk_89 rfl d_Tape_advance_153 o131K ?_
                  refine V_aload_n 0 d_Tape_advance_156 rfl rfl ?_
                  refine N_getK fa_Tape_19 sk_89 rfl d_Tape_advance_157 (kn_call fh127 (kn_nei eh101 K12 (by decide)) rfl) ?_
                  refine V_isub o131E v11E (by (first | decide +kernel | omega)) d_Tape_advance_160 (fun z138 z138e z138E => ?_)
                  refine V_iconst 2 d_Tape_advance_161 (by decide) ?_
                  refine V_icmp_le 169 z138E tc_2 d_Tape_advance_162 (by decide) (fun c139 => ?_) (fun c139 => ?_)
                  ·
                    have g140 := tok_v (p := tZ) (u := o131Z) (v := o132Z) (show v11Z = x_fr b tZ by unfold x_fr; omega) (by (first | decide +kernel | omega)) (by (first | decide +kernel | omega))
                    refine V_iconst 2 d_Tape_advance_169 (by decide) ?_
                    refine N_putI fp_Tape_25 sk_89 rfl d_Tape_advance_170 (fun h141 eh141 => ?_)
                    have hI142 : Inv h141 := inv_full hI129 eh141 rfl
                    have f143 : fr S_Tape_advanceX h h141 := fr_put f130 eh141 rfl
                    refine V_goto 181 d_Tape_advance_173 (by decide) ?_
                    exact V_vret rfl d_Tape_advance_181 ⟨rfl, ⟨hI142, f143, 2, 2, tc_2, (kn_put eh141), v11, v11Z, v11E, (kn_nei eh141 (kn_call fh127 (kn_nei eh101 K12 (by decide)) rfl) (by decide)), o131, o131Z, o131E, (kn_nei eh141 o131K (by decide)), o132, o132Z, o132E, (kn_nei eh141 o132K (by decide)), (by (first | decide +kernel | omega))⟩⟩
                  ·
                    refine V_iconst 4 d_Tape_advance_165 (by decide) ?_
                    refine V_goto 170 d_Tape_advance_166 (by decide) ?_
                    refine N_putI fp_Tape_25 sk_89 rfl d_Tape_advance_170 (fun h144 eh144 => ?_)
                    have hI145 : Inv h144 := inv_full hI129 eh144 rfl
                    have f146 : fr S_Tape_advanceX h h144 := fr_put f130 eh144 rfl
                    refine V_goto 181 d_Tape_advance_173 (by decide) ?_
                    exact V_vret rfl d_Tape_advance_181 ⟨rfl, ⟨hI145, f146, 4, 4, tc_4, (kn_put eh144), v11, v11Z, v11E, (kn_nei eh144 (kn_call fh127 (kn_nei eh101 K12 (by decide)) rfl) (by decide)), o131, o131Z, o131E, (kn_nei eh144 o131K (by decide)), o132, o132Z, o132E, (kn_nei eh144 o132K (by decide)), (by (first | decide +kernel | omega))⟩⟩
              ·
                refine V_aload_n 0 d_Tape_advance_120 rfl rfl ?_
                refine V_iconst 1 d_Tape_advance_121 (by decide) ?_
                refine N_putI fp_Tape_25 sk_89 rfl d_Tape_advance_122 (fun h147 eh147 => ?_)
                have hI148 : Inv h147 := inv_full hI102 eh147 rfl
                have f149 : fr S_Tape_advanceX h h147 := fr_put f103 eh147 rfl
                refine V_aload_n 0 d_Tape_advance_125 rfl rfl ?_
                refine N_callVV [] [] cv_Tape_32 sk_89 rfl d_Tape_advance_126 rfl (Nat.le_of_ble_eq_true rfl) (by decide) (by decide) (c_Tape_passLettersX h147 b hI148 s sZ sE (kn_nei eh147 (kn_nei eh101 K9 (by decide)) (by decide)) v11 v11Z v11E (kn_nei eh147 (kn_put eh101) (by decide)) (TP_fr f149 (fun _ => rfl) hy0) (by (first | decide +kernel | omega))) (fun h151 p152 => ?_)
                obtain ⟨hI153, fh151, o155, o155Z, o155E, o155K, p152⟩ := p152
                have f154 : fr S_Tape_advanceX h h151 := fr_call f149 fh151 rfl
                have g156 : 0 ≤ o155Z ∧ o155Z ≤ 160 := inv_at hI153 o155E o155K.symm rfl
                have g157 := tok_1 (p := tZ) (u := o155Z) (show v11Z = x_fr b tZ by unfold x_fr; omega) (by (first | decide +kernel | omega)) (by (first | decide +kernel | omega))
                have g158 : v11Z = x_fr b tZ := by unfold x_fr; omega
                have g159 := rn_step (P := leB) (b := b) (p := v11Z) (leB_y (by (first | decide +kernel | omega))) (by (first | decide +kernel | omega))
                have g160 := rn_ge (P := leB) (b := b) (v11Z + 1)
                refine V_goto 181 d_Tape_advance_129 (by decide) ?_
                obtain ⟨z161, z161Z, z161E, z161e⟩ : ∃ (y : Int32) (Y : Int), y.toInt = Y ∧ y = h151.1 89 5 := ⟨_, _, rfl, rfl⟩
                exact V_vret rfl d_Tape_advance_181 ⟨rfl, ⟨hI153, f154, 1, 1, tc_1, (kn_call fh151 (kn_put eh147) rfl), v11, v11Z, v11E, (kn_call fh151 (kn_nei eh147 (kn_nei eh101 K12 (by decide)) (by decide)) rfl), o155, o155Z, o155E, o155K, z161, z161Z, z161E, z161e.symm, (by (first | decide +kernel | omega))⟩⟩
            ·
              have g162 := tok_3 (p := tZ) (show v11Z = x_fr b tZ by unfold x_fr; omega) (by (first | decide +kernel | omega))
              have g163 : v11Z = x_fr b tZ := by unfold x_fr; omega
              refine V_aload_n 0 d_Tape_advance_87 rfl rfl ?_
              refine V_iconst 3 d_Tape_advance_88 (by decide) ?_
              refine N_putI fp_Tape_25 sk_89 rfl d_Tape_advance_89 (fun h164 eh164 => ?_)
              have hI165 : Inv h164 := inv_full hI102 eh164 rfl
              have f166 : fr S_Tape_advanceX h h164 := fr_put f103 eh164 rfl
              refine V_aload_n 0 d_Tape_advance_92 rfl rfl ?_
              refine V_aload_n 0 d_Tape_advance_93 rfl rfl ?_
              refine N_getK fa_Tape_19 sk_89 rfl d_Tape_advance_94 (kn_nei eh164 (kn_nei eh101 K12 (by decide)) (by decide)) ?_
              refine V_iconst 1 d_Tape_advance_97 (by decide) ?_
              refine V_iadd v11E tc_1 (by (first | decide +kernel | omega)) d_Tape_advance_98 (fun z167 z167e z167E => ?_)
              refine N_putI fp_Tape_15 sk_89 rfl d_Tape_advance_99 (fun h168 eh168 => ?_)
              have hI169 : Inv h168 := inv_put (lo := 0) (hi := 160) hI165 eh168 rfl z167E (by (first | decide +kernel | omega))
              have f170 : fr S_Tape_advanceX h h168 := fr_put f166 eh168 rfl
              refine V_goto 181 d_Tape_advance_102 (by decide) ?_
              obtain ⟨z171, z171Z, z171E, z171e⟩ : ∃ (y : Int32) (Y : Int), y.toInt = Y ∧ y = h168.1 89 5 := ⟨_, _, rfl, rfl⟩
              exact V_vret rfl d_Tape_advance_181 ⟨rfl, ⟨hI169, f170, 3, 3, tc_3, (kn_nei eh168 (kn_put eh164) (by decide)), v11, v11Z, v11E, (kn_nei eh168 (kn_nei eh164 (kn_nei eh101 K12 (by decide)) (by decide)) (by decide)), z167, (v11Z + 1), z167E, (kn_put eh168), z171, z171Z, z171E, z171e.symm, (by (first | decide +kernel | omega))⟩⟩
          ·
            have g172 := tok_0 (p := tZ) (show v11Z = x_fr b tZ by unfold x_fr; omega) (by (first | decide +kernel | omega))
            have g173 : v11Z = x_fr b tZ := by unfold x_fr; omega
            refine V_aload_n 0 d_Tape_advance_65 rfl rfl ?_
            refine V_iconst 0 d_Tape_advance_66 (by decide) ?_
            refine N_putI fp_Tape_25 sk_89 rfl d_Tape_advance_67 (fun h174 eh174 => ?_)
            have hI175 : Inv h174 := inv_full hI102 eh174 rfl
            have f176 : fr S_Tape_advanceX h h174 := fr_put f103 eh174 rfl
            refine V_goto 181 d_Tape_advance_70 (by decide) ?_
            obtain ⟨z177, z177Z, z177E, z177e⟩ : ∃ (y : Int32) (Y : Int), y.toInt = Y ∧ y = h174.1 89 5 := ⟨_, _, rfl, rfl⟩
            exact V_vret rfl d_Tape_advance_181 ⟨rfl, ⟨hI175, f176, 0, 0, tc_0, (kn_put eh174), v11, v11Z, v11E, (kn_nei eh174 (kn_nei eh101 K12 (by decide)) (by decide)), v11, v11Z, v11E, (kn_nei eh174 (kn_put eh101) (by decide)), z177, z177Z, z177E, z177e.symm, (by (first | decide +kernel | omega))⟩⟩
        ·
          have g178 := rn_step (P := blB) (b := b) (p := v11Z) (blB_y (by (first | decide +kernel | omega))) (by (first | decide +kernel | omega))
          refine V_aload_n 0 d_Tape_advance_33 rfl rfl ?_
          refine V_dup d_Tape_advance_34 rfl ?_
          refine N_getK fa_Tape_19 sk_89 rfl d_Tape_advance_35 K12 ?_
          refine V_iconst 1 d_Tape_advance_38 (by decide) ?_
          refine V_iadd v11E tc_1 (by (first | decide +kernel | omega)) d_Tape_advance_39 (fun z179 z179e z179E => ?_)
          refine N_putI fp_Tape_19 sk_89 rfl d_Tape_advance_40 (fun h180 eh180 => ?_)
          have hI181 : Inv h180 := inv_put (lo := 0) (hi := 160) Ih8 eh180 rfl z179E (by (first | decide +kernel | omega))
          have f182 : fr S_Tape_advanceX h h180 := fr_put Fh8 eh180 rfl
          refine V_goto 8 d_Tape_advance_43 (by decide) ?_
          exact ihL6 h180 z179 ((v11Z + 1)) hI181 f182 (kn_nei eh180 K9 (by decide)) (kn_nei eh180 K10 (by decide)) z179E (kn_put eh180) (by (first | decide +kernel | omega)) (by (first | decide +kernel | omega)) (by (first | decide +kernel | omega))
  exact L6 (Int.toNat ((160 - tZ : Int) + 1)) h3 t tZ hI4 f5 (kn_nei eh3 sK (by decide)) (kn_nei eh3 tK (by decide)) tE (kn_put eh3) (by (first | decide +kernel | omega)) (by (first | decide +kernel | omega)) (by (first | decide +kernel | omega))
