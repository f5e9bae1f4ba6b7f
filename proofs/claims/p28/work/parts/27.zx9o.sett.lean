section
abbrev q_Mod_failsX (h : Hp) (P : Nat → Prop) (o : Int32) (oZ : Int) (m : Int32) (mZ : Int) (q : Int32) (qZ : Int) (t : Int32) (tZ : Int) : Option Value → Hp → Prop := pInt (fun r h' => h = h' ∧ (twR r (0 < LM h P oZ tZ.toNat - mZ)))
set_option maxRecDepth 100000 in
theorem c_Mod_failsX (h : Hp) (P : Nat → Prop) (hI : Inv h) (o : Int32) (oZ : Int) (oE : o.toInt = oZ) (m : Int32) (mZ : Int) (mE : m.toInt = mZ) (q : Int32) (qZ : Int) (qE : q.toInt = qZ) (qK : h.1 116 30 = q) (t : Int32) (tZ : Int) (tE : t.toInt = tZ) (tK : h.1 117 86 = t) (hy0 : 0 ≤ oZ ∧ oZ ≤ 3) (hy1 : 0 ≤ mZ ∧ mZ ≤ 999) (hy2 : ∀ x : Nat, x < 4 → (P x ↔ (h.1 126 x).toInt ≠ 0 ∧ (h.1 126 x).toInt ≤ qZ)) (hy3 : ∀ i : Nat, i < 8 → (i : Int) < (h.1 117 86).toInt → 0 ≤ (h.1 117 (89 + 3 * i)).toInt ∧ (h.1 117 (89 + 3 * i)).toInt ≤ 99) (hy4 : ∀ i : Nat, i < 4 → 0 ≤ (h.1 117 (80 + i)).toInt ∧ (h.1 117 (80 + i)).toInt ≤ 999) : Ct y_Mod_fails b_Mod_fails 7 (some .boolean) 0 0 [.ref 116, .int o, .int m] h (q_Mod_failsX h P o oZ m mZ q qZ t tZ) := by
  refine ct_ow R_Mod [some (.ref 116), some (.int o), some (.int m), none, none, none, none] rfl (by decide) rfl (Nat.le_of_ble_eq_true rfl) ?_
  have f0 : fr [] h h := fr_rf
  have tB : 0 ≤ tZ ∧ tZ ≤ 8 := inv_at hI tE tK.symm rfl
  obtain ⟨pv, pvZ, pvE, pvK⟩ : ∃ (y : Int32) (Y : Int), y.toInt = Y ∧ h.1 117 ((80 + oZ)).toNat = y := ⟨_, _, rfl, rfl⟩
  have hp9 := hy4 oZ.toNat (by (first | decide +kernel | omega))
  rw [show 80 + oZ.toNat = (80 + oZ).toNat by (first | decide +kernel | omega), pvK, pvE] at hp9
  refine V_aload_n 0 d_Mod_fails_0 rfl rfl ?_
  refine V_getR fa_Mod_7 sk_116 rfl d_Mod_fails_1 ?_
  refine V_bipush 80 d_Mod_fails_4 (by decide) ?_
  refine V_iload_n 1 d_Mod_fails_6 rfl rfl ?_
  refine V_iadd tc_80 oE (by (first | decide +kernel | omega)) d_Mod_fails_7 (fun z1 z1e z1E => ?_)
  refine N_ialdK sk_117 z1E (by (first | decide +kernel | omega)) d_Mod_fails_8 pvK ?_
  refine V_iload_n 2 d_Mod_fails_9 rfl rfl ?_
  refine V_iadd pvE mE (by (first | decide +kernel | omega)) d_Mod_fails_10 (fun z3 z3e z3E => ?_)
  refine V_istore_n 3 [some (.ref 116), some (.int o), some (.int m), some (.int z3), none, none, none] d_Mod_fails_11 rfl (by decide) rfl rfl ?_
  refine V_iconst 0 d_Mod_fails_12 (by decide) ?_
  refine V_istore 4 [some (.ref 116), some (.int o), some (.int m), some (.int z3), some (.int 0), none, none] d_Mod_fails_13 (by decide) rfl rfl ?_
  refine V_iconst 0 d_Mod_fails_15 (by decide) ?_
  refine V_istore 5 [some (.ref 116), some (.int o), some (.int m), some (.int z3), some (.int 0), some (.int 0), none] d_Mod_fails_16 (by decide) rfl rfl ?_
  have L4 : ∀ (nn : Nat) (v6 : Int32) (v6Z : Int) (v7 : Int32) (v7Z : Int) (v8 : Int32) (v8Z : Int), v6.toInt = v6Z → v7.toInt = v7Z → v8.toInt = v8Z → 0 ≤ v8Z ∧ v8Z ≤ tZ → v7Z - v6Z + mZ = LM h P oZ (v8Z).toNat → 0 ≤ v6Z ∧ v6Z ≤ 1998 + 99 * v8Z → 0 ≤ v7Z ∧ v7Z ≤ 99 * v8Z → 8 - v8Z < (nn : Int) → V R_Mod b_Mod_fails 7 (some .boolean) 0 0 (q_Mod_failsX h P o oZ m mZ q qZ t tZ) h 18 [some (.ref 116), some (.int o), some (.int m), some (.int v6), some (.int v7), some (.int v8), none] [] := by
    intro nn
    induction nn with
    | zero => intro v6 v6Z v7 v7Z v8 v8Z v6E v7E v8E q9 q10 q11 q12 hm13; exact absurd hm13 (by (first | decide +kernel | omega))
    | succ nn ihL4 =>
      intro v6 v6Z v7 v7Z v8 v8Z v6E v7E v8E q9 q10 q11 q12 hm13
      refine V_iload d_Mod_fails_18 rfl ?_
      refine V_aload_n 0 d_Mod_fails_20 rfl rfl ?_
      refine V_getR fa_Mod_7 sk_116 rfl d_Mod_fails_21 ?_
      refine V_bipush 86 d_Mod_fails_24 (by decide) ?_
      refine N_ialdK sk_117 tc_86 (by (first | decide +kernel | omega)) d_Mod_fails_26 tK ?_
      refine V_icmp_ge 137 v8E tE d_Mod_fails_27 (by decide) (fun c15 => ?_) (fun c15 => ?_)
      ·
        refine V_iload_n 3 d_Mod_fails_137 rfl rfl ?_
        refine V_iload d_Mod_fails_138 rfl ?_
        refine V_icmp_ge 147 v6E v7E d_Mod_fails_140 (by decide) (fun c16 => ?_) (fun c16 => ?_)
        ·
          refine V_iconst 0 d_Mod_fails_147 (by decide) ?_
          exact V_zret rfl (by decide) d_Mod_fails_148 ⟨0, rfl, ⟨rfl, (by rw [show tZ.toNat = (v8Z).toNat by (first | decide +kernel | omega)]; have q9 : v7Z - v6Z + mZ = LM h P oZ (v8Z).toNat := (by assumption); exact Or.inr ⟨tc_0, by (first | decide +kernel | omega)⟩)⟩⟩
        ·
          refine V_iconst 1 d_Mod_fails_143 (by decide) ?_
          refine V_goto 148 d_Mod_fails_144 (by decide) ?_
          exact V_zret rfl (by decide) d_Mod_fails_148 ⟨1, rfl, ⟨rfl, (by rw [show tZ.toNat = (v8Z).toNat by (first | decide +kernel | omega)]; have q9 : v7Z - v6Z + mZ = LM h P oZ (v8Z).toNat := (by assumption); exact Or.inl ⟨tc_1, by (first | decide +kernel | omega)⟩)⟩⟩
      ·
        have hd9 := hy3 (v8Z).toNat (by (first | decide +kernel | omega)) (by rw [tK, tE]; omega)
        have hL9 : v7Z - v6Z + mZ = LM h P oZ (v8Z).toNat := by assumption
        refine V_bipush 87 d_Mod_fails_30 (by decide) ?_
        refine V_iconst 3 d_Mod_fails_32 (by decide) ?_
        refine V_iload d_Mod_fails_33 rfl ?_
        refine V_imul tc_3 v8E (by (first | decide +kernel | omega)) d_Mod_fails_35 (fun z17 z17e z17E => ?_)
        refine V_iadd tc_87 z17E (by (first | decide +kernel | omega)) d_Mod_fails_36 (fun z18 z18e z18E => ?_)
        refine V_istore 6 [some (.ref 116), some (.int o), some (.int m), some (.int v6), some (.int v7), some (.int v8), some (.int z18)] d_Mod_fails_37 (by decide) rfl rfl ?_
        refine V_iload_n 3 d_Mod_fails_39 rfl rfl ?_
        refine V_aload_n 0 d_Mod_fails_40 rfl rfl ?_
        refine V_getR fa_Mod_7 sk_116 rfl d_Mod_fails_41 ?_
        refine V_iload d_Mod_fails_44 rfl ?_
        refine V_iconst 1 d_Mod_fails_46 (by decide) ?_
        refine V_iadd z18E tc_1 (by (first | decide +kernel | omega)) d_Mod_fails_47 (fun z19 z19e z19E => ?_)
        refine N_iald sk_117 z19E (by (first | decide +kernel | omega)) d_Mod_fails_48 (fun z20 z20Z z20E z20e => ?_)
        have b21 : z20Z = (h.1 117 (88 + 3 * (v8Z).toNat)).toInt := by rw [← z20E, z20e, show (87 + 3 * v8Z + 1).toNat = 88 + 3 * (v8Z).toNat by (first | decide +kernel | omega)]
        refine V_iload_n 1 d_Mod_fails_49 rfl rfl ?_
        refine V_icmp_ne 99 z20E oE d_Mod_fails_50 (by decide) (fun c22 => ?_) (fun c22 => ?_)
        ·
          refine V_iconst 0 d_Mod_fails_99 (by decide) ?_
          refine V_iadd v6E tc_0 (by (first | decide +kernel | omega)) d_Mod_fails_100 (fun z23 z23e z23E => ?_)
          refine V_istore_n 3 [some (.ref 116), some (.int o), some (.int m), some (.int z23), some (.int v7), some (.int v8), some (.int z18)] d_Mod_fails_101 rfl (by decide) rfl rfl ?_
          refine V_iload d_Mod_fails_102 rfl ?_
          refine V_aload_n 0 d_Mod_fails_104 rfl rfl ?_
          refine V_getR fa_Mod_7 sk_116 rfl d_Mod_fails_105 ?_
          refine V_iload d_Mod_fails_108 rfl ?_
          refine N_iald sk_117 z18E (by (first | decide +kernel | omega)) d_Mod_fails_110 (fun z24 z24Z z24E z24e => ?_)
          have c25 : z24Z = (h.1 117 (87 + 3 * (v8Z).toNat)).toInt := by rw [← z24E, z24e, show (87 + 3 * v8Z).toNat = 87 + 3 * (v8Z).toNat by (first | decide +kernel | omega)]
          refine V_iload_n 1 d_Mod_fails_111 rfl rfl ?_
          refine V_icmp_ne 127 z24E oE d_Mod_fails_112 (by decide) (fun c26 => ?_) (fun c26 => ?_)
          ·
            refine V_iconst 0 d_Mod_fails_127 (by decide) ?_
            refine V_iadd v7E tc_0 (by (first | decide +kernel | omega)) d_Mod_fails_128 (fun z27 z27e z27E => ?_)
            refine V_istore 4 [some (.ref 116), some (.int o), some (.int m), some (.int z23), some (.int z27), some (.int v8), some (.int z18)] d_Mod_fails_129 (by decide) rfl rfl ?_
            have hl9 : (v7Z + 0) - (v6Z + 0) + mZ = LM h P oZ (v8Z + 1).toNat := lk9_s (A := (h.1 117 (87 + 3 * (v8Z).toNat)).toInt) (B := (h.1 117 (88 + 3 * (v8Z).toNat)).toInt) (V := (h.1 117 (89 + 3 * (v8Z).toNat)).toInt) (L := v7Z - v6Z + mZ) (X := (v7Z + 0) - v6Z + mZ) (by (first | decide +kernel | omega)) rfl rfl rfl hL9 (Or.inr ⟨by (first | decide +kernel | omega), by (first | decide +kernel | omega)⟩) (Or.inr ⟨fun q => absurd q.1 (by (first | decide +kernel | omega)), by (first | decide +kernel | omega)⟩)
            obtain ⟨z28, z28E, z28e⟩ : ∃ y : Int32, y.toInt = v8Z + 1 ∧ y = v8 + Int32.ofInt 1 := ⟨_, ti_add v8E (by decide) (by (first | decide +kernel | omega)), rfl⟩
            refine V_iinc 5 [some (.ref 116), some (.int o), some (.int m), some (.int z23), some (.int z27), some (.int z28), some (.int z18)] d_Mod_fails_131 rfl z28e.symm (by decide) rfl rfl ?_
            refine V_goto 18 d_Mod_fails_134 (by decide) ?_
            refine V_drop 6 [some (.ref 116), some (.int o), some (.int m), some (.int z23), some (.int z27), some (.int z28), none] rfl ?_
            exact ihL4 z23 ((v6Z + 0)) z27 ((v7Z + 0)) z28 ((v8Z + 1)) z23E z27E z28E (by (first | decide +kernel | omega)) hl9 (by (first | decide +kernel | omega)) (by (first | decide +kernel | omega)) (by (first | decide +kernel | omega))
          ·
            refine V_aload_n 0 d_Mod_fails_115 rfl rfl ?_
            refine V_getR fa_Mod_7 sk_116 rfl d_Mod_fails_116 ?_
            refine V_iload d_Mod_fails_119 rfl ?_
            refine V_iconst 2 d_Mod_fails_121 (by decide) ?_
            refine V_iadd z18E tc_2 (by (first | decide +kernel | omega)) d_Mod_fails_122 (fun z29 z29e z29E => ?_)
            refine N_iald sk_117 z29E (by (first | decide +kernel | omega)) d_Mod_fails_123 (fun z30 z30Z z30E z30e => ?_)
            have w31 : z30Z = (h.1 117 (89 + 3 * (v8Z).toNat)).toInt := by rw [← z30E, z30e, show (87 + 3 * v8Z + 2).toNat = 89 + 3 * (v8Z).toNat by (first | decide +kernel | omega)]
            refine V_goto 128 d_Mod_fails_124 (by decide) ?_
            refine V_iadd v7E z30E (by (first | decide +kernel | omega)) d_Mod_fails_128 (fun z32 z32e z32E => ?_)
            refine V_istore 4 [some (.ref 116), some (.int o), some (.int m), some (.int z23), some (.int z32), some (.int v8), some (.int z18)] d_Mod_fails_129 (by decide) rfl rfl ?_
            have hl9 : (v7Z + z30Z) - (v6Z + 0) + mZ = LM h P oZ (v8Z + 1).toNat := lk9_s (A := (h.1 117 (87 + 3 * (v8Z).toNat)).toInt) (B := (h.1 117 (88 + 3 * (v8Z).toNat)).toInt) (V := (h.1 117 (89 + 3 * (v8Z).toNat)).toInt) (L := v7Z - v6Z + mZ) (X := (v7Z + z30Z) - v6Z + mZ) (by (first | decide +kernel | omega)) rfl rfl rfl hL9 (Or.inl ⟨by (first | decide +kernel | omega), by (first | decide +kernel | omega)⟩) (Or.inr ⟨fun q => absurd q.1 (by (first | decide +kernel | omega)), by (first | decide +kernel | omega)⟩)
            obtain ⟨z33, z33E, z33e⟩ : ∃ y : Int32, y.toInt = v8Z + 1 ∧ y = v8 + Int32.ofInt 1 := ⟨_, ti_add v8E (by decide) (by (first | decide +kernel | omega)), rfl⟩
            refine V_iinc 5 [some (.ref 116), some (.int o), some (.int m), some (.int z23), some (.int z32), some (.int z33), some (.int z18)] d_Mod_fails_131 rfl z33e.symm (by decide) rfl rfl ?_
            refine V_goto 18 d_Mod_fails_134 (by decide) ?_
            refine V_drop 6 [some (.ref 116), some (.int o), some (.int m), some (.int z23), some (.int z32), some (.int z33), none] rfl ?_
            exact ihL4 z23 ((v6Z + 0)) z32 ((v7Z + z30Z)) z33 ((v8Z + 1)) z23E z32E z33E (by (first | decide +kernel | omega)) hl9 (by (first | decide +kernel | omega)) (by (first | decide +kernel | omega)) (by (first | decide +kernel | omega))
        ·
          refine V_aload_n 0 d_Mod_fails_53 rfl rfl ?_
          refine V_getR fa_Mod_38 sk_116 rfl d_Mod_fails_54 ?_
          refine V_aload_n 0 d_Mod_fails_57 rfl rfl ?_
          refine V_getR fa_Mod_7 sk_116 rfl d_Mod_fails_58 ?_
          refine V_iload d_Mod_fails_61 rfl ?_
          refine N_iald sk_117 z18E (by (first | decide +kernel | omega)) d_Mod_fails_63 (fun z34 z34Z z34E z34e => ?_)
          have g35 : 0 ≤ z34Z ∧ z34Z ≤ 3 := inv_at hI z34E z34e (st_a (by (first | decide +kernel | omega)))
          have a36 : z34Z = (h.1 117 (87 + 3 * (v8Z).toNat)).toInt := by rw [← z34E, z34e, show (87 + 3 * v8Z).toNat = 87 + 3 * (v8Z).toNat by (first | decide +kernel | omega)]
          refine N_iald sk_126 z34E (by (first | decide +kernel | omega)) d_Mod_fails_64 (fun z37 z37Z z37E z37e => ?_)
          have hf9 := hy2 (z34Z).toNat (by (first | decide +kernel | omega))
          rw [← z37e, z37E, a36] at hf9
          refine V_if_eq 87 z37E d_Mod_fails_65 (by decide) (fun c38 => ?_) (fun c38 => ?_)
          ·
            refine V_aload_n 0 d_Mod_fails_87 rfl rfl ?_
            refine V_getR fa_Mod_7 sk_116 rfl d_Mod_fails_88 ?_
            refine V_iload d_Mod_fails_91 rfl ?_
            refine V_iconst 2 d_Mod_fails_93 (by decide) ?_
            refine V_iadd z18E tc_2 (by (first | decide +kernel | omega)) d_Mod_fails_94 (fun z39 z39e z39E => ?_)
            refine N_iald sk_117 z39E (by (first | decide +kernel | omega)) d_Mod_fails_95 (fun z40 z40Z z40E z40e => ?_)
            have v41 : z40Z = (h.1 117 (89 + 3 * (v8Z).toNat)).toInt := by rw [← z40E, z40e, show (87 + 3 * v8Z + 2).toNat = 89 + 3 * (v8Z).toNat by (first | decide +kernel | omega)]
            refine V_goto 100 d_Mod_fails_96 (by decide) ?_
            refine V_iadd v6E z40E (by (first | decide +kernel | omega)) d_Mod_fails_100 (fun z42 z42e z42E => ?_)
            refine V_istore_n 3 [some (.ref 116), some (.int o), some (.int m), some (.int z42), some (.int v7), some (.int v8), some (.int z18)] d_Mod_fails_101 rfl (by decide) rfl rfl ?_
            refine V_iload d_Mod_fails_102 rfl ?_
            refine V_aload_n 0 d_Mod_fails_104 rfl rfl ?_
            refine V_getR fa_Mod_7 sk_116 rfl d_Mod_fails_105 ?_
            refine V_iload d_Mod_fails_108 rfl ?_
            refine N_iald sk_117 z18E (by (first | decide +kernel | omega)) d_Mod_fails_110 (fun z43 z43Z z43E z43e => ?_)
            have c44 : z43Z = (h.1 117 (87 + 3 * (v8Z).toNat)).toInt := by rw [← z43E, z43e, show (87 + 3 * v8Z).toNat = 87 + 3 * (v8Z).toNat by (first | decide +kernel | omega)]
            refine V_iload_n 1 d_Mod_fails_111 rfl rfl ?_
            refine V_icmp_ne 127 z43E oE d_Mod_fails_112 (by decide) (fun c45 => ?_) (fun c45 => ?_)
            ·
              refine V_iconst 0 d_Mod_fails_127 (by decide) ?_
              refine V_iadd v7E tc_0 (by (first | decide +kernel | omega)) d_Mod_fails_128 (fun z46 z46e z46E => ?_)
              refine V_istore 4 [some (.ref 116), some (.int o), some (.int m), some (.int z42), some (.int z46), some (.int v8), some (.int z18)] d_Mod_fails_129 (by decide) rfl rfl ?_
              have hl9 : (v7Z + 0) - (v6Z + z40Z) + mZ = LM h P oZ (v8Z + 1).toNat := lk9_s (A := (h.1 117 (87 + 3 * (v8Z).toNat)).toInt) (B := (h.1 117 (88 + 3 * (v8Z).toNat)).toInt) (V := (h.1 117 (89 + 3 * (v8Z).toNat)).toInt) (L := v7Z - v6Z + mZ) (X := (v7Z + 0) - v6Z + mZ) (by (first | decide +kernel | omega)) rfl rfl rfl hL9 (Or.inr ⟨by (first | decide +kernel | omega), by (first | decide +kernel | omega)⟩) (Or.inl ⟨⟨by (first | decide +kernel | omega), fun q => by have := hf9.mp q; omega⟩, by (first | decide +kernel | omega)⟩)
              obtain ⟨z47, z47E, z47e⟩ : ∃ y : Int32, y.toInt = v8Z + 1 ∧ y = v8 + Int32.ofInt 1 := ⟨_, ti_add v8E (by decide) (by (first | decide +kernel | omega)), rfl⟩
              refine V_iinc 5 [some (.ref 116), some (.int o), some (.int m), some (.int z42), some (.int z46), some (.int z47), some (.int z18)] d_Mod_fails_131 rfl z47e.symm (by decide) rfl rfl ?_
              refine V_goto 18 d_Mod_fails_134 (by decide) ?_
              refine V_drop 6 [some (.ref 116), some (.int o), some (.int m), some (.int z42), some (.int z46), some (.int z47), none] rfl ?_
              exact ihL4 z42 ((v6Z + z40Z)) z46 ((v7Z + 0)) z47 ((v8Z + 1)) z42E z46E z47E (by (first | decide +kernel | omega)) hl9 (by (first | decide +kernel | omega)) (by (first | decide +kernel | omega)) (by (first | decide +kernel | omega))
            ·
              refine V_aload_n 0 d_Mod_fails_115 rfl rfl ?_
              refine V_getR fa_Mod_7 sk_116 rfl d_Mod_fails_116 ?_
              refine V_iload d_Mod_fails_119 rfl ?_
              refine V_iconst 2 d_Mod_fails_121 (by decide) ?_
              refine V_iadd z18E tc_2 (by (first | decide +kernel | omega)) d_Mod_fails_122 (fun z48 z48e z48E => ?_)
              refine N_iald sk_117 z48E (by (first | decide +kernel | omega)) d_Mod_fails_123 (fun z49 z49Z z49E z49e => ?_)
              have w50 : z49Z = (h.1 117 (89 + 3 * (v8Z).toNat)).toInt := by rw [← z49E, z49e, show (87 + 3 * v8Z + 2).toNat = 89 + 3 * (v8Z).toNat by (first | decide +kernel | omega)]
              refine V_goto 128 d_Mod_fails_124 (by decide) ?_
              refine V_iadd v7E z49E (by (first | decide +kernel | omega)) d_Mod_fails_128 (fun z51 z51e z51E => ?_)
              refine V_istore 4 [some (.ref 116), some (.int o), some (.int m), some (.int z42), some (.int z51), some (.int v8), some (.int z18)] d_Mod_fails_129 (by decide) rfl rfl ?_
              have hl9 : (v7Z + z49Z) - (v6Z + z40Z) + mZ = LM h P oZ (v8Z + 1).toNat := lk9_s (A := (h.1 117 (87 + 3 * (v8Z).toNat)).toInt) (B := (h.1 117 (88 + 3 * (v8Z).toNat)).toInt) (V := (h.1 117 (89 + 3 * (v8Z).toNat)).toInt) (L := v7Z - v6Z + mZ) (X := (v7Z + z49Z) - v6Z + mZ) (by (first | decide +kernel | omega)) rfl rfl rfl hL9 (Or.inl ⟨by (first | decide +kernel | omega), by (first | decide +kernel | omega)⟩) (Or.inl ⟨⟨by (first | decide +kernel | omega), fun q => by have := hf9.mp q; omega⟩, by (first | decide +kernel | omega)⟩)
              obtain ⟨z52, z52E, z52e⟩ : ∃ y : Int32, y.toInt = v8Z + 1 ∧ y = v8 + Int32.ofInt 1 := ⟨_, ti_add v8E (by decide) (by (first | decide +kernel | omega)), rfl⟩
              refine V_iinc 5 [some (.ref 116), some (.int o), some (.int m), some (.int z42), some (.int z51), some (.int z52), some (.int z18)] d_Mod_fails_131 rfl z52e.symm (by decide) rfl rfl ?_
              refine V_goto 18 d_Mod_fails_134 (by decide) ?_
              refine V_drop 6 [some (.ref 116), some (.int o), some (.int m), some (.int z42), some (.int z51), some (.int z52), none] rfl ?_
              exact ihL4 z42 ((v6Z + z40Z)) z51 ((v7Z + z49Z)) z52 ((v8Z + 1)) z42E z51E z52E (by (first | decide +kernel | omega)) hl9 (by (first | decide +kernel | omega)) (by (first | decide +kernel | omega)) (by (first | decide +kernel | omega))
          ·
            refine V_aload_n 0 d_Mod_fails_68 rfl rfl ?_
            refine V_getR fa_Mod_38 sk_116 rfl d_Mod_fails_69 ?_
            refine V_aload_n 0 d_Mod_fails_72 rfl rfl ?_
            refine V_getR fa_Mod_7 sk_116 rfl d_Mod_fails_73 ?_
            refine V_iload d_Mod_fails_76 rfl ?_
            refine N_iald sk_117 z18E (by (first | decide +kernel | omega)) d_Mod_fails_78 (fun z53 z53Z z53E z53e => ?_)
            have g54 : 0 ≤ z53Z ∧ z53Z ≤ 3 := inv_at hI z53E z53e (st_a (by (first | decide +kernel | omega)))
            have a55 : z53Z = (h.1 117 (87 + 3 * (v8Z).toNat)).toInt := by rw [← z53E, z53e, show (87 + 3 * v8Z).toNat = 87 + 3 * (v8Z).toNat by (first | decide +kernel | omega)]
            refine N_iald sk_126 z53E (by (first | decide +kernel | omega)) d_Mod_fails_79 (fun z56 z56Z z56E z56e => ?_)
            have g57 : z56Z = z37Z := by rw [← z56E, ← z37E, z56e, z37e, show z53Z = z34Z from by rw [a55, a36]]
            refine V_aload_n 0 d_Mod_fails_80 rfl rfl ?_
            refine N_getK fa_Mod_305 sk_116 rfl d_Mod_fails_81 qK ?_
            refine V_icmp_le 99 z56E qE d_Mod_fails_84 (by decide) (fun c58 => ?_) (fun c58 => ?_)
            ·
              refine V_iconst 0 d_Mod_fails_99 (by decide) ?_
              refine V_iadd v6E tc_0 (by (first | decide +kernel | omega)) d_Mod_fails_100 (fun z59 z59e z59E => ?_)
              refine V_istore_n 3 [some (.ref 116), some (.int o), some (.int m), some (.int z59), some (.int v7), some (.int v8), some (.int z18)] d_Mod_fails_101 rfl (by decide) rfl rfl ?_
              refine V_iload d_Mod_fails_102 rfl ?_
              refine V_aload_n 0 d_Mod_fails_104 rfl rfl ?_
              refine V_getR fa_Mod_7 sk_116 rfl d_Mod_fails_105 ?_
              refine V_iload d_Mod_fails_108 rfl ?_
              refine N_iald sk_117 z18E (by (first | decide +kernel | omega)) d_Mod_fails_110 (fun z60 z60Z z60E z60e => ?_)
              have c61 : z60Z = (h.1 117 (87 + 3 * (v8Z).toNat)).toInt := by rw [← z60E, z60e, show (87 + 3 * v8Z).toNat = 87 + 3 * (v8Z).toNat by (first | decide +kernel | omega)]
              refine V_iload_n 1 d_Mod_fails_111 rfl rfl ?_
              refine V_icmp_ne 127 z60E oE d_Mod_fails_112 (by decide) (fun c62 => ?_) (fun c62 => ?_)
              ·
                refine V_iconst 0 d_Mod_fails_127 (by decide) ?_
                refine V_iadd v7E tc_0 (by (first | decide +kernel | omega)) d_Mod_fails_128 (fun z63 z63e z63E => ?_)
                refine V_istore 4 [some (.ref 116), some (.int o), some (.int m), some (.int z59), some (.int z63), some (.int v8), some (.int z18)] d_Mod_fails_129 (by decide) rfl rfl ?_
                have hl9 : (v7Z + 0) - (v6Z + 0) + mZ = LM h P oZ (v8Z + 1).toNat := lk9_s (A := (h.1 117 (87 + 3 * (v8Z).toNat)).toInt) (B := (h.1 117 (88 + 3 * (v8Z).toNat)).toInt) (V := (h.1 117 (89 + 3 * (v8Z).toNat)).toInt) (L := v7Z - v6Z + mZ) (X := (v7Z + 0) - v6Z + mZ) (by (first | decide +kernel | omega)) rfl rfl rfl hL9 (Or.inr ⟨by (first | decide +kernel | omega), by (first | decide +kernel | omega)⟩) (Or.inr ⟨fun q => q.2 (hf9.mpr ⟨by (first | decide +kernel | omega), by (first | decide +kernel | omega)⟩), by (first | decide +kernel | omega)⟩)
                obtain ⟨z64, z64E, z64e⟩ : ∃ y : Int32, y.toInt = v8Z + 1 ∧ y = v8 + Int32.ofInt 1 := ⟨_, ti_add v8E (by decide) (by (first | decide +kernel | omega)), rfl⟩
                refine V_iinc 5 [some (.ref 116), some (.int o), some (.int m), some (.int z59), some (.int z63), some (.int z64), some (.int z18)] d_Mod_fails_131 rfl z64e.symm (by decide) rfl rfl ?_
                refine V_goto 18 d_Mod_fails_134 (by decide) ?_
                refine V_drop 6 [some (.ref 116), some (.int o), some (.int m), some (.int z59), some (.int z63), some (.int z64), none] rfl ?_
                exact ihL4 z59 ((v6Z + 0)) z63 ((v7Z + 0)) z64 ((v8Z + 1)) z59E z63E z64E (by (first | decide +kernel | omega)) hl9 (by (first | decide +kernel | omega)) (by (first | decide +kernel | omega)) (by (first | decide +kernel | omega))
              ·
                refine V_aload_n 0 d_Mod_fails_115 rfl rfl ?_
                refine V_getR fa_Mod_7 sk_116 rfl d_Mod_fails_116 ?_
                refine V_iload d_Mod_fails_119 rfl ?_
                refine V_iconst 2 d_Mod_fails_121 (by decide) ?_
                refine V_iadd z18E tc_2 (by (first | decide +kernel | omega)) d_Mod_fails_122 (fun z65 z65e z65E => ?_)
                refine N_iald sk_117 z65E (by (first | decide +kernel | omega)) d_Mod_fails_123 (fun z66 z66Z z66E z66e => ?_)
                have w67 : z66Z = (h.1 117 (89 + 3 * (v8Z).toNat)).toInt := by rw [← z66E, z66e, show (87 + 3 * v8Z + 2).toNat = 89 + 3 * (v8Z).toNat by (first | decide +kernel | omega)]
                refine V_goto 128 d_Mod_fails_124 (by decide) ?_
                refine V_iadd v7E z66E (by (first | decide +kernel | omega)) d_Mod_fails_128 (fun z68 z68e z68E => ?_)
                refine V_istore 4 [some (.ref 116), some (.int o), some (.int m), some (.int z59), some (.int z68), some (.int v8), some (.int z18)] d_Mod_fails_129 (by decide) rfl rfl ?_
                have hl9 : (v7Z + z66Z) - (v6Z + 0) + mZ = LM h P oZ (v8Z + 1).toNat := lk9_s (A := (h.1 117 (87 + 3 * (v8Z).toNat)).toInt) (B := (h.1 117 (88 + 3 * (v8Z).toNat)).toInt) (V := (h.1 117 (89 + 3 * (v8Z).toNat)).toInt) (L := v7Z - v6Z + mZ) (X := (v7Z + z66Z) - v6Z + mZ) (by (first | decide +kernel | omega)) rfl rfl rfl hL9 (Or.inl ⟨by (first | decide +kernel | omega), by (first | decide +kernel | omega)⟩) (Or.inr ⟨fun q => q.2 (hf9.mpr ⟨by (first | decide +kernel | omega), by (first | decide +kernel | omega)⟩), by (first | decide +kernel | omega)⟩)
                obtain ⟨z69, z69E, z69e⟩ : ∃ y : Int32, y.toInt = v8Z + 1 ∧ y = v8 + Int32.ofInt 1 := ⟨_, ti_add v8E (by decide) (by (first | decide +kernel | omega)), rfl⟩
                refine V_iinc 5 [some (.ref 116), some (.int o), some (.int m), some (.int z59), some (.int z68), some (.int z69), some (.int z18)] d_Mod_fails_131 rfl z69e.symm (by decide) rfl rfl ?_
                refine V_goto 18 d_Mod_fails_134 (by decide) ?_
                refine V_drop 6 [some (.ref 116), some (.int o), some (.int m), some (.int z59), some (.int z68), some (.int z69), none] rfl ?_
                exact ihL4 z59 ((v6Z + 0)) z68 ((v7Z + z66Z)) z69 ((v8Z + 1)) z59E z68E z69E (by (first | decide +kernel | omega)) hl9 (by (first | decide +kernel | omega)) (by (first | decide +kernel | omega)) (by (first | decide +kernel | omega))
            ·
              refine V_aload_n 0 d_Mod_fails_87 rfl rfl ?_
              refine V_getR fa_Mod_7 sk_116 rfl d_Mod_fails_88 ?_
              refine V_iload d_Mod_fails_91 rfl ?_
              refine V_iconst 2 d_Mod_fails_93 (by decide) ?_
              refine V_iadd z18E tc_2 (by (first | decide +kernel | omega)) d_Mod_fails_94 (fun z70 z70e z70E => ?_)
              refine N_iald sk_117 z70E (by (first | decide +kernel | omega)) d_Mod_fails_95 (fun z71 z71Z z71E z71e => ?_)
              have v72 : z71Z = (h.1 117 (89 + 3 * (v8Z).toNat)).toInt := by rw [← z71E, z71e, show (87 + 3 * v8Z + 2).toNat = 89 + 3 * (v8Z).toNat by (first | decide +kernel | omega)]
              refine V_goto 100 d_Mod_fails_96 (by decide) ?_
              refine V_iadd v6E z71E (by (first | decide +kernel | omega)) d_Mod_fails_100 (fun z73 z73e z73E => ?_)
              refine V_istore_n 3 [some (.ref 116), some (.int o), some (.int m), some (.int z73), some (.int v7), some (.int v8), some (.int z18)] d_Mod_fails_101 rfl (by decide) rfl rfl ?_
              refine V_iload d_Mod_fails_102 rfl ?_
              refine V_aload_n 0 d_Mod_fails_104 rfl rfl ?_
              refine V_getR fa_Mod_7 sk_116 rfl d_Mod_fails_105 ?_
              refine V_iload d_Mod_fails_108 rfl ?_
              refine N_iald sk_117 z18E (by (first | decide +kernel | omega)) d_Mod_fails_110 (fun z74 z74Z z74E z74e => ?_)
              have c75 : z74Z = (h.1 117 (87 + 3 * (v8Z).toNat)).toInt := by rw [← z74E, z74e, show (87 + 3 * v8Z).toNat = 87 + 3 * (v8Z).toNat by (first | decide +kernel | omega)]
              refine V_iload_n 1 d_Mod_fails_111 rfl rfl ?_
              refine V_icmp_ne 127 z74E oE d_Mod_fails_112 (by decide) (fun c76 => ?_) (fun c76 => ?_)
              ·
                refine V_iconst 0 d_Mod_fails_127 (by decide) ?_
                refine V_iadd v7E tc_0 (by (first | decide +kernel | omega)) d_Mod_fails_128 (fun z77 z77e z77E => ?_)
                refine V_istore 4 [some (.ref 116), some (.int o), some (.int m), some (.int z73), some (.int z77), some (.int v8), some (.int z18)] d_Mod_fails_129 (by decide) rfl rfl ?_
                have hl9 : (v7Z + 0) - (v6Z + z71Z) + mZ = LM h P oZ (v8Z + 1).toNat := lk9_s (A := (h.1 117 (87 + 3 * (v8Z).toNat)).toInt) (B := (h.1 117 (88 + 3 * (v8Z).toNat)).toInt) (V := (h.1 117 (89 + 3 * (v8Z).toNat)).toInt) (L := v7Z - v6Z + mZ) (X := (v7Z + 0) - v6Z + mZ) (by (first | decide +kernel | omega)) rfl rfl rfl hL9 (Or.inr ⟨by (first | decide +kernel | omega), by (first | decide +kernel | omega)⟩) (Or.inl ⟨⟨by (first | decide +kernel | omega), fun q => by have := hf9.mp q; omega⟩, by (first | decide +kernel | omega)⟩)
                obtain ⟨z78, z78E, z78e⟩ : ∃ y : Int32, y.toInt = v8Z + 1 ∧ y = v8 + Int32.ofInt 1 := ⟨_, ti_add v8E (by decide) (by (first | decide +kernel | omega)), rfl⟩
                refine V_iinc 5 [some (.ref 116), some (.int o), some (.int m), some (.int z73), some (.int z77), some (.int z78), some (.int z18)] d_Mod_fails_131 rfl z78e.symm (by decide) rfl rfl ?_
                refine V_goto 18 d_Mod_fails_134 (by decide) ?_
                refine V_drop 6 [some (.ref 116), some (.int o), some (.int m), some (.int z73), some (.int z77), some (.int z78), none] rfl ?_
                exact ihL4 z73 ((v6Z + z71Z)) z77 ((v7Z + 0)) z78 ((v8Z + 1)) z73E z77E z78E (by (first | decide +kernel | omega)) hl9 (by (first | decide +kernel | omega)) (by (first | decide +kernel | omega)) (by (first | decide +kernel | omega))
              ·
                refine V_aload_n 0 d_Mod_fails_115 rfl rfl ?_
                refine V_getR fa_Mod_7 sk_116 rfl d_Mod_fails_116 ?_
                refine V_iload d_Mod_fails_119 rfl ?_
                refine V_iconst 2 d_Mod_fails_121 (by decide) ?_
                refine V_iadd z18E tc_2 (by (first | decide +kernel | omega)) d_Mod_fails_122 (fun z79 z79e z79E => ?_)
                refine N_iald sk_117 z79E (by (first | decide +kernel | omega)) d_Mod_fails_123 (fun z80 z80Z z80E z80e => ?_)
                have w81 : z80Z = (h.1 117 (89 + 3 * (v8Z).toNat)).toInt := by rw [← z80E, z80e, show (87 + 3 * v8Z + 2).toNat = 89 + 3 * (v8Z).toNat by (first | decide +kernel | omega)]
                refine V_goto 128 d_Mod_fails_124 (by decide) ?_
                refine V_iadd v7E z80E (by (first | decide +kernel | omega)) d_Mod_fails_128 (fun z82 z82e z82E => ?_)
                refine V_istore 4 [some (.ref 116), some (.int o), some (.int m), some (.int z73), some (.int z82), some (.int v8), some (.int z18)] d_Mod_fails_129 (by decide) rfl rfl ?_
                have hl9 : (v7Z + z80Z) - (v6Z + z71Z) + mZ = LM h P oZ (v8Z + 1).toNat := lk9_s (A := (h.1 117 (87 + 3 * (v8Z).toNat)).toInt) (B := (h.1 117 (88 + 3 * (v8Z).toNat)).toInt) (V := (h.1 117 (89 + 3 * (v8Z).toNat)).toInt) (L := v7Z - v6Z + mZ) (X := (v7Z + z80Z) - v6Z + mZ) (by (first | decide +kernel | omega)) rfl rfl rfl hL9 (Or.inl ⟨by (first | decide +kernel | omega), by (first | decide +kernel | omega)⟩) (Or.inl ⟨⟨by (first | decide +kernel | omega), fun q => by have := hf9.mp q; omega⟩, by (first | decide +kernel | omega)⟩)
                obtain ⟨z83, z83E, z83e⟩ : ∃ y : Int32, y.toInt = v8Z + 1 ∧ y = v8 + Int32.ofInt 1 := ⟨_, ti_add v8E (by decide) (by (first | decide +kernel | omega)), rfl⟩
                refine V_iinc 5 [some (.ref 116), some (.int o), some (.int m), some (.int z73), some (.int z82), some (.int z83), some (.int z18)] d_Mod_fails_131 rfl z83e.symm (by decide) rfl rfl ?_
                refine V_goto 18 d_Mod_fails_134 (by decide) ?_
                refine V_drop 6 [some (.ref 116), some (.int o), some (.int m), some (.int z73), some (.int z82), some (.int z83), none] rfl ?_
                exact ihL4 z73 ((v6Z + z71Z)) z82 ((v7Z + z80Z)) z83 ((v8Z + 1)) z73E z82E z83E (by (first | decide +kernel | omega)) hl9 (by (first | decide +kernel | omega)) (by (first | decide +kernel | omega)) (by (first | decide +kernel | omega))
  exact L4 (Int.toNat ((8 - 0 : Int) + 1)) z3 ((pvZ + mZ)) 0 0 0 0 z3E tc_0 tc_0 (by (first | decide +kernel | omega)) (show _ = -(h.1 117 (80 + oZ).toNat).toInt from by rw [pvK, pvE]; omega) (by (first | decide +kernel | omega)) (by (first | decide +kernel | omega)) (by (first | decide +kernel | omega))
def S_Mod_findCrashX : List (Nat × Option Nat) := [(126, none), (116, some 30)]
abbrev q_Mod_findCrashX (h : Hp) (v : Int32) (vZ : Int) (m : Int32) (mZ : Int) (t : Int32) (tZ : Int) : Option Value → Hp → Prop := pInt (fun r h' => Inv h' ∧ fr S_Mod_findCrashX h h' ∧ (FC (FLV h vZ mZ tZ.toNat) h' r))
set_option maxRecDepth 100000 in
theorem c_Mod_findCrashX (h : Hp) (hI : Inv h) (v : Int32) (vZ : Int) (vE : v.toInt = vZ) (m : Int32) (mZ : Int) (mE : m.toInt = mZ) (t : Int32) (tZ : Int) (tE : t.toInt = tZ) (tK : h.1 117 86 = t) (hy0 : 0 ≤ mZ ∧ mZ ≤ 999) (hy1 : ∀ i : Nat, i < 8 → (i : Int) < (h.1 117 86).toInt → 0 ≤ (h.1 117 (89 + 3 * i)).toInt ∧ (h.1 117 (89 + 3 * i)).toInt ≤ 99) (hy2 : ∀ i : Nat, i < 4 → 0 ≤ (h.1 117 (80 + i)).toInt ∧ (h.1 117 (80 + i)).toInt ≤ 999) : Ct y_Mod_findCrash b_Mod_findCrash 6 (some .int) 1 26 [.ref 116, .int v, .int m] h (q_Mod_findCrashX h v vZ m mZ t tZ) := by
  refine ct_ow R_Mod [some (.ref 116), some (.int v), some (.int m), none, none, none] rfl (by decide) rfl (Nat.le_of_ble_eq_true rfl) ?_
  have f0 : fr S_Mod_findCrashX h h := fr_rf
  refine V_iconst 0 d_Mod_findCrash_0 (by decide) ?_
  refine V_istore_n 3 [some (.ref 116), some (.int v), some (.int m), some (.int 0), none, none] d_Mod_findCrash_1 rfl (by decide) rfl rfl ?_
  refine V_iconst 1 d_Mod_findCrash_2 (by decide) ?_
  refine V_istore 4 [some (.ref 116), some (.int v), some (.int m), some (.int 0), some (.int 1), none] d_Mod_findCrash_3 (by decide) rfl rfl ?_
  refine V_aload_n 0 d_Mod_findCrash_5 rfl rfl ?_
  refine V_iconst 0 d_Mod_findCrash_6 (by decide) ?_
  refine N_putI fp_Mod_305 sk_116 rfl d_Mod_findCrash_7 (fun h1 eh1 => ?_)
  have hI2 : Inv h1 := inv_full hI eh1 rfl
  have f3 : fr S_Mod_findCrashX h h1 := fr_put f0 eh1 rfl
  refine V_iconst 0 d_Mod_findCrash_10 (by decide) ?_
  refine V_istore 5 [some (.ref 116), some (.int v), some (.int m), some (.int 0), some (.int 1), some (.int 0)] d_Mod_findCrash_11 (by decide) rfl rfl ?_
  refine V_iload d_Mod_findCrash_13 rfl ?_
  refine V_iconst 4 d_Mod_findCrash_15 (by decide) ?_
  refine V_icmp_ge 33 tc_0 tc_4 d_Mod_findCrash_16 (by decide) (fun c4 => ?_) (fun c4 => ?_)
  ·
    exact absurd c4 (by decide)
  ·
    refine V_aload_n 0 d_Mod_findCrash_19 rfl rfl ?_
    refine V_getR fa_Mod_38 sk_116 rfl d_Mod_findCrash_20 ?_
    refine V_iload d_Mod_findCrash_23 rfl ?_
    refine V_iconst 0 d_Mod_findCrash_25 (by decide) ?_
    refine N_iast sk_126 tc_0 (by (first | decide +kernel | omega)) d_Mod_findCrash_26 (fun h5 eh5 => ?_)
    have hI6 : Inv h5 := inv_full hI2 eh5 rfl
    have f7 : fr S_Mod_findCrashX h h5 := fr_put f3 eh5 rfl
    refine V_iinc (v := 1) 5 [some (.ref 116), some (.int v), some (.int m), some (.int 0), some (.int 1), some (.int 1)] d_Mod_findCrash_27 rfl (by decide) (by decide) rfl rfl ?_
    refine V_goto 13 d_Mod_findCrash_30 (by decide) ?_
    refine V_iload d_Mod_findCrash_13 rfl ?_
    refine V_iconst 4 d_Mod_findCrash_15 (by decide) ?_
    refine V_icmp_ge 33 tc_1 tc_4 d_Mod_findCrash_16 (by decide) (fun c9 => ?_) (fun c9 => ?_)
    ·
      exact absurd c9 (by decide)
    ·
      refine V_aload_n 0 d_Mod_findCrash_19 rfl rfl ?_
      refine V_getR fa_Mod_38 sk_116 rfl d_Mod_findCrash_20 ?_
      refine V_iload d_Mod_findCrash_23 rfl ?_
      refine V_iconst 0 d_Mod_findCrash_25 (by decide) ?_
      refine N_iast sk_126 tc_1 (by (first | decide +kernel | omega)) d_Mod_findCrash_26 (fun h10 eh10 => ?_)
      have hI11 : Inv h10 := inv_full hI6 eh10 rfl
      have f12 : fr S_Mod_findCrashX h h10 := fr_put f7 eh10 rfl
      refine V_iinc (v := 2) 5 [some (.ref 116), some (.int v), some (.int m), some (.int 0), some (.int 1), some (.int 2)] d_Mod_findCrash_27 rfl (by decide) (by decide) rfl rfl ?_
      refine V_goto 13 d_Mod_findCrash_30 (by decide) ?_
      refine V_iload d_Mod_findCrash_13 rfl ?_
      refine V_iconst 4 d_Mod_findCrash_15 (by decide) ?_
      refine V_icmp_ge 33 tc_2 tc_4 d_Mod_findCrash_16 (by decide) (fun c14 => ?_) (fun c14 => ?_)
      ·
        exact absurd c14 (by decide)
      ·
        refine V_aload_n 0 d_Mod_findCrash_19 rfl rfl ?_
        refine V_getR fa_Mod_38 sk_116 rfl d_Mod_findCrash_20 ?_
        refine V_iload d_Mod_findCrash_23 rfl ?_
        refine V_iconst 0 d_Mod_findCrash_25 (by decide) ?_
        refine N_iast sk_126 tc_2 (by (first | decide +kernel | omega)) d_Mod_findCrash_26 (fun h15 eh15 => ?_)
        have hI16 : Inv h15 := inv_full hI11 eh15 rfl
        have f17 : fr S_Mod_findCrashX h h15 := fr_put f12 eh15 rfl
        refine V_iinc (v := 3) 5 [some (.ref 116), some (.int v), some (.int m), some (.int 0), some (.int 1), some (.int 3)] d_Mod_findCrash_27 rfl (by decide) (by decide) rfl rfl ?_
        refine V_goto 13 d_Mod_findCrash_30 (by decide) ?_
        refine V_iload d_Mod_findCrash_13 rfl ?_
        refine V_iconst 4 d_Mod_findCrash_15 (by decide) ?_
        refine V_icmp_ge 33 tc_3 tc_4 d_Mod_findCrash_16 (by decide) (fun c19 => ?_) (fun c19 => ?_)
        ·
          exact absurd c19 (by decide)
        ·
          refine V_aload_n 0 d_Mod_findCrash_19 rfl rfl ?_
          refine V_getR fa_Mod_38 sk_116 rfl d_Mod_findCrash_20 ?_
          refine V_iload d_Mod_findCrash_23 rfl ?_
          refine V_iconst 0 d_Mod_findCrash_25 (by decide) ?_
          refine N_iast sk_126 tc_3 (by (first | decide +kernel | omega)) d_Mod_findCrash_26 (fun h20 eh20 => ?_)
          have hI21 : Inv h20 := inv_full hI16 eh20 rfl
          have f22 : fr S_Mod_findCrashX h h20 := fr_put f17 eh20 rfl
          refine V_iinc (v := 4) 5 [some (.ref 116), some (.int v), some (.int m), some (.int 0), some (.int 1), some (.int 4)] d_Mod_findCrash_27 rfl (by decide) (by decide) rfl rfl ?_
          refine V_goto 13 d_Mod_findCrash_30 (by decide) ?_
          refine V_iload d_Mod_findCrash_13 rfl ?_
          refine V_iconst 4 d_Mod_findCrash_15 (by decide) ?_
          refine V_icmp_ge 33 tc_4 tc_4 d_Mod_findCrash_16 (by decide) (fun c24 => ?_) (fun c24 => ?_)
          ·
            have L25 : ∀ (nn : Nat) (v27 : Int32) (v27Z : Int) (v28 : Int32) (v28Z : Int) (h29 : Hp) (v31 : Int32) (v31Z : Int) (v33 : Int32) (v33Z : Int) (v35 : Int32) (v35Z : Int) (v37 : Int32) (v37Z : Int) (v39 : Int32) (v39Z : Int), v27.toInt = v27Z → v28.toInt = v28Z → Inv h29 → fr S_Mod_findCrashX h h29 → h29.1 117 86 = t → v31.toInt = v31Z → h29.1 126 0 = v31 → v33.toInt = v33Z → h29.1 126 1 = v33 → v35.toInt = v35Z → h29.1 126 2 = v35 → v37.toInt = v37Z → h29.1 126 3 = v37 → v39.toInt = v39Z → h29.1 116 30 = v39 → 0 ≤ v28Z ∧ v28Z ≤ 1 → 0 ≤ zc v31Z ∧ zc v31Z ≤ 1 → 0 ≤ zc v33Z ∧ zc v33Z ≤ 1 → 0 ≤ zc v35Z ∧ zc v35Z ≤ 1 → 0 ≤ zc v37Z ∧ zc v37Z ≤ 1 → 0 ≤ v39Z ∧ v39Z + zc v31Z + zc v33Z + zc v35Z + zc v37Z ≤ 4 → FW (SR (FLV h vZ mZ tZ.toNat)) (v39Z).toNat 0 v31Z v33Z v35Z v37Z → BP v27 ((SR (FLV h vZ mZ tZ.toNat)) (v39Z).toNat) → RDs (SR (FLV h vZ mZ tZ.toNat)) (v39Z).toNat v39Z → (v28Z = 1 ∨ (SR (FLV h vZ mZ tZ.toNat)) ((v39Z).toNat + 1) = (SR (FLV h vZ mZ tZ.toNat)) (v39Z).toNat) → zc v31Z + zc v33Z + zc v35Z + zc v37Z + v28Z < (nn : Int) → V R_Mod b_Mod_findCrash 6 (some .int) 1 26 (q_Mod_findCrashX h v vZ m mZ t tZ) h29 33 [some (.ref 116), some (.int v), some (.int m), some (.int v27), some (.int v28), none] [] := by
              intro nn
              induction nn with
              | zero => intro v27 v27Z v28 v28Z h29 v31 v31Z v33 v33Z v35 v35Z v37 v37Z v39 v39Z v27E v28E Ih29 Fh29 K30 v31E K32 v33E K34 v35E K36 v37E K38 v39E K40 q41 q42 q43 q44 q45 q46 q47 q48 q49 q50 hm51; exact absurd hm51 (by (first | decide +kernel | omega))
              | succ nn ihL25 =>
                intro v27 v27Z v28 v28Z h29 v31 v31Z v33 v33Z v35 v35Z v37 v37Z v39 v39Z v27E v28E Ih29 Fh29 K30 v31E K32 v33E K34 v35E K36 v37E K38 v39E K40 q41 q42 q43 q44 q45 q46 q47 q48 q49 q50 hm51
                refine V_iload d_Mod_findCrash_33 rfl ?_
                refine V_if_eq 126 v28E d_Mod_findCrash_35 (by decide) (fun c52 => ?_) (fun c52 => ?_)
                ·
                  refine V_iload_n 3 d_Mod_findCrash_126 rfl rfl ?_
                  exact V_iret rfl d_Mod_findCrash_127 ⟨v27, rfl, ⟨Ih29, Fh29, (FC_of (by (first | decide +kernel | omega)) (by assumption) (by assumption) ((show v28Z = 1 ∨ _ from by assumption).resolve_left (by (first | decide +kernel | omega))) K40 v39E (by assumption) K32 K34 K36 K38 v31E v33E v35E v37E)⟩⟩
                ·
                  refine V_iconst 0 d_Mod_findCrash_38 (by decide) ?_
                  refine V_istore 4 [some (.ref 116), some (.int v), some (.int m), some (.int v27), some (.int 0), none] d_Mod_findCrash_39 (by decide) rfl rfl ?_
                  refine V_iconst 0 d_Mod_findCrash_41 (by decide) ?_
                  refine V_istore 5 [some (.ref 116), some (.int v), some (.int m), some (.int v27), some (.int 0), some (.int 0)] d_Mod_findCrash_42 (by decide) rfl rfl ?_
                  have L53 : ∀ (nn : Nat) (v55 : Int32) (v55Z : Int) (v56 : Int32) (v56Z : Int) (v57 : Int32) (v57Z : Int) (h58 : Hp) (v61 : Int32) (v61Z : Int) (v63 : Int32) (v63Z : Int) (v65 : Int32) (v65Z : Int) (v67 : Int32) (v67Z : Int), v55.toInt = v55Z → v56.toInt = v56Z → v57.toInt = v57Z → Inv h58 → fr S_Mod_findCrashX h h58 → h58.1 116 30 = v39 → h58.1 117 86 = t → v61.toInt = v61Z → h58.1 126 0 = v61 → v63.toInt = v63Z → h58.1 126 1 = v63 → v65.toInt = v65Z → h58.1 126 2 = v65 → v67.toInt = v67Z → h58.1 126 3 = v67 → 0 ≤ v56Z ∧ v56Z ≤ 1 → 0 ≤ v57Z ∧ v57Z ≤ 4 → 0 ≤ zc v61Z ∧ zc v61Z ≤ 1 → 0 ≤ zc v63Z ∧ zc v63Z ≤ 1 → 0 ≤ zc v65Z ∧ zc v65Z ≤ 1 → 0 ≤ zc v67Z ∧ zc v67Z ≤ 1 → zc v61Z + zc v63Z + zc v65Z + zc v67Z + v56Z ≤ zc v31Z + zc v33Z + zc v35Z + zc v37Z → FW (SR (FLV h vZ mZ tZ.toNat)) (v39Z).toNat v57Z v61Z v63Z v65Z v67Z → BP v55 (SB (SR (FLV h vZ mZ tZ.toNat)) (v39Z).toNat v57Z) → ON (SR (FLV h vZ mZ tZ.toNat)) (v39Z).toNat v57Z v56Z → 4 - v57Z < (nn : Int) → V R_Mod b_Mod_findCrash 6 (some .int) 1 26 (q_Mod_findCrashX h v vZ m mZ t tZ) h58 44 [some (.ref 116), some (.int v), some (.int m), some (.int v55), some (.int v56), some (.int v57)] [] := by
                    intro nn
                    induction nn with
                    | zero => intro v55 v55Z v56 v56Z v57 v57Z h58 v61 v61Z v63 v63Z v65 v65Z v67 v67Z v55E v56E v57E Ih58 Fh58 K59 K60 v61E K62 v63E K64 v65E K66 v67E K68 q69 q70 q71 q72 q73 q74 q75 q76 q77 q78 hm79; exact absurd hm79 (by (first | decide +kernel | omega))
                    | succ nn ihL53 =>
                      intro v55 v55Z v56 v56Z v57 v57Z h58 v61 v61Z v63 v63Z v65 v65Z v67 v67Z v55E v56E v57E Ih58 Fh58 K59 K60 v61E K62 v63E K64 v65E K66 v67E K68 q69 q70 q71 q72 q73 q74 q75 q76 q77 q78 hm79
                      refine V_iload d_Mod_findCrash_44 rfl ?_
                      refine V_iconst 4 d_Mod_findCrash_46 (by decide) ?_
                      refine V_icmp_ge 109 v57E tc_4 d_Mod_findCrash_47 (by decide) (fun c80 => ?_) (fun c80 => ?_)
                      ·
                        rcases (by (first | decide +kernel | omega) : v56Z = 0 ∨ v56Z = 1) with c81 | c81
                        ·
                          have hF9 : FW (SR (FLV h vZ mZ tZ.toNat)) (v39Z).toNat v57Z v61Z v63Z v65Z v67Z := by assumption
                          have hB9 : BP v55 ((SR (FLV h vZ mZ tZ.toNat)) ((v39Z).toNat + 1)) := SB_4 (show BP v55 (SB (SR (FLV h vZ mZ tZ.toNat)) (v39Z).toNat v57Z) from by assumption) (by (first | decide +kernel | omega))
                          have hO9 : ON (SR (FLV h vZ mZ tZ.toNat)) (v39Z).toNat v57Z v56Z := by assumption
                          have hD9 : RDs (SR (FLV h vZ mZ tZ.toNat)) (v39Z).toNat v39Z := by assumption
                          refine V_aload_n 0 d_Mod_findCrash_109 rfl rfl ?_
                          have hst : (SR (FLV h vZ mZ tZ.toNat)) ((v39Z).toNat + 1) = (SR (FLV h vZ mZ tZ.toNat)) (v39Z).toNat := ON_st hO9 (by (first | decide +kernel | omega)) (by (first | decide +kernel | omega))
                          refine V_dup d_Mod_findCrash_110 rfl ?_
                          refine N_getK fa_Mod_305 sk_116 rfl d_Mod_findCrash_111 K59 ?_
                          refine V_iload d_Mod_findCrash_114 rfl ?_
                          refine N_callSI [.int v56] [.int v39, .ref 116] cs_Mod_196 d_Mod_findCrash_116 rfl (Nat.le_of_ble_eq_true rfl) (by decide) (by decide) (c_Mod_flag h58 v56 v56Z v56E) (fun z82 h83 z82Z z82E p84 => ?_)
                          obtain ⟨eh83, p84⟩ := p84
                          subst eh83
                          refine V_iadd v39E z82E (by (first | decide +kernel | omega)) d_Mod_findCrash_119 (fun z85 z85e z85E => ?_)
                          refine N_putI fp_Mod_305 sk_116 rfl d_Mod_findCrash_120 (fun h86 eh86 => ?_)
                          have hI87 : Inv h86 := inv_full Ih58 eh86 rfl
                          have f88 : fr S_Mod_findCrashX h h86 := fr_put Fh58 eh86 rfl
                          refine V_goto 33 d_Mod_findCrash_123 (by decide) ?_
                          refine V_drop 5 [some (.ref 116), some (.int v), some (.int m), some (.int v55), some (.int v56), none] rfl ?_
                          exact ihL25 v55 v55Z v56 v56Z h86 v61 v61Z v63 v63Z v65 v65Z v67 v67Z z85 ((v39Z + z82Z)) v55E v56E hI87 f88 (kn_ne eh86 K60 (by decide)) v61E (kn_ne eh86 K62 (by decide)) v63E (kn_ne eh86 K64 (by decide)) v65E (kn_ne eh86 K66 (by decide)) v67E (kn_ne eh86 K68 (by decide)) z85E (kn_put eh86) (by (first | decide +kernel | omega)) (zc_b _) (zc_b _) (zc_b _) (zc_b _) (by have z0 := zc_0 (x := 0) rfl; omega) (by rw [show ((v39Z + z82Z)).toNat = (v39Z).toNat by (first | decide +kernel | omega)]; exact FW_st hF9 (by (first | decide +kernel | omega)) hst) (by rw [show ((v39Z + z82Z)).toNat = (v39Z).toNat by (first | decide +kernel | omega), ← hst]; exact hB9) (by rw [show ((v39Z + z82Z)).toNat = (v39Z).toNat by (first | decide +kernel | omega), show (v39Z + z82Z) = v39Z by (first | decide +kernel | omega)]; exact hD9) (Or.inr (by rw [show ((v39Z + z82Z)).toNat = (v39Z).toNat by (first | decide +kernel | omega)]; exact hst)) (by (first | decide +kernel | omega))
                        ·
                          have hF9 : FW (SR (FLV h vZ mZ tZ.toNat)) (v39Z).toNat v57Z v61Z v63Z v65Z v67Z := by assumption
                          have hB9 : BP v55 ((SR (FLV h vZ mZ tZ.toNat)) ((v39Z).toNat + 1)) := SB_4 (show BP v55 (SB (SR (FLV h vZ mZ tZ.toNat)) (v39Z).toNat v57Z) from by assumption) (by (first | decide +kernel | omega))
                          have hO9 : ON (SR (FLV h vZ mZ tZ.toNat)) (v39Z).toNat v57Z v56Z := by assumption
                          have hD9 : RDs (SR (FLV h vZ mZ tZ.toNat)) (v39Z).toNat v39Z := by assumption
                          refine V_aload_n 0 d_Mod_findCrash_109 rfl rfl ?_
                          have hex := (hO9.resolve_left (fun q => absurd q.1 (by (first | decide +kernel | omega)))).2
                          refine V_dup d_Mod_findCrash_110 rfl ?_
                          refine N_getK fa_Mod_305 sk_116 rfl d_Mod_findCrash_111 K59 ?_
                          refine V_iload d_Mod_findCrash_114 rfl ?_
                          refine N_callSI [.int v56] [.int v39, .ref 116] cs_Mod_196 d_Mod_findCrash_116 rfl (Nat.le_of_ble_eq_true rfl) (by decide) (by decide) (c_Mod_flag h58 v56 v56Z v56E) (fun z89 h90 z89Z z89E p91 => ?_)
                          obtain ⟨eh90, p91⟩ := p91
                          subst eh90
                          refine V_iadd v39E z89E (by (first | decide +kernel | omega)) d_Mod_findCrash_119 (fun z92 z92e z92E => ?_)
                          refine N_putI fp_Mod_305 sk_116 rfl d_Mod_findCrash_120 (fun h93 eh93 => ?_)
                          have hI94 : Inv h93 := inv_full Ih58 eh93 rfl
                          have f95 : fr S_Mod_findCrashX h h93 := fr_put Fh58 eh93 rfl
                          refine V_goto 33 d_Mod_findCrash_123 (by decide) ?_
                          refine V_drop 5 [some (.ref 116), some (.int v), some (.int m), some (.int v55), some (.int v56), none] rfl ?_
                          exact ihL25 v55 v55Z v56 v56Z h93 v61 v61Z v63 v63Z v65 v65Z v67 v67Z z92 ((v39Z + z89Z)) v55E v56E hI94 f95 (kn_ne eh93 K60 (by decide)) v61E (kn_ne eh93 K62 (by decide)) v63E (kn_ne eh93 K64 (by decide)) v65E (kn_ne eh93 K66 (by decide)) v67E (kn_ne eh93 K68 (by decide)) z92E (kn_put eh93) (by (first | decide +kernel | omega)) (zc_b _) (zc_b _) (zc_b _) (zc_b _) (by have z0 := zc_0 (x := 0) rfl; omega) (by rw [show ((v39Z + z89Z)).toNat = (v39Z).toNat + 1 by (first | decide +kernel | omega)]; exact FW_end hF9 (by (first | decide +kernel | omega))) (by rw [show ((v39Z + z89Z)).toNat = (v39Z).toNat + 1 by (first | decide +kernel | omega)]; exact hB9) (by have q9 := RDs_g hD9 hex; rw [show (((v39Z).toNat : Nat) : Int) + 1 = (v39Z + z89Z) by (first | decide +kernel | omega), show (v39Z).toNat + 1 = ((v39Z + z89Z)).toNat by (first | decide +kernel | omega)] at q9; exact q9) (Or.inl (by (first | decide +kernel | omega))) (by (first | decide +kernel | omega))
                      ·
                        rcases (by (first | decide +kernel | omega) : v57Z = 0 ∨ v57Z = 1 ∨ v57Z = 2 ∨ v57Z = 3) with c96 | c96 | c96 | c96
                        ·
                          obtain rfl : v57 = 0 := (ti_eq v57E tc_0).mpr c96
                          subst c96
                          have hF9 : FW (SR (FLV h vZ mZ tZ.toNat)) (v39Z).toNat 0 v61Z v63Z v65Z v67Z := by assumption
                          have hB9 : BP v55 (SB (SR (FLV h vZ mZ tZ.toNat)) (v39Z).toNat 0) := by assumption
                          have hO9 : ON (SR (FLV h vZ mZ tZ.toNat)) (v39Z).toNat 0 v56Z := by assumption
                          have hH9 : HS (SR (FLV h vZ mZ tZ.toNat)) 0 (v39Z).toNat v61Z 0 := W0_at hF9.1 (by decide)
                          refine V_aload_n 0 d_Mod_findCrash_50 rfl rfl ?_
                          refine V_getR fa_Mod_38 sk_116 rfl d_Mod_findCrash_51 ?_
                          refine V_iload d_Mod_findCrash_54 rfl ?_
                          refine N_ialdK sk_126 tc_0 (by (first | decide +kernel | omega)) d_Mod_findCrash_56 K62 ?_
                          refine V_if_ne 103 v61E d_Mod_findCrash_57 (by decide) (fun c98 => ?_) (fun c98 => ?_)
                          ·
                            have hs9 : (SR (FLV h vZ mZ tZ.toNat)) ((v39Z).toNat + 1) 0 → (SR (FLV h vZ mZ tZ.toNat)) (v39Z).toNat 0 := fun _ => HS_in hH9 (by (first | decide +kernel | omega))
                            have hq9 : HS (SR (FLV h vZ mZ tZ.toNat)) 0 ((v39Z).toNat + 1) v61Z 0 := HS_n hH9 hs9
                            refine V_iinc (v := 1) 5 [some (.ref 116), some (.int v), some (.int m), some (.int v55), some (.int v56), some (.int 1)] d_Mod_findCrash_103 rfl (by decide) (by decide) rfl rfl ?_
                            refine V_goto 44 d_Mod_findCrash_106 (by decide) ?_
                            exact ihL53 v55 v55Z v56 v56Z 1 1 h58 v61 v61Z v63 v63Z v65 v65Z v67 v67Z v55E v56E tc_1 Ih58 Fh58 K59 K60 v61E K62 v63E K64 v65E K66 v67E K68 (by (first | decide +kernel | omega)) (by (first | decide +kernel | omega)) (zc_b _) (zc_b _) (zc_b _) (zc_b _) (by (first | decide +kernel | omega)) (FW_s0 hF9 hq9) (SB_n (k := 0) hB9 (by decide) hs9) (ON_n (k := 0) hO9 (by decide) hs9) (by (first | decide +kernel | omega))
                          ·
                            have zz := zc_0 (x := v61Z) (by (first | decide +kernel | omega))
                            refine V_aload_n 0 d_Mod_findCrash_60 rfl rfl ?_
                            refine V_iload d_Mod_findCrash_61 rfl ?_
                            refine V_iload d_Mod_findCrash_63 rfl ?_
                            refine V_iload_n 1 d_Mod_findCrash_65 rfl rfl ?_
                            refine V_icmp_ne 73 tc_0 vE d_Mod_findCrash_66 (by decide) (fun c100 => ?_) (fun c100 => ?_)
                            ·
                              refine V_iconst 0 d_Mod_findCrash_73 (by decide) ?_
                              refine N_callVI [.int 0, .int 0] [] cv_Mod_308 sk_116 rfl d_Mod_findCrash_74 rfl (Nat.le_of_ble_eq_true rfl) (by decide) (by decide) (c_Mod_failsX h58 ((SR (FLV h vZ mZ tZ.toNat)) (v39Z).toNat) Ih58 0 0 tc_0 0 0 tc_0 v39 v39Z v39E K59 t tZ tE K60 (by (first | decide +kernel | omega)) (by (first | decide +kernel | omega)) (FW_F hF9 (by (first | decide +kernel | omega)) K62 K64 K66 K68 v61E v63E v65E v67E) (by rw [show h58.1 117 = h.1 117 from funext (fun i => Fh58.1 117 i rfl)]; exact hy1) (by rw [show h58.1 117 = h.1 117 from funext (fun i => Fh58.1 117 i rfl)]; exact hy2)) (fun z101 h102 z101Z z101E p103 => ?_)
                              obtain ⟨eh102, p103⟩ := p103
                              subst eh102
                              have := twR_01 p103
                              have hfl : twR z101 ((FLV h vZ mZ tZ.toNat) ((SR (FLV h vZ mZ tZ.toNat)) (v39Z).toNat) 0) := twR_cg p103 (by show (0 < LM h58 ((SR (FLV h vZ mZ tZ.toNat)) (v39Z).toNat) 0 tZ.toNat - 0) ↔ 0 < LM h ((SR (FLV h vZ mZ tZ.toNat)) (v39Z).toNat) ((0 : Nat) : Int) tZ.toNat - (if ((0 : Nat) : Int) = vZ then mZ else 0); rw [LM_fr Fh58 rfl, if_neg (by (first | decide +kernel | omega))]; first | done | exact Iff.rfl)
                              refine V_if_eq 103 z101E d_Mod_findCrash_77 (by decide) (fun c104 => ?_) (fun c104 => ?_)
                              ·
                                have hs9 : (SR (FLV h vZ mZ tZ.toNat)) ((v39Z).toNat + 1) 0 → (SR (FLV h vZ mZ tZ.toNat)) (v39Z).toNat 0 := fun q => q.elim id (fun w => absurd w.2 (hfl.resolve_left (fun q => absurd q.1 (by (first | decide +kernel | omega)))).2)
                                have hq9 : HS (SR (FLV h vZ mZ tZ.toNat)) 0 ((v39Z).toNat + 1) v61Z 0 := HS_n hH9 hs9
                                refine V_iinc (v := 1) 5 [some (.ref 116), some (.int v), some (.int m), some (.int v55), some (.int v56), some (.int 1)] d_Mod_findCrash_103 rfl (by decide) (by decide) rfl rfl ?_
                                refine V_goto 44 d_Mod_findCrash_106 (by decide) ?_
                                exact ihL53 v55 v55Z v56 v56Z 1 1 h58 v61 v61Z v63 v63Z v65 v65Z v67 v67Z v55E v56E tc_1 Ih58 Fh58 K59 K60 v61E K62 v63E K64 v65E K66 v67E K68 (by (first | decide +kernel | omega)) (by (first | decide +kernel | omega)) (zc_b _) (zc_b _) (zc_b _) (zc_b _) (by (first | decide +kernel | omega)) (FW_s0 hF9 hq9) (SB_n (k := 0) hB9 (by decide) hs9) (ON_n (k := 0) hO9 (by decide) hs9) (by (first | decide +kernel | omega))
                              ·
                                have hg9 : (SR (FLV h vZ mZ tZ.toNat)) ((v39Z).toNat + 1) 0 := Or.inr ⟨by decide, (hfl.resolve_right (fun q => absurd q.1 (by (first | decide +kernel | omega)))).2⟩
                                have hn9 : ¬ (SR (FLV h vZ mZ tZ.toNat)) (v39Z).toNat 0 := HS_out hH9 (by (first | decide +kernel | omega))
                                refine V_aload_n 0 d_Mod_findCrash_80 rfl rfl ?_
                                refine V_getR fa_Mod_38 sk_116 rfl d_Mod_findCrash_81 ?_
                                refine V_iload d_Mod_findCrash_84 rfl ?_
                                refine V_aload_n 0 d_Mod_findCrash_86 rfl rfl ?_
                                refine N_getK fa_Mod_305 sk_116 rfl d_Mod_findCrash_87 K59 ?_
                                refine V_iconst 1 d_Mod_findCrash_90 (by decide) ?_
                                refine V_iadd v39E tc_1 (by (first | decide +kernel | omega)) d_Mod_findCrash_91 (fun z106 z106e z106E => ?_)
                                refine N_iast sk_126 tc_0 (by (first | decide +kernel | omega)) d_Mod_findCrash_92 (fun h107 eh107 => ?_)
                                have hI108 : Inv h107 := inv_full Ih58 eh107 rfl
                                have f109 : fr S_Mod_findCrashX h h107 := fr_put Fh58 eh107 rfl
                                have zy := zc_n (x := (v39Z + 1)) (by (first | decide +kernel | omega))
                                refine V_iload_n 3 d_Mod_findCrash_93 rfl rfl ?_
                                refine V_iconst 1 d_Mod_findCrash_94 (by decide) ?_
                                refine V_iload d_Mod_findCrash_95 rfl ?_
                                refine N_ishl d_Mod_findCrash_97 (fun z110 z110Z z110E z110e => ?_)
                                refine N_ior d_Mod_findCrash_98 (fun z111 z111Z z111E z111e => ?_)
                                refine V_istore_n 3 [some (.ref 116), some (.int v), some (.int m), some (.int z111), some (.int v56), some (.int 0)] d_Mod_findCrash_99 rfl (by decide) rfl rfl ?_
                                refine V_iconst 1 d_Mod_findCrash_100 (by decide) ?_
                                refine V_istore 4 [some (.ref 116), some (.int v), some (.int m), some (.int z111), some (.int 1), some (.int 0)] d_Mod_findCrash_101 (by decide) rfl rfl ?_
                                have hq9 : HS (SR (FLV h vZ mZ tZ.toNat)) 0 ((v39Z).toNat + 1) ((v39Z + 1)) 0 := by have q9 := HS_g (fl := (FLV h vZ mZ tZ.toNat)) (none := 0) hg9 hn9; rw [show (((v39Z).toNat : Nat) : Int) + 1 = (v39Z + 1) by (first | decide +kernel | omega)] at q9; exact q9
                                refine V_iinc (v := 1) 5 [some (.ref 116), some (.int v), some (.int m), some (.int z111), some (.int 1), some (.int 1)] d_Mod_findCrash_103 rfl (by decide) (by decide) rfl rfl ?_
                                refine V_goto 44 d_Mod_findCrash_106 (by decide) ?_
                                exact ihL53 z111 z111Z 1 1 1 1 h107 z106 ((v39Z + 1)) v63 v63Z v65 v65Z v67 v67Z z111E tc_1 tc_1 hI108 f109 (kn_ne eh107 K59 (by decide)) (kn_ne eh107 K60 (by decide)) z106E (kn_put eh107) v63E (kn_nei eh107 K64 (by decide)) v65E (kn_nei eh107 K66 (by decide)) v67E (kn_nei eh107 K68 (by decide)) (by (first | decide +kernel | omega)) (by (first | decide +kernel | omega)) (zc_b _) (zc_b _) (zc_b _) (zc_b _) (by (first | decide +kernel | omega)) (FW_s0 hF9 hq9) (SB_g (k := 0) hB9 rfl (by decide) hg9 z110e z111e) (ON_g (k := 0) hg9 hn9) (by (first | decide +kernel | omega))
                            ·
                              refine V_iload_n 2 d_Mod_findCrash_69 rfl rfl ?_
                              refine V_goto 74 d_Mod_findCrash_70 (by decide) ?_
                              refine N_callVI [.int 0, .int m] [] cv_Mod_308 sk_116 rfl d_Mod_findCrash_74 rfl (Nat.le_of_ble_eq_true rfl) (by decide) (by decide) (c_Mod_failsX h58 ((SR (FLV h vZ mZ tZ.toNat)) (v39Z).toNat) Ih58 0 0 tc_0 m mZ mE v39 v39Z v39E K59 t tZ tE K60 (by (first | decide +kernel | omega)) (by (first | decide +kernel | omega)) (FW_F hF9 (by (first | decide +kernel | omega)) K62 K64 K66 K68 v61E v63E v65E v67E) (by rw [show h58.1 117 = h.1 117 from funext (fun i => Fh58.1 117 i rfl)]; exact hy1) (by rw [show h58.1 117 = h.1 117 from funext (fun i => Fh58.1 117 i rfl)]; exact hy2)) (fun z113 h114 z113Z z113E p115 => ?_)
                              obtain ⟨eh114, p115⟩ := p115
                              subst eh114
                              have := twR_01 p115
                              have hfl : twR z113 ((FLV h vZ mZ tZ.toNat) ((SR (FLV h vZ mZ tZ.toNat)) (v39Z).toNat) 0) := twR_cg p115 (by show (0 < LM h58 ((SR (FLV h vZ mZ tZ.toNat)) (v39Z).toNat) 0 tZ.toNat - mZ) ↔ 0 < LM h ((SR (FLV h vZ mZ tZ.toNat)) (v39Z).toNat) ((0 : Nat) : Int) tZ.toNat - (if ((0 : Nat) : Int) = vZ then mZ else 0); rw [LM_fr Fh58 rfl, if_pos (by (first | decide +kernel | omega))]; first | done | exact Iff.rfl)
                              refine V_if_eq 103 z113E d_Mod_findCrash_77 (by decide) (fun c116 => ?_) (fun c116 => ?_)
                              ·
                                have hs9 : (SR (FLV h vZ mZ tZ.toNat)) ((v39Z).toNat + 1) 0 → (SR (FLV h vZ mZ tZ.toNat)) (v39Z).toNat 0 := fun q => q.elim id (fun w => absurd w.2 (hfl.resolve_left (fun q => absurd q.1 (by (first | decide +kernel | omega)))).2)
                                have hq9 : HS (SR (FLV h vZ mZ tZ.toNat)) 0 ((v39Z).toNat + 1) v61Z 0 := HS_n hH9 hs9
                                refine V_iinc (v := 1) 5 [some (.ref 116), some (.int v), some (.int m), some (.int v55), some (.int v56), some (.int 1)] d_Mod_findCrash_103 rfl (by decide) (by decide) rfl rfl ?_
                                refine V_goto 44 d_Mod_findCrash_106 (by decide) ?_
                                exact ihL53 v55 v55Z v56 v56Z 1 1 h58 v61 v61Z v63 v63Z v65 v65Z v67 v67Z v55E v56E tc_1 Ih58 Fh58 K59 K60 v61E K62 v63E K64 v65E K66 v67E K68 (by (first | decide +kernel | omega)) (by (first | decide +kernel | omega)) (zc_b _) (zc_b _) (zc_b _) (zc_b _) (by (first | decide +kernel | omega)) (FW_s0 hF9 hq9) (SB_n (k := 0) hB9 (by decide) hs9) (ON_n (k := 0) hO9 (by decide) hs9) (by (first | decide +kernel | omega))
                              ·
                                have hg9 : (SR (FLV h vZ mZ tZ.toNat)) ((v39Z).toNat + 1) 0 := Or.inr ⟨by decide, (hfl.resolve_right (fun q => absurd q.1 (by (first | decide +kernel | omega)))).2⟩
                                have hn9 : ¬ (SR (FLV h vZ mZ tZ.toNat)) (v39Z).toNat 0 := HS_out hH9 (by (first | decide +kernel | omega))
                                refine V_aload_n 0 d_Mod_findCrash_80 rfl rfl ?_
                                refine V_getR fa_Mod_38 sk_116 rfl d_Mod_findCrash_81 ?_
                                refine V_iload d_Mod_findCrash_84 rfl ?_
                                refine V_aload_n 0 d_Mod_findCrash_86 rfl rfl ?_
                                refine N_getK fa_Mod_305 sk_116 rfl d_Mod_findCrash_87 K59 ?_
                                refine V_iconst 1 d_Mod_findCrash_90 (by decide) ?_
                                refine V_iadd v39E tc_1 (by (first | decide +kernel | omega)) d_Mod_findCrash_91 (fun z118 z118e z118E => ?_)
                                refine N_iast sk_126 tc_0 (by (first | decide +kernel | omega)) d_Mod_findCrash_92 (fun h119 eh119 => ?_)
                                have hI120 : Inv h119 := inv_full Ih58 eh119 rfl
                                have f121 : fr S_Mod_findCrashX h h119 := fr_put Fh58 eh119 rfl
                                have zy := zc_n (x := (v39Z + 1)) (by (first | decide +kernel | omega))
                                refine V_iload_n 3 d_Mod_findCrash_93 rfl rfl ?_
                                refine V_iconst 1 d_Mod_findCrash_94 (by decide) ?_
                                refine V_iload d_Mod_findCrash_95 rfl ?_
                                refine N_ishl d_Mod_findCrash_97 (fun z122 z122Z z122E z122e => ?_)
                                refine N_ior d_Mod_findCrash_98 (fun z123 z123Z z123E z123e => ?_)
                                refine V_istore_n 3 [some (.ref 116), some (.int v), some (.int m), some (.int z123), some (.int v56), some (.int 0)] d_Mod_findCrash_99 rfl (by decide) rfl rfl ?_
                                refine V_iconst 1 d_Mod_findCrash_100 (by decide) ?_
                                refine V_istore 4 [some (.ref 116), some (.int v), some (.int m), some (.int z123), some (.int 1), some (.int 0)] d_Mod_findCrash_101 (by decide) rfl rfl ?_
                                have hq9 : HS (SR (FLV h vZ mZ tZ.toNat)) 0 ((v39Z).toNat + 1) ((v39Z + 1)) 0 := by have q9 := HS_g (fl := (FLV h vZ mZ tZ.toNat)) (none := 0) hg9 hn9; rw [show (((v39Z).toNat : Nat) : Int) + 1 = (v39Z + 1) by (first | decide +kernel | omega)] at q9; exact q9
                                refine V_iinc (v := 1) 5 [some (.ref 116), some (.int v), some (.int m), some (.int z123), some (.int 1), some (.int 1)] d_Mod_findCrash_103 rfl (by decide) (by decide) rfl rfl ?_
                                refine V_goto 44 d_Mod_findCrash_106 (by decide) ?_
                                exact ihL53 z123 z123Z 1 1 1 1 h119 z118 ((v39Z + 1)) v63 v63Z v65 v65Z v67 v67Z z123E tc_1 tc_1 hI120 f121 (kn_ne eh119 K59 (by decide)) (kn_ne eh119 K60 (by decide)) z118E (kn_put eh119) v63E (kn_nei eh119 K64 (by decide)) v65E (kn_nei eh119 K66 (by decide)) v67E (kn_nei eh119 K68 (by decide)) (by (first | decide +kernel | omega)) (by (first | decide +kernel | omega)) (zc_b _) (zc_b _) (zc_b _) (zc_b _) (by (first | decide +kernel | omega)) (FW_s0 hF9 hq9) (SB_g (k := 0) hB9 rfl (by decide) hg9 z122e z123e) (ON_g (k := 0) hg9 hn9) (by (first | decide +kernel | omega))
                        ·
                          obtain rfl : v57 = 1 := (ti_eq v57E tc_1).mpr c96
                          subst c96
                          have hF9 : FW (SR (FLV h vZ mZ tZ.toNat)) (v39Z).toNat 1 v61Z v63Z v65Z v67Z := by assumption
                          have hB9 : BP v55 (SB (SR (FLV h vZ mZ tZ.toNat)) (v39Z).toNat 1) := by assumption
                          have hO9 : ON (SR (FLV h vZ mZ tZ.toNat)) (v39Z).toNat 1 v56Z := by assumption
                          have hH9 : HS (SR (FLV h vZ mZ tZ.toNat)) 1 (v39Z).toNat v63Z 0 := W0_at hF9.2.1 (by decide)
                          refine V_aload_n 0 d_Mod_findCrash_50 rfl rfl ?_
                          refine V_getR fa_Mod_38 sk_116 rfl d_Mod_findCrash_51 ?_
                          refine V_iload d_Mod_findCrash_54 rfl ?_
                          refine N_ialdK sk_126 tc_1 (by (first | decide +kernel | omega)) d_Mod_findCrash_56 K64 ?_
                          refine V_if_ne 103 v63E d_Mod_findCrash_57 (by decide) (fun c126 => ?_) (fun c126 => ?_)
                          ·
                            have hs9 : (SR (FLV h vZ mZ tZ.toNat)) ((v39Z).toNat + 1) 1 → (SR (FLV h vZ mZ tZ.toNat)) (v39Z).toNat 1 := fun _ => HS_in hH9 (by (first | decide +kernel | omega))
                            have hq9 : HS (SR (FLV h vZ mZ tZ.toNat)) 1 ((v39Z).toNat + 1) v63Z 0 := HS_n hH9 hs9
                            refine V_iinc (v := 2) 5 [some (.ref 116), some (.int v), some (.int m), some (.int v55), some (.int v56), some (.int 2)] d_Mod_findCrash_103 rfl (by decide) (by decide) rfl rfl ?_
                            refine V_goto 44 d_Mod_findCrash_106 (by decide) ?_
                            exact ihL53 v55 v55Z v56 v56Z 2 2 h58 v61 v61Z v63 v63Z v65 v65Z v67 v67Z v55E v56E tc_2 Ih58 Fh58 K59 K60 v61E K62 v63E K64 v65E K66 v67E K68 (by (first | decide +kernel | omega)) (by (first | decide +kernel | omega)) (zc_b _) (zc_b _) (zc_b _) (zc_b _) (by (first | decide +kernel | omega)) (FW_s1 hF9 hq9) (SB_n (k := 1) hB9 (by decide) hs9) (ON_n (k := 1) hO9 (by decide) hs9) (by (first | decide +kernel | omega))
                          ·
                            have zz := zc_0 (x := v63Z) (by (first | decide +kernel | omega))
                            refine V_aload_n 0 d_Mod_findCrash_60 rfl rfl ?_
                            refine V_iload d_Mod_findCrash_61 rfl ?_
                            refine V_iload d_Mod_findCrash_63 rfl ?_
                            refine V_iload_n 1 d_Mod_findCrash_65 rfl rfl ?_
                            refine V_icmp_ne 73 tc_1 vE d_Mod_findCrash_66 (by decide) (fun c128 => ?_) (fun c128 => ?_)
                            ·
                              refine V_iconst 0 d_Mod_findCrash_73 (by decide) ?_
                              refine N_callVI [.int 1, .int 0] [] cv_Mod_308 sk_116 rfl d_Mod_findCrash_74 rfl (Nat.le_of_ble_eq_true rfl) (by decide) (by decide) (c_Mod_failsX h58 ((SR (FLV h vZ mZ tZ.toNat)) (v39Z).toNat) Ih58 1 1 tc_1 0 0 tc_0 v39 v39Z v39E K59 t tZ tE K60 (by (first | decide +kernel | omega)) (by (first | decide +kernel | omega)) (FW_F hF9 (by (first | decide +kernel | omega)) K62 K64 K66 K68 v61E v63E v65E v67E) (by rw [show h58.1 117 = h.1 117 from funext (fun i => Fh58.1 117 i rfl)]; exact hy1) (by rw [show h58.1 117 = h.1 117 from funext (fun i => Fh58.1 117 i rfl)]; exact hy2)) (fun z129 h130 z129Z z129E p131 => ?_)
                              obtain ⟨eh130, p131⟩ := p131
                              subst eh130
                              have := twR_01 p131
                              have hfl : twR z129 ((FLV h vZ mZ tZ.toNat) ((SR (FLV h vZ mZ tZ.toNat)) (v39Z).toNat) 1) := twR_cg p131 (by show (0 < LM h58 ((SR (FLV h vZ mZ tZ.toNat)) (v39Z).toNat) 1 tZ.toNat - 0) ↔ 0 < LM h ((SR (FLV h vZ mZ tZ.toNat)) (v39Z).toNat) ((1 : Nat) : Int) tZ.toNat - (if ((1 : Nat) : Int) = vZ then mZ else 0); rw [LM_fr Fh58 rfl, if_neg (by (first | decide +kernel | omega))]; first | done | exact Iff.rfl)
                              refine V_if_eq 103 z129E d_Mod_findCrash_77 (by decide) (fun c132 => ?_) (fun c132 => ?_)
                              ·
                                have hs9 : (SR (FLV h vZ mZ tZ.toNat)) ((v39Z).toNat + 1) 1 → (SR (FLV h vZ mZ tZ.toNat)) (v39Z).toNat 1 := fun q => q.elim id (fun w => absurd w.2 (hfl.resolve_left (fun q => absurd q.1 (by (first | decide +kernel | omega)))).2)
                                have hq9 : HS (SR (FLV h vZ mZ tZ.toNat)) 1 ((v39Z).toNat + 1) v63Z 0 := HS_n hH9 hs9
                                refine V_iinc (v := 2) 5 [some (.ref 116), some (.int v), some (.int m), some (.int v55), some (.int v56), some (.int 2)] d_Mod_findCrash_103 rfl (by decide) (by decide) rfl rfl ?_
                                refine V_goto 44 d_Mod_findCrash_106 (by decide) ?_
                                exact ihL53 v55 v55Z v56 v56Z 2 2 h58 v61 v61Z v63 v63Z v65 v65Z v67 v67Z v55E v56E tc_2 Ih58 Fh58 K59 K60 v61E K62 v63E K64 v65E K66 v67E K68 (by (first | decide +kernel | omega)) (by (first | decide +kernel | omega)) (zc_b _) (zc_b _) (zc_b _) (zc_b _) (by (first | decide +kernel | omega)) (FW_s1 hF9 hq9) (SB_n (k := 1) hB9 (by decide) hs9) (ON_n (k := 1) hO9 (by decide) hs9) (by (first | decide +kernel | omega))
                              ·
                                have hg9 : (SR (FLV h vZ mZ tZ.toNat)) ((v39Z).toNat + 1) 1 := Or.inr ⟨by decide, (hfl.resolve_right (fun q => absurd q.1 (by (first | decide +kernel | omega)))).2⟩
                                have hn9 : ¬ (SR (FLV h vZ mZ tZ.toNat)) (v39Z).toNat 1 := HS_out hH9 (by (first | decide +kernel | omega))
                                refine V_aload_n 0 d_Mod_findCrash_80 rfl rfl ?_
                                refine V_getR fa_Mod_38 sk_116 rfl d_Mod_findCrash_81 ?_
                                refine V_iload d_Mod_findCrash_84 rfl ?_
                                refine V_aload_n 0 d_Mod_findCrash_86 rfl rfl ?_
                                refine N_getK fa_Mod_305 sk_116 rfl d_Mod_findCrash_87 K59 ?_
                                refine V_iconst 1 d_Mod_findCrash_90 (by decide) ?_
                                refine V_iadd v39E tc_1 (by (first | decide +kernel | omega)) d_Mod_findCrash_91 (fun z134 z134e z134E => ?_)
                                refine N_iast sk_126 tc_1 (by (first | decide +kernel | omega)) d_Mod_findCrash_92 (fun h135 eh135 => ?_)
                                have hI136 : Inv h135 := inv_full Ih58 eh135 rfl
                                have f137 : fr S_Mod_findCrashX h h135 := fr_put Fh58 eh135 rfl
                                have zy := zc_n (x := (v39Z + 1)) (by (first | decide +kernel | omega))
                                refine V_iload_n 3 d_Mod_findCrash_93 rfl rfl ?_
                                refine V_iconst 1 d_Mod_findCrash_94 (by decide) ?_
                                refine V_iload d_Mod_findCrash_95 rfl ?_
                                refine N_ishl d_Mod_findCrash_97 (fun z138 z138Z z138E z138e => ?_)
                                refine N_ior d_Mod_findCrash_98 (fun z139 z139Z z139E z139e => ?_)
                                refine V_istore_n 3 [some (.ref 116), some (.int v), some (.int m), some (.int z139), some (.int v56), some (.int 1)] d_Mod_findCrash_99 rfl (by decide) rfl rfl ?_
                                refine V_iconst 1 d_Mod_findCrash_100 (by decide) ?_
                                refine V_istore 4 [some (.ref 116), some (.int v), some (.int m), some (.int z139), some (.int 1), some (.int 1)] d_Mod_findCrash_101 (by decide) rfl rfl ?_
                                have hq9 : HS (SR (FLV h vZ mZ tZ.toNat)) 1 ((v39Z).toNat + 1) ((v39Z + 1)) 0 := by have q9 := HS_g (fl := (FLV h vZ mZ tZ.toNat)) (none := 0) hg9 hn9; rw [show (((v39Z).toNat : Nat) : Int) + 1 = (v39Z + 1) by (first | decide +kernel | omega)] at q9; exact q9
                                refine V_iinc (v := 2) 5 [some (.ref 116), some (.int v), some (.int m), some (.int z139), some (.int 1), some (.int 2)] d_Mod_findCrash_103 rfl (by decide) (by decide) rfl rfl ?_
                                refine V_goto 44 d_Mod_findCrash_106 (by decide) ?_
                                exact ihL53 z139 z139Z 1 1 2 2 h135 v61 v61Z z134 ((v39Z + 1)) v65 v65Z v67 v67Z z139E tc_1 tc_2 hI136 f137 (kn_ne eh135 K59 (by decide)) (kn_ne eh135 K60 (by decide)) v61E (kn_nei eh135 K62 (by decide)) z134E (kn_put eh135) v65E (kn_nei eh135 K66 (by decide)) v67E (kn_nei eh135 K68 (by decide)) (by (first | decide +kernel | omega)) (by (first | decide +kernel | omega)) (zc_b _) (zc_b _) (zc_b _) (zc_b _) (by (first | decide +kernel | omega)) (FW_s1 hF9 hq9) (SB_g (k := 1) hB9 rfl (by decide) hg9 z138e z139e) (ON_g (k := 1) hg9 hn9) (by (first | decide +kernel | omega))
                            ·
                              refine V_iload_n 2 d_Mod_findCrash_69 rfl rfl ?_
                              refine V_goto 74 d_Mod_findCrash_70 (by decide) ?_
                              refine N_callVI [.int 1, .int m] [] cv_Mod_308 sk_116 rfl d_Mod_findCrash_74 rfl (Nat.le_of_ble_eq_true rfl) (by decide) (by decide) (c_Mod_failsX h58 ((SR (FLV h vZ mZ tZ.toNat)) (v39Z).toNat) Ih58 1 1 tc_1 m mZ mE v39 v39Z v39E K59 t tZ tE K60 (by (first | decide +kernel | omega)) (by (first | decide +kernel | omega)) (FW_F hF9 (by (first | decide +kernel | omega)) K62 K64 K66 K68 v61E v63E v65E v67E) (by rw [show h58.1 117 = h.1 117 from funext (fun i => Fh58.1 117 i rfl)]; exact hy1) (by rw [show h58.1 117 = h.1 117 from funext (fun i => Fh58.1 117 i rfl)]; exact hy2)) (fun z141 h142 z141Z z141E p143 => ?_)
                              obtain ⟨eh142, p143⟩ := p143
                              subst eh142
                              have := twR_01 p143
                              have hfl : twR z141 ((FLV h vZ mZ tZ.toNat) ((SR (FLV h vZ mZ tZ.toNat)) (v39Z).toNat) 1) := twR_cg p143 (by show (0 < LM h58 ((SR (FLV h vZ mZ tZ.toNat)) (v39Z).toNat) 1 tZ.toNat - mZ) ↔ 0 < LM h ((SR (FLV h vZ mZ tZ.toNat)) (v39Z).toNat) ((1 : Nat) : Int) tZ.toNat - (if ((1 : Nat) : Int) = vZ then mZ else 0); rw [LM_fr Fh58 rfl, if_pos (by (first | decide +kernel | omega))]; first | done | exact Iff.rfl)
                              refine V_if_eq 103 z141E d_Mod_findCrash_77 (by decide) (fun c144 => ?_) (fun c144 => ?_)
                              ·
                                have hs9 : (SR (FLV h vZ mZ tZ.toNat)) ((v39Z).toNat + 1) 1 → (SR (FLV h vZ mZ tZ.toNat)) (v39Z).toNat 1 := fun q => q.elim id (fun w => absurd w.2 (hfl.resolve_left (fun q => absurd q.1 (by (first | decide +kernel | omega)))).2)
                                have hq9 : HS (SR (FLV h vZ mZ tZ.toNat)) 1 ((v39Z).toNat + 1) v63Z 0 := HS_n hH9 hs9
                                refine V_iinc (v := 2) 5 [some (.ref 116), some (.int v), some (.int m), some (.int v55), some (.int v56), some (.int 2)] d_Mod_findCrash_103 rfl (by decide) (by decide) rfl rfl ?_
                                refine V_goto 44 d_Mod_findCrash_106 (by decide) ?_
                                exact ihL53 v55 v55Z v56 v56Z 2 2 h58 v61 v61Z v63 v63Z v65 v65Z v67 v67Z v55E v56E tc_2 Ih58 Fh58 K59 K60 v61E K62 v63E K64 v65E K66 v67E K68 (by (first | decide +kernel | omega)) (by (first | decide +kernel | omega)) (zc_b _) (zc_b _) (zc_b _) (zc_b _) (by (first | decide +kernel | omega)) (FW_s1 hF9 hq9) (SB_n (k := 1) hB9 (by decide) hs9) (ON_n (k := 1) hO9 (by decide) hs9) (by (first | decide +kernel | omega))
                              ·
                                have hg9 : (SR (FLV h vZ mZ tZ.toNat)) ((v39Z).toNat + 1) 1 := Or.inr ⟨by decide, (hfl.resolve_right (fun q => absurd q.1 (by (first | decide +kernel | omega)))).2⟩
                                have hn9 : ¬ (SR (FLV h vZ mZ tZ.toNat)) (v39Z).toNat 1 := HS_out hH9 (by (first | decide +kernel | omega))
                                refine V_aload_n 0 d_Mod_findCrash_80 rfl rfl ?_
                                refine V_getR fa_Mod_38 sk_116 rfl d_Mod_findCrash_81 ?_
                                refine V_iload d_Mod_findCrash_84 rfl ?_
                                refine V_aload_n 0 d_Mod_findCrash_86 rfl rfl ?_
                                refine N_getK fa_Mod_305 sk_116 rfl d_Mod_findCrash_87 K59 ?_
                                refine V_iconst 1 d_Mod_findCrash_90 (by decide) ?_
                                refine V_iadd v39E tc_1 (by (first | decide +kernel | omega)) d_Mod_findCrash_91 (fun z146 z146e z146E => ?_)
                                refine N_iast sk_126 tc_1 (by (first | decide +kernel | omega)) d_Mod_findCrash_92 (fun h147 eh147 => ?_)
                                have hI148 : Inv h147 := inv_full Ih58 eh147 rfl
                                have f149 : fr S_Mod_findCrashX h h147 := fr_put Fh58 eh147 rfl
                                have zy := zc_n (x := (v39Z + 1)) (by (first | decide +kernel | omega))
                                refine V_iload_n 3 d_Mod_findCrash_93 rfl rfl ?_
                                refine V_iconst 1 d_Mod_findCrash_94 (by decide) ?_
                                refine V_iload d_Mod_findCrash_95 rfl ?_
                                refine N_ishl d_Mod_findCrash_97 (fun z150 z150Z z150E z150e => ?_)
                                refine N_ior d_Mod_findCrash_98 (fun z151 z151Z z151E z151e => ?_)
                                refine V_istore_n 3 [some (.ref 116), some (.int v), some (.int m), some (.int z151), some (.int v56), some (.int 1)] d_Mod_findCrash_99 rfl (by decide) rfl rfl ?_
                                refine V_iconst 1 d_Mod_findCrash_100 (by decide) ?_
                                refine V_istore 4 [some (.ref 116), some (.int v), some (.int m), some (.int z151), some (.int 1), some (.int 1)] d_Mod_findCrash_101 (by decide) rfl rfl ?_
                                have hq9 : HS (SR (FLV h vZ mZ tZ.toNat)) 1 ((v39Z).toNat + 1) ((v39Z + 1)) 0 := by have q9 := HS_g (fl := (FLV h vZ mZ tZ.toNat)) (none := 0) hg9 hn9; rw [show (((v39Z).toNat : Nat) : Int) + 1 = (v39Z + 1) by (first | decide +kernel | omega)] at q9; exact q9
                                refine V_iinc (v := 2) 5 [some (.ref 116), some (.int v), some (.int m), some (.int z151), some (.int 1), some (.int 2)] d_Mod_findCrash_103 rfl (by decide) (by decide) rfl rfl ?_
                                refine V_goto 44 d_Mod_findCrash_106 (by decide) ?_
                                exact ihL53 z151 z151Z 1 1 2 2 h147 v61 v61Z z146 ((v39Z + 1)) v65 v65Z v67 v67Z z151E tc_1 tc_2 hI148 f149 (kn_ne eh147 K59 (by decide)) (kn_ne eh147 K60 (by decide)) v61E (kn_nei eh147 K62 (by decide)) z146E (kn_put eh147) v65E (kn_nei eh147 K66 (by decide)) v67E (kn_nei eh147 K68 (by decide)) (by (first | decide +kernel | omega)) (by (first | decide +kernel | omega)) (zc_b _) (zc_b _) (zc_b _) (zc_b _) (by (first | decide +kernel | omega)) (FW_s1 hF9 hq9) (SB_g (k := 1) hB9 rfl (by decide) hg9 z150e z151e) (ON_g (k := 1) hg9 hn9) (by (first | decide +kernel | omega))
                        ·
                          obtain rfl : v57 = 2 := (ti_eq v57E tc_2).mpr c96
                          subst c96
                          have hF9 : FW (SR (FLV h vZ mZ tZ.toNat)) (v39Z).toNat 2 v61Z v63Z v65Z v67Z := by assumption
                          have hB9 : BP v55 (SB (SR (FLV h vZ mZ tZ.toNat)) (v39Z).toNat 2) := by assumption
                          have hO9 : ON (SR (FLV h vZ mZ tZ.toNat)) (v39Z).toNat 2 v56Z := by assumption
                          have hH9 : HS (SR (FLV h vZ mZ tZ.toNat)) 2 (v39Z).toNat v65Z 0 := W0_at hF9.2.2.1 (by decide)
                          refine V_aload_n 0 d_Mod_findCrash_50 rfl rfl ?_
                          refine V_getR fa_Mod_38 sk_116 rfl d_Mod_findCrash_51 ?_
                          refine V_iload d_Mod_findCrash_54 rfl ?_
                          refine N_ialdK sk_126 tc_2 (by (first | decide +kernel | omega)) d_Mod_findCrash_56 K66 ?_
                          refine V_if_ne 103 v65E d_Mod_findCrash_57 (by decide) (fun c154 => ?_) (fun c154 => ?_)
                          ·
                            have hs9 : (SR (FLV h vZ mZ tZ.toNat)) ((v39Z).toNat + 1) 2 → (SR (FLV h vZ mZ tZ.toNat)) (v39Z).toNat 2 := fun _ => HS_in hH9 (by (first | decide +kernel | omega))
                            have hq9 : HS (SR (FLV h vZ mZ tZ.toNat)) 2 ((v39Z).toNat + 1) v65Z 0 := HS_n hH9 hs9
                            refine V_iinc (v := 3) 5 [some (.ref 116), some (.int v), some (.int m), some (.int v55), some (.int v56), some (.int 3)] d_Mod_findCrash_103 rfl (by decide) (by decide) rfl rfl ?_
                            refine V_goto 44 d_Mod_findCrash_106 (by decide) ?_
                            exact ihL53 v55 v55Z v56 v56Z 3 3 h58 v61 v61Z v63 v63Z v65 v65Z v67 v67Z v55E v56E tc_3 Ih58 Fh58 K59 K60 v61E K62 v63E K64 v65E K66 v67E K68 (by (first | decide +kernel | omega)) (by (first | decide +kernel | omega)) (zc_b _) (zc_b _) (zc_b _) (zc_b _) (by (first | decide +kernel | omega)) (FW_s2 hF9 hq9) (SB_n (k := 2) hB9 (by decide) hs9) (ON_n (k := 2) hO9 (by decide) hs9) (by (first | decide +kernel | omega))
                          ·
                            have zz := zc_0 (x := v65Z) (by (first | decide +kernel | omega))
                            refine V_aload_n 0 d_Mod_findCrash_60 rfl rfl ?_
                            refine V_iload d_Mod_findCrash_61 rfl ?_
                            refine V_iload d_Mod_findCrash_63 rfl ?_
                            refine V_iload_n 1 d_Mod_findCrash_65 rfl rfl ?_
                            refine V_icmp_ne 73 tc_2 vE d_Mod_findCrash_66 (by decide) (fun c156 => ?_) (fun c156 => ?_)
                            ·
                              refine V_iconst 0 d_Mod_findCrash_73 (by decide) ?_
                              refine N_callVI [.int 2, .int 0] [] cv_Mod_308 sk_116 rfl d_Mod_findCrash_74 rfl (Nat.le_of_ble_eq_true rfl) (by decide) (by decide) (c_Mod_failsX h58 ((SR (FLV h vZ mZ tZ.toNat)) (v39Z).toNat) Ih58 2 2 tc_2 0 0 tc_0 v39 v39Z v39E K59 t tZ tE K60 (by (first | decide +kernel | omega)) (by (first | decide +kernel | omega)) (FW_F hF9 (by (first | decide +kernel | omega)) K62 K64 K66 K68 v61E v63E v65E v67E) (by rw [show h58.1 117 = h.1 117 from funext (fun i => Fh58.1 117 i rfl)]; exact hy1) (by rw [show h58.1 117 = h.1 117 from funext (fun i => Fh58.1 117 i rfl)]; exact hy2)) (fun z157 h158 z157Z z157E p159 => ?_)
                              obtain ⟨eh158, p159⟩ := p159
                              subst eh158
                              have := twR_01 p159
                              have hfl : twR z157 ((FLV h vZ mZ tZ.toNat) ((SR (FLV h vZ mZ tZ.toNat)) (v39Z).toNat) 2) := twR_cg p159 (by show (0 < LM h58 ((SR (FLV h vZ mZ tZ.toNat)) (v39Z).toNat) 2 tZ.toNat - 0) ↔ 0 < LM h ((SR (FLV h vZ mZ tZ.toNat)) (v39Z).toNat) ((2 : Nat) : Int) tZ.toNat - (if ((2 : Nat) : Int) = vZ then mZ else 0); rw [LM_fr Fh58 rfl, if_neg (by (first | decide +kernel | omega))]; first | done | exact Iff.rfl)
                              refine V_if_eq 103 z157E d_Mod_findCrash_77 (by decide) (fun c160 => ?_) (fun c160 => ?_)
                              ·
                                have hs9 : (SR (FLV h vZ mZ tZ.toNat)) ((v39Z).toNat + 1) 2 → (SR (FLV h vZ mZ tZ.toNat)) (v39Z).toNat 2 := fun q => q.elim id (fun w => absurd w.2 (hfl.resolve_left (fun q => absurd q.1 (by (first | decide +kernel | omega)))).2)
                                have hq9 : HS (SR (FLV h vZ mZ tZ.toNat)) 2 ((v39Z).toNat + 1) v65Z 0 := HS_n hH9 hs9
                                refine V_iinc (v := 3) 5 [some (.ref 116), some (.int v), some (.int m), some (.int v55), some (.int v56), some (.int 3)] d_Mod_findCrash_103 rfl (by decide) (by decide) rfl rfl ?_
                                refine V_goto 44 d_Mod_findCrash_106 (by decide) ?_
                                exact ihL53 v55 v55Z v56 v56Z 3 3 h58 v61 v61Z v63 v63Z v65 v65Z v67 v67Z v55E v56E tc_3 Ih58 Fh58 K59 K60 v61E K62 v63E K64 v65E K66 v67E K68 (by (first | decide +kernel | omega)) (by (first | decide +kernel | omega)) (zc_b _) (zc_b _) (zc_b _) (zc_b _) (by (first | decide +kernel | omega)) (FW_s2 hF9 hq9) (SB_n (k := 2) hB9 (by decide) hs9) (ON_n (k := 2) hO9 (by decide) hs9) (by (first | decide +kernel | omega))
                              ·
                                have hg9 : (SR (FLV h vZ mZ tZ.toNat)) ((v39Z).toNat + 1) 2 := Or.inr ⟨by decide, (hfl.resolve_right (fun q => absurd q.1 (by (first | decide +kernel | omega)))).2⟩
                                have hn9 : ¬ (SR (FLV h vZ mZ tZ.toNat)) (v39Z).toNat 2 := HS_out hH9 (by (first | decide +kernel | omega))
                                refine V_aload_n 0 d_Mod_findCrash_80 rfl rfl ?_
                                refine V_getR fa_Mod_38 sk_116 rfl d_Mod_findCrash_81 ?_
                                refine V_iload d_Mod_findCrash_84 rfl ?_
                                refine V_aload_n 0 d_Mod_findCrash_86 rfl rfl ?_
                                refine N_getK fa_Mod_305 sk_116 rfl d_Mod_findCrash_87 K59 ?_
                                refine V_iconst 1 d_Mod_findCrash_90 (by decide) ?_
                                refine V_iadd v39E tc_1 (by (first | decide +kernel | omega)) d_Mod_findCrash_91 (fun z162 z162e z162E => ?_)
                                refine N_iast sk_126 tc_2 (by (first | decide +kernel | omega)) d_Mod_findCrash_92 (fun h163 eh163 => ?_)
                                have hI164 : Inv h163 := inv_full Ih58 eh163 rfl
                                have f165 : fr S_Mod_findCrashX h h163 := fr_put Fh58 eh163 rfl
                                have zy := zc_n (x := (v39Z + 1)) (by (first | decide +kernel | omega))
                                refine V_iload_n 3 d_Mod_findCrash_93 rfl rfl ?_
                                refine V_iconst 1 d_Mod_findCrash_94 (by decide) ?_
                                refine V_iload d_Mod_findCrash_95 rfl ?_
                                refine N_ishl d_Mod_findCrash_97 (fun z166 z166Z z166E z166e => ?_)
                                refine N_ior d_Mod_findCrash_98 (fun z167 z167Z z167E z167e => ?_)
                                refine V_istore_n 3 [some (.ref 116), some (.int v), some (.int m), some (.int z167), some (.int v56), some (.int 2)] d_Mod_findCrash_99 rfl (by decide) rfl rfl ?_
                                refine V_iconst 1 d_Mod_findCrash_100 (by decide) ?_
                                refine V_istore 4 [some (.ref 116), some (.int v), some (.int m), some (.int z167), some (.int 1), some (.int 2)] d_Mod_findCrash_101 (by decide) rfl rfl ?_
                                have hq9 : HS (SR (FLV h vZ mZ tZ.toNat)) 2 ((v39Z).toNat + 1) ((v39Z + 1)) 0 := by have q9 := HS_g (fl := (FLV h vZ mZ tZ.toNat)) (none := 0) hg9 hn9; rw [show (((v39Z).toNat : Nat) : Int) + 1 = (v39Z + 1) by (first | decide +kernel | omega)] at q9; exact q9
                                refine V_iinc (v := 3) 5 [some (.ref 116), some (.int v), some (.int m), some (.int z167), some (.int 1), some (.int 3)] d_Mod_findCrash_103 rfl (by decide) (by decide) rfl rfl ?_
                                refine V_goto 44 d_Mod_findCrash_106 (by decide) ?_
                                exact ihL53 z167 z167Z 1 1 3 3 h163 v61 v61Z v63 v63Z z162 ((v39Z + 1)) v67 v67Z z167E tc_1 tc_3 hI164 f165 (kn_ne eh163 K59 (by decide)) (kn_ne eh163 K60 (by decide)) v61E (kn_nei eh163 K62 (by decide)) v63E (kn_nei eh163 K64 (by decide)) z162E (kn_put eh163) v67E (kn_nei eh163 K68 (by decide)) (by (first | decide +kernel | omega)) (by (first | decide +kernel | omega)) (zc_b _) (zc_b _) (zc_b _) (zc_b _) (by (first | decide +kernel | omega)) (FW_s2 hF9 hq9) (SB_g (k := 2) hB9 rfl (by decide) hg9 z166e z167e) (ON_g (k := 2) hg9 hn9) (by (first | decide +kernel | omega))
                            ·
                              refine V_iload_n 2 d_Mod_findCrash_69 rfl rfl ?_
                              refine V_goto 74 d_Mod_findCrash_70 (by decide) ?_
                              refine N_callVI [.int 2, .int m] [] cv_Mod_308 sk_116 rfl d_Mod_findCrash_74 rfl (Nat.le_of_ble_eq_true rfl) (by decide) (by decide) (c_Mod_failsX h58 ((SR (FLV h vZ mZ tZ.toNat)) (v39Z).toNat) Ih58 2 2 tc_2 m mZ mE v39 v39Z v39E K59 t tZ tE K60 (by (first | decide +kernel | omega)) (by (first | decide +kernel | omega)) (FW_F hF9 (by (first | decide +kernel | omega)) K62 K64 K66 K68 v61E v63E v65E v67E) (by rw [show h58.1 117 = h.1 117 from funext (fun i => Fh58.1 117 i rfl)]; exact hy1) (by rw [show h58.1 117 = h.1 117 from funext (fun i => Fh58.1 117 i rfl)]; exact hy2)) (fun z169 h170 z169Z z169E p171 => ?_)
                              obtain ⟨eh170, p171⟩ := p171
                              subst eh170
                              have := twR_01 p171
                              have hfl : twR z169 ((FLV h vZ mZ tZ.toNat) ((SR (FLV h vZ mZ tZ.toNat)) (v39Z).toNat) 2) := twR_cg p171 (by show (0 < LM h58 ((SR (FLV h vZ mZ tZ.toNat)) (v39Z).toNat) 2 tZ.toNat - mZ) ↔ 0 < LM h ((SR (FLV h vZ mZ tZ.toNat)) (v39Z).toNat) ((2 : Nat) : Int) tZ.toNat - (if ((2 : Nat) : Int) = vZ then mZ else 0); rw [LM_fr Fh58 rfl, if_pos (by (first | decide +kernel | omega))]; first | done | exact Iff.rfl)
                              refine V_if_eq 103 z169E d_Mod_findCrash_77 (by decide) (fun c172 => ?_) (fun c172 => ?_)
                              ·
                                have hs9 : (SR (FLV h vZ mZ tZ.toNat)) ((v39Z).toNat + 1) 2 → (SR (FLV h vZ mZ tZ.toNat)) (v39Z).toNat 2 := fun q => q.elim id (fun w => absurd w.2 (hfl.resolve_left (fun q => absurd q.1 (by (first | decide +kernel | omega)))).2)
                                have hq9 : HS (SR (FLV h vZ mZ tZ.toNat)) 2 ((v39Z).toNat + 1) v65Z 0 := HS_n hH9 hs9
                                refine V_iinc (v := 3) 5 [some (.ref 116), some (.int v), some (.int m), some (.int v55), some (.int v56), some (.int 3)] d_Mod_findCrash_103 rfl (by decide) (by decide) rfl rfl ?_
                                refine V_goto 44 d_Mod_findCrash_106 (by decide) ?_
                                exact ihL53 v55 v55Z v56 v56Z 3 3 h58 v61 v61Z v63 v63Z v65 v65Z v67 v67Z v55E v56E tc_3 Ih58 Fh58 K59 K60 v61E K62 v63E K64 v65E K66 v67E K68 (by (first | decide +kernel | omega)) (by (first | decide +kernel | omega)) (zc_b _) (zc_b _) (zc_b _) (zc_b _) (by (first | decide +kernel | omega)) (FW_s2 hF9 hq9) (SB_n (k := 2) hB9 (by decide) hs9) (ON_n (k := 2) hO9 (by decide) hs9) (by (first | decide +kernel | omega))
                              ·
                                have hg9 : (SR (FLV h vZ mZ tZ.toNat)) ((v39Z).toNat + 1) 2 := Or.inr ⟨by decide, (hfl.resolve_right (fun q => absurd q.1 (by (first | decide +kernel | omega)))).2⟩
                                have hn9 : ¬ (SR (FLV h vZ mZ tZ.toNat)) (v39Z).toNat 2 := HS_out hH9 (by (first | decide +kernel | omega))
                                refine V_aload_n 0 d_Mod_findCrash_80 rfl rfl ?_
                                refine V_getR fa_Mod_38 sk_116 rfl d_Mod_findCrash_81 ?_
                                refine V_iload d_Mod_findCrash_84 rfl ?_
                                refine V_aload_n 0 d_Mod_findCrash_86 rfl rfl ?_
                                refine N_getK fa_Mod_305 sk_116 rfl d_Mod_findCrash_87 K59 ?_
                                refine V_iconst 1 d_Mod_findCrash_90 (by decide) ?_
                                refine V_iadd v39E tc_1 (by (first | decide +kernel | omega)) d_Mod_findCrash_91 (fun z174 z174e z174E => ?_)
                                refine N_iast sk_126 tc_2 (by (first | decide +kernel | omega)) d_Mod_findCrash_92 (fun h175 eh175 => ?_)
                                have hI176 : Inv h175 := inv_full Ih58 eh175 rfl
                                have f177 : fr S_Mod_findCrashX h h175 := fr_put Fh58 eh175 rfl
                                have zy := zc_n (x := (v39Z + 1)) (by (first | decide +kernel | omega))
                                refine V_iload_n 3 d_Mod_findCrash_93 rfl rfl ?_
                                refine V_iconst 1 d_Mod_findCrash_94 (by decide) ?_
                                refine V_iload d_Mod_findCrash_95 rfl ?_
                                refine N_ishl d_Mod_findCrash_97 (fun z178 z178Z z178E z178e => ?_)
                                refine N_ior d_Mod_findCrash_98 (fun z179 z179Z z179E z179e => ?_)
                                refine V_istore_n 3 [some (.ref 116), some (.int v), some (.int m), some (.int z179), some (.int v56), some (.int 2)] d_Mod_findCrash_99 rfl (by decide) rfl rfl ?_
                                refine V_iconst 1 d_Mod_findCrash_100 (by decide) ?_
                                refine V_istore 4 [some (.ref 116), some (.int v), some (.int m), some (.int z179), some (.int 1), some (.int 2)] d_Mod_findCrash_101 (by decide) rfl rfl ?_
                                have hq9 : HS (SR (FLV h vZ mZ tZ.toNat)) 2 ((v39Z).toNat + 1) ((v39Z + 1)) 0 := by have q9 := HS_g (fl := (FLV h vZ mZ tZ.toNat)) (none := 0) hg9 hn9; rw [show (((v39Z).toNat : Nat) : Int) + 1 = (v39Z + 1) by (first | decide +kernel | omega)] at q9; exact q9
                                refine V_iinc (v := 3) 5 [some (.ref 116), some (.int v), some (.int m), some (.int z179), some (.int 1), some (.int 3)] d_Mod_findCrash_103 rfl (by decide) (by decide) rfl rfl ?_
                                refine V_goto 44 d_Mod_findCrash_106 (by decide) ?_
                                exact ihL53 z179 z179Z 1 1 3 3 h175 v61 v61Z v63 v63Z z174 ((v39Z + 1)) v67 v67Z z179E tc_1 tc_3 hI176 f177 (kn_ne eh175 K59 (by decide)) (kn_ne eh175 K60 (by decide)) v61E (kn_nei eh175 K62 (by decide)) v63E (kn_nei eh175 K64 (by decide)) z174E (kn_put eh175) v67E (kn_nei eh175 K68 (by decide)) (by (first | decide +kernel | omega)) (by (first | decide +kernel | omega)) (zc_b _) (zc_b _) (zc_b _) (zc_b _) (by (first | decide +kernel | omega)) (FW_s2 hF9 hq9) (SB_g (k := 2) hB9 rfl (by decide) hg9 z178e z179e) (ON_g (k := 2) hg9 hn9) (by (first | decide +kernel | omega))
                        ·
                          obtain rfl : v57 = 3 := (ti_eq v57E tc_3).mpr c96
                          subst c96
                          have hF9 : FW (SR (FLV h vZ mZ tZ.toNat)) (v39Z).toNat 3 v61Z v63Z v65Z v67Z := by assumption
                          have hB9 : BP v55 (SB (SR (FLV h vZ mZ tZ.toNat)) (v39Z).toNat 3) := by assumption
                          have hO9 : ON (SR (FLV h vZ mZ tZ.toNat)) (v39Z).toNat 3 v56Z := by assumption
                          have hH9 : HS (SR (FLV h vZ mZ tZ.toNat)) 3 (v39Z).toNat v67Z 0 := W0_at hF9.2.2.2 (by decide)
                          refine V_aload_n 0 d_Mod_findCrash_50 rfl rfl ?_
                          refine V_getR fa_Mod_38 sk_116 rfl d_Mod_findCrash_51 ?_
                          refine V_iload d_Mod_findCrash_54 rfl ?_
                          refine N_ialdK sk_126 tc_3 (by (first | decide +kernel | omega)) d_Mod_findCrash_56 K68 ?_
                          refine V_if_ne 103 v67E d_Mod_findCrash_57 (by decide) (fun c182 => ?_) (fun c182 => ?_)
                          ·
                            have hs9 : (SR (FLV h vZ mZ tZ.toNat)) ((v39Z).toNat + 1) 3 → (SR (FLV h vZ mZ tZ.toNat)) (v39Z).toNat 3 := fun _ => HS_in hH9 (by (first | decide +kernel | omega))
                            have hq9 : HS (SR (FLV h vZ mZ tZ.toNat)) 3 ((v39Z).toNat + 1) v67Z 0 := HS_n hH9 hs9
                            refine V_iinc (v := 4) 5 [some (.ref 116), some (.int v), some (.int m), some (.int v55), some (.int v56), some (.int 4)] d_Mod_findCrash_103 rfl (by decide) (by decide) rfl rfl ?_
                            refine V_goto 44 d_Mod_findCrash_106 (by decide) ?_
                            exact ihL53 v55 v55Z v56 v56Z 4 4 h58 v61 v61Z v63 v63Z v65 v65Z v67 v67Z v55E v56E tc_4 Ih58 Fh58 K59 K60 v61E K62 v63E K64 v65E K66 v67E K68 (by (first | decide +kernel | omega)) (by (first | decide +kernel | omega)) (zc_b _) (zc_b _) (zc_b _) (zc_b _) (by (first | decide +kernel | omega)) (FW_s3 hF9 hq9) (SB_n (k := 3) hB9 (by decide) hs9) (ON_n (k := 3) hO9 (by decide) hs9) (by (first | decide +kernel | omega))
                          ·
                            have zz := zc_0 (x := v67Z) (by (first | decide +kernel | omega))
                            refine V_aload_n 0 d_Mod_findCrash_60 rfl rfl ?_
                            refine V_iload d_Mod_findCrash_61 rfl ?_
                            refine V_iload d_Mod_findCrash_63 rfl ?_
                            refine V_iload_n 1 d_Mod_findCrash_65 rfl rfl ?_
                            refine V_icmp_ne 73 tc_3 vE d_Mod_findCrash_66 (by decide) (fun c184 => ?_) (fun c184 => ?_)
                            ·
                              refine V_iconst 0 d_Mod_findCrash_73 (by decide) ?_
                              refine N_callVI [.int 3, .int 0] [] cv_Mod_308 sk_116 rfl d_Mod_findCrash_74 rfl (Nat.le_of_ble_eq_true rfl) (by decide) (by decide) (c_Mod_failsX h58 ((SR (FLV h vZ mZ tZ.toNat)) (v39Z).toNat) Ih58 3 3 tc_3 0 0 tc_0 v39 v39Z v39E K59 t tZ tE K60 (by (first | decide +kernel | omega)) (by (first | decide +kernel | omega)) (FW_F hF9 (by (first | decide +kernel | omega)) K62 K64 K66 K68 v61E v63E v65E v67E) (by rw [show h58.1 117 = h.1 117 from funext (fun i => Fh58.1 117 i rfl)]; exact hy1) (by rw [show h58.1 117 = h.1 117 from funext (fun i => Fh58.1 117 i rfl)]; exact hy2)) (fun z185 h186 z185Z z185E p187 => ?_)
                              obtain ⟨eh186, p187⟩ := p187
                              subst eh186
                              have := twR_01 p187
                              have hfl : twR z185 ((FLV h vZ mZ tZ.toNat) ((SR (FLV h vZ mZ tZ.toNat)) (v39Z).toNat) 3) := twR_cg p187 (by show (0 < LM h58 ((SR (FLV h vZ mZ tZ.toNat)) (v39Z).toNat) 3 tZ.toNat - 0) ↔ 0 < LM h ((SR (FLV h vZ mZ tZ.toNat)) (v39Z).toNat) ((3 : Nat) : Int) tZ.toNat - (if ((3 : Nat) : Int) = vZ then mZ else 0); rw [LM_fr Fh58 rfl, if_neg (by (first | decide +kernel | omega))]; first | done | exact Iff.rfl)
                              refine V_if_eq 103 z185E d_Mod_findCrash_77 (by decide) (fun c188 => ?_) (fun c188 => ?_)
                              ·
                                have hs9 : (SR (FLV h vZ mZ tZ.toNat)) ((v39Z).toNat + 1) 3 → (SR (FLV h vZ mZ tZ.toNat)) (v39Z).toNat 3 := fun q => q.elim id (fun w => absurd w.2 (hfl.resolve_left (fun q => absurd q.1 (by (first | decide +kernel | omega)))).2)
                                have hq9 : HS (SR (FLV h vZ mZ tZ.toNat)) 3 ((v39Z).toNat + 1) v67Z 0 := HS_n hH9 hs9
                                refine V_iinc (v := 4) 5 [some (.ref 116), some (.int v), some (.int m), some (.int v55), some (.int v56), some (.int 4)] d_Mod_findCrash_103 rfl (by decide) (by decide) rfl rfl ?_
                                refine V_goto 44 d_Mod_findCrash_106 (by decide) ?_
                                exact ihL53 v55 v55Z v56 v56Z 4 4 h58 v61 v61Z v63 v63Z v65 v65Z v67 v67Z v55E v56E tc_4 Ih58 Fh58 K59 K60 v61E K62 v63E K64 v65E K66 v67E K68 (by (first | decide +kernel | omega)) (by (first | decide +kernel | omega)) (zc_b _) (zc_b _) (zc_b _) (zc_b _) (by (first | decide +kernel | omega)) (FW_s3 hF9 hq9) (SB_n (k := 3) hB9 (by decide) hs9) (ON_n (k := 3) hO9 (by decide) hs9) (by (first | decide +kernel | omega))
                              ·
                                have hg9 : (SR (FLV h vZ mZ tZ.toNat)) ((v39Z).toNat + 1) 3 := Or.inr ⟨by decide, (hfl.resolve_right (fun q => absurd q.1 (by (first | decide +kernel | omega)))).2⟩
                                have hn9 : ¬ (SR (FLV h vZ mZ tZ.toNat)) (v39Z).toNat 3 := HS_out hH9 (by (first | decide +kernel | omega))
                                refine V_aload_n 0 d_Mod_findCrash_80 rfl rfl ?_
                                refine V_getR fa_Mod_38 sk_116 rfl d_Mod_findCrash_81 ?_
                                refine V_iload d_Mod_findCrash_84 rfl ?_
                                refine V_aload_n 0 d_Mod_findCrash_86 rfl rfl ?_
                                refine N_getK fa_Mod_305 sk_116 rfl d_Mod_findCrash_87 K59 ?_
                                refine V_iconst 1 d_Mod_findCrash_90 (by decide) ?_
                                refine V_iadd v39E tc_1 (by (first | decide +kernel | omega)) d_Mod_findCrash_91 (fun z190 z190e z190E => ?_)
                                refine N_iast sk_126 tc_3 (by (first | decide +kernel | omega)) d_Mod_findCrash_92 (fun h191 eh191 => ?_)
                                have hI192 : Inv h191 := inv_full Ih58 eh191 rfl
                                have f193 : fr S_Mod_findCrashX h h191 := fr_put Fh58 eh191 rfl
                                have zy := zc_n (x := (v39Z + 1)) (by (first | decide +kernel | omega))
                                refine V_iload_n 3 d_Mod_findCrash_93 rfl rfl ?_
                                refine V_iconst 1 d_Mod_findCrash_94 (by decide) ?_
                                refine V_iload d_Mod_findCrash_95 rfl ?_
                                refine N_ishl d_Mod_findCrash_97 (fun z194 z194Z z194E z194e => ?_)
                                refine N_ior d_Mod_findCrash_98 (fun z195 z195Z z195E z195e => ?_)
                                refine V_istore_n 3 [some (.ref 116), some (.int v), some (.int m), some (.int z195), some (.int v56), some (.int 3)] d_Mod_findCrash_99 rfl (by decide) rfl rfl ?_
                                refine V_iconst 1 d_Mod_findCrash_100 (by decide) ?_
                                refine V_istore 4 [some (.ref 116), some (.int v), some (.int m), some (.int z195), some (.int 1), some (.int 3)] d_Mod_findCrash_101 (by decide) rfl rfl ?_
                                have hq9 : HS (SR (FLV h vZ mZ tZ.toNat)) 3 ((v39Z).toNat + 1) ((v39Z + 1)) 0 := by have q9 := HS_g (fl := (FLV h vZ mZ tZ.toNat)) (none := 0) hg9 hn9; rw [show (((v39Z).toNat : Nat) : Int) + 1 = (v39Z + 1) by (first | decide +kernel | omega)] at q9; exact q9
                                refine V_iinc (v := 4) 5 [some (.ref 116), some (.int v), some (.int m), some (.int z195), some (.int 1), some (.int 4)] d_Mod_findCrash_103 rfl (by decide) (by decide) rfl rfl ?_
                                refine V_goto 44 d_Mod_findCrash_106 (by decide) ?_
                                exact ihL53 z195 z195Z 1 1 4 4 h191 v61 v61Z v63 v63Z v65 v65Z z190 ((v39Z + 1)) z195E tc_1 tc_4 hI192 f193 (kn_ne eh191 K59 (by decide)) (kn_ne eh191 K60 (by decide)) v61E (kn_nei eh191 K62 (by decide)) v63E (kn_nei eh191 K64 (by decide)) v65E (kn_nei eh191 K66 (by decide)) z190E (kn_put eh191) (by (first | decide +kernel | omega)) (by (first | decide +kernel | omega)) (zc_b _) (zc_b _) (zc_b _) (zc_b _) (by (first | decide +kernel | omega)) (FW_s3 hF9 hq9) (SB_g (k := 3) hB9 rfl (by decide) hg9 z194e z195e) (ON_g (k := 3) hg9 hn9) (by (first | decide +kernel | omega))
                            ·
                              refine V_iload_n 2 d_Mod_findCrash_69 rfl rfl ?_
                              refine V_goto 74 d_Mod_findCrash_70 (by decide) ?_
                              refine N_callVI [.int 3, .int m] [] cv_Mod_308 sk_116 rfl d_Mod_findCrash_74 rfl (Nat.le_of_ble_eq_true rfl) (by decide) (by decide) (c_Mod_failsX h58 ((SR (FLV h vZ mZ tZ.toNat)) (v39Z).toNat) Ih58 3 3 tc_3 m mZ mE v39 v39Z v39E K59 t tZ tE K60 (by (first | decide +kernel | omega)) (by (first | decide +kernel | omega)) (FW_F hF9 (by (first | decide +kernel | omega)) K62 K64 K66 K68 v61E v63E v65E v67E) (by rw [show h58.1 117 = h.1 117 from funext (fun i => Fh58.1 117 i rfl)]; exact hy1) (by rw [show h58.1 117 = h.1 117 from funext (fun i => Fh58.1 117 i rfl)]; exact hy2)) (fun z197 h198 z197Z z197E p199 => ?_)
                              obtain ⟨eh198, p199⟩ := p199
                              subst eh198
                              have := twR_01 p199
                              have hfl : twR z197 ((FLV h vZ mZ tZ.toNat) ((SR (FLV h vZ mZ tZ.toNat)) (v39Z).toNat) 3) := twR_cg p199 (by show (0 < LM h58 ((SR (FLV h vZ mZ tZ.toNat)) (v39Z).toNat) 3 tZ.toNat - mZ) ↔ 0 < LM h ((SR (FLV h vZ mZ tZ.toNat)) (v39Z).toNat) ((3 : Nat) : Int) tZ.toNat - (if ((3 : Nat) : Int) = vZ then mZ else 0); rw [LM_fr Fh58 rfl, if_pos (by (first | decide +kernel | omega))]; first | done | exact Iff.rfl)
                              refine V_if_eq 103 z197E d_Mod_findCrash_77 (by decide) (fun c200 => ?_) (fun c200 => ?_)
                              ·
                                have hs9 : (SR (FLV h vZ mZ tZ.toNat)) ((v39Z).toNat + 1) 3 → (SR (FLV h vZ mZ tZ.toNat)) (v39Z).toNat 3 := fun q => q.elim id (fun w => absurd w.2 (hfl.resolve_left (fun q => absurd q.1 (by (first | decide +kernel | omega)))).2)
                                have hq9 : HS (SR (FLV h vZ mZ tZ.toNat)) 3 ((v39Z).toNat + 1) v67Z 0 := HS_n hH9 hs9
                                refine V_iinc (v := 4) 5 [some (.ref 116), some (.int v), some (.int m), some (.int v55), some (.int v56), some (.int 4)] d_Mod_findCrash_103 rfl (by decide) (by decide) rfl rfl ?_
                                refine V_goto 44 d_Mod_findCrash_106 (by decide) ?_
                                exact ihL53 v55 v55Z v56 v56Z 4 4 h58 v61 v61Z v63 v63Z v65 v65Z v67 v67Z v55E v56E tc_4 Ih58 Fh58 K59 K60 v61E K62 v63E K64 v65E K66 v67E K68 (by (first | decide +kernel | omega)) (by (first | decide +kernel | omega)) (zc_b _) (zc_b _) (zc_b _) (zc_b _) (by (first | decide +kernel | omega)) (FW_s3 hF9 hq9) (SB_n (k := 3) hB9 (by decide) hs9) (ON_n (k := 3) hO9 (by decide) hs9) (by (first | decide +kernel | omega))
                              ·
                                have hg9 : (SR (FLV h vZ mZ tZ.toNat)) ((v39Z).toNat + 1) 3 := Or.inr ⟨by decide, (hfl.resolve_right (fun q => absurd q.1 (by (first | decide +kernel | omega)))).2⟩
                                have hn9 : ¬ (SR (FLV h vZ mZ tZ.toNat)) (v39Z).toNat 3 := HS_out hH9 (by (first | decide +kernel | omega))
                                refine V_aload_n 0 d_Mod_findCrash_80 rfl rfl ?_
                                refine V_getR fa_Mod_38 sk_116 rfl d_Mod_findCrash_81 ?_
                                refine V_iload d_Mod_findCrash_84 rfl ?_
                                refine V_aload_n 0 d_Mod_findCrash_86 rfl rfl ?_
                                refine N_getK fa_Mod_305 sk_116 rfl d_Mod_findCrash_87 K59 ?_
                                refine V_iconst 1 d_Mod_findCrash_90 (by decide) ?_
                                refine V_iadd v39E tc_1 (by (first | decide +kernel | omega)) d_Mod_findCrash_91 (fun z202 z202e z202E => ?_)
                                refine N_iast sk_126 tc_3 (by (first | decide +kernel | omega)) d_Mod_findCrash_92 (fun h203 eh203 => ?_)
                                have hI204 : Inv h203 := inv_full Ih58 eh203 rfl
                                have f205 : fr S_Mod_findCrashX h h203 := fr_put Fh58 eh203 rfl
                                have zy := zc_n (x := (v39Z + 1)) (by (first | decide +kernel | omega))
                                refine V_iload_n 3 d_Mod_findCrash_93 rfl rfl ?_
                                refine V_iconst 1 d_Mod_findCrash_94 (by decide) ?_
                                refine V_iload d_Mod_findCrash_95 rfl ?_
                                refine N_ishl d_Mod_findCrash_97 (fun z206 z206Z z206E z206e => ?_)
                                refine N_ior d_Mod_findCrash_98 (fun z207 z207Z z207E z207e => ?_)
                                refine V_istore_n 3 [some (.ref 116), some (.int v), some (.int m), some (.int z207), some (.int v56), some (.int 3)] d_Mod_findCrash_99 rfl (by decide) rfl rfl ?_
                                refine V_iconst 1 d_Mod_findCrash_100 (by decide) ?_
                                refine V_istore 4 [some (.ref 116), some (.int v), some (.int m), some (.int z207), some (.int 1), some (.int 3)] d_Mod_findCrash_101 (by decide) rfl rfl ?_
                                have hq9 : HS (SR (FLV h vZ mZ tZ.toNat)) 3 ((v39Z).toNat + 1) ((v39Z + 1)) 0 := by have q9 := HS_g (fl := (FLV h vZ mZ tZ.toNat)) (none := 0) hg9 hn9; rw [show (((v39Z).toNat : Nat) : Int) + 1 = (v39Z + 1) by (first | decide +kernel | omega)] at q9; exact q9
                                refine V_iinc (v := 4) 5 [some (.ref 116), some (.int v), some (.int m), some (.int z207), some (.int 1), some (.int 4)] d_Mod_findCrash_103 rfl (by decide) (by decide) rfl rfl ?_
                                refine V_goto 44 d_Mod_findCrash_106 (by decide) ?_
                                exact ihL53 z207 z207Z 1 1 4 4 h203 v61 v61Z v63 v63Z v65 v65Z z202 ((v39Z + 1)) z207E tc_1 tc_4 hI204 f205 (kn_ne eh203 K59 (by decide)) (kn_ne eh203 K60 (by decide)) v61E (kn_nei eh203 K62 (by decide)) v63E (kn_nei eh203 K64 (by decide)) v65E (kn_nei eh203 K66 (by decide)) z202E (kn_put eh203) (by (first | decide +kernel | omega)) (by (first | decide +kernel | omega)) (zc_b _) (zc_b _) (zc_b _) (zc_b _) (by (first | decide +kernel | omega)) (FW_s3 hF9 hq9) (SB_g (k := 3) hB9 rfl (by decide) hg9 z206e z207e) (ON_g (k := 3) hg9 hn9) (by (first | decide +kernel | omega))
                  exact L53 (Int.toNat ((4 - 0 : Int) + 1)) v27 v27Z 0 0 0 0 h29 v31 v31Z v33 v33Z v35 v35Z v37 v37Z v27E tc_0 tc_0 Ih29 Fh29 K40 K30 v31E K32 v33E K34 v35E K36 v37E K38 (by (first | decide +kernel | omega)) (by (first | decide +kernel | omega)) (zc_b _) (zc_b _) (zc_b _) (zc_b _) (by (first | decide +kernel | omega)) (by assumption) (SB_0 (by assumption)) ON_0 (by (first | decide +kernel | omega))
            refine V_drop 5 [some (.ref 116), some (.int v), some (.int m), some (.int 0), some (.int 1), none] rfl ?_
            exact L25 (Int.toNat ((zc 0 + zc 0 + zc 0 + zc 0 + 1 : Int) + 1)) 0 0 1 1 h20 0 0 0 0 0 0 0 0 0 0 tc_0 tc_1 hI21 f22 (kn_ne eh20 (kn_ne eh15 (kn_ne eh10 (kn_ne eh5 (kn_ne eh1 tK (by decide)) (by decide)) (by decide)) (by decide)) (by decide)) tc_0 (kn_nei eh20 (kn_nei eh15 (kn_nei eh10 (kn_put eh5) (by decide)) (by decide)) (by decide)) tc_0 (kn_nei eh20 (kn_nei eh15 (kn_put eh10) (by decide)) (by decide)) tc_0 (kn_nei eh20 (kn_put eh15) (by decide)) tc_0 (kn_put eh20) tc_0 (kn_ne eh20 (kn_ne eh15 (kn_ne eh10 (kn_ne eh5 (kn_put eh1) (by decide)) (by decide)) (by decide)) (by decide)) (by (first | decide +kernel | omega)) (zc_b _) (zc_b _) (zc_b _) (zc_b _) (by have z0 := zc_0 (x := 0) rfl; omega) FW_0 (BP_cg BP_0 (fun j => Iff.rfl)) RDs_0 (Or.inl rfl) (by (first | decide +kernel | omega))
          ·
            exact absurd c24 (by decide)
def S_Mod_crashX : List (Nat × Option Nat) := [(126, none), (116, some 30)]
abbrev q_Mod_crashX (h : Hp) (a : Int32) (aZ : Int) (t : Int32) (tZ : Int) : Option Value → Hp → Prop := pInt (fun r h' => Inv h' ∧ fr S_Mod_crashX h h' ∧ (CRa (SR (FLV h (-4) 0 tZ.toNat)) aZ r))
set_option maxRecDepth 100000 in
theorem c_Mod_crashX (h : Hp) (hI : Inv h) (a : Int32) (aZ : Int) (aE : a.toInt = aZ) (t : Int32) (tZ : Int) (tE : t.toInt = tZ) (tK : h.1 117 86 = t) (hy0 : ∀ i : Nat, i < 8 → (i : Int) < (h.1 117 86).toInt → 0 ≤ (h.1 117 (89 + 3 * i)).toInt ∧ (h.1 117 (89 + 3 * i)).toInt ≤ 99) (hy1 : ∀ i : Nat, i < 4 → 0 ≤ (h.1 117 (80 + i)).toInt ∧ (h.1 117 (80 + i)).toInt ≤ 999) : Ct y_Mod_crash b_Mod_crash 3 (some .int) 2 51 [.ref 116, .int a] h (q_Mod_crashX h a aZ t tZ) := by
  refine ct_ow R_Mod [some (.ref 116), some (.int a), none] rfl (by decide) rfl (Nat.le_of_ble_eq_true rfl) ?_
  have f0 : fr S_Mod_crashX h h := fr_rf
  refine V_iload_n 1 d_Mod_crash_0 rfl rfl ?_
  refine V_i2l d_Mod_crash_1 (fun z1 z1e z1E => ?_)
  have z1F : z1.toInt = aZ := z1E.trans aE
  refine V_lconst 0 d_Mod_crash_2 (by decide) ?_
  refine V_lconst 1 d_Mod_crash_3 (by decide) ?_
  refine N_callSI [.long z1, .long 0, .long 1] [] cs_Mod_95 d_Mod_crash_4 rfl (Nat.le_of_ble_eq_true rfl) (by decide) (by decide) (c_Mod_in h z1 aZ z1F 0 0 tl_0 1 1 tl_1) (fun z2 h3 z2Z z2E p4 => ?_)
  obtain ⟨eh3, p4⟩ := p4
  subst eh3
  refine V_if_ne 26 z2E d_Mod_crash_7 (by decide) (fun c5 => ?_) (fun c5 => ?_)
  ·
    refine V_aload_n 0 d_Mod_crash_26 rfl rfl ?_
    refine V_bipush (-4) d_Mod_crash_27 (by decide) ?_
    refine V_iconst 0 d_Mod_crash_29 (by decide) ?_
    refine N_callVI [.int (-4), .int 0] [] cv_Mod_311 sk_116 rfl d_Mod_crash_30 rfl (Nat.le_of_ble_eq_true rfl) (by decide) (by decide) (c_Mod_findCrashX h hI (-4) ((-4)) tc_m4 0 0 tc_0 t tZ tE tK (by (first | decide +kernel | omega)) hy0 hy1) (fun z6 h7 z6Z z6E p8 => ?_)
    obtain ⟨hI9, fh7, p8⟩ := p8
    have f10 : fr S_Mod_crashX h h7 := fr_call f0 fh7 rfl
    obtain ⟨R, hb, hd, he, hq, hw⟩ := p8
    refine V_istore_n 2 [some (.ref 116), some (.int a), some (.int z6)] d_Mod_crash_33 rfl (by decide) rfl rfl ?_
    refine V_iload_n 1 d_Mod_crash_34 rfl rfl ?_
    refine V_if_ne 42 aE d_Mod_crash_35 (by decide) (fun c11 => ?_) (fun c11 => ?_)
    ·
      refine V_iload_n 1 d_Mod_crash_42 rfl rfl ?_
      refine V_iconst 1 d_Mod_crash_43 (by decide) ?_
      refine V_icmp_ne 54 aE tc_1 d_Mod_crash_44 (by decide) (fun c12 => ?_) (fun c12 => ?_)
      ·
        refine V_aload_n 0 d_Mod_crash_54 rfl rfl ?_
        refine V_getR fa_Mod_38 sk_116 rfl d_Mod_crash_55 ?_
        refine V_iload_n 1 d_Mod_crash_58 rfl rfl ?_
        refine V_bipush 10 d_Mod_crash_59 (by decide) ?_
        refine V_isub aE tc_10 (by (first | decide +kernel | omega)) d_Mod_crash_61 (fun z13 z13e z13E => ?_)
        refine N_iald sk_126 z13E (by (first | decide +kernel | omega)) d_Mod_crash_62 (fun z14 z14Z z14E z14e => ?_)
        refine V_if_ne 71 z14E d_Mod_crash_63 (by decide) (fun c15 => ?_) (fun c15 => ?_)
        ·
          refine V_aload_n 0 d_Mod_crash_71 rfl rfl ?_
          refine V_getR fa_Mod_38 sk_116 rfl d_Mod_crash_72 ?_
          refine V_iload_n 1 d_Mod_crash_75 rfl rfl ?_
          refine V_bipush 10 d_Mod_crash_76 (by decide) ?_
          refine V_isub aE tc_10 (by (first | decide +kernel | omega)) d_Mod_crash_78 (fun z16 z16e z16E => ?_)
          refine N_iald sk_126 z16E (by (first | decide +kernel | omega)) d_Mod_crash_79 (fun z17 z17Z z17E z17e => ?_)
          have g18 : z17Z = z14Z := by rw [← z17E, ← z14E, z17e, z14e]
          exact V_iret rfl d_Mod_crash_80 ⟨z17, rfl, ⟨hI9, f10, (Or.inl ⟨by (first | decide +kernel | omega), R, ⟨(R : Int), hd, fun q => (by (first | decide +kernel | omega))⟩, he, fun q => (by (first | decide +kernel | omega)), fun q => HS_no (hw (aZ - 10).toNat (by (first | decide +kernel | omega))) (Or.inr ⟨by rw [← z14e, z14E]; omega, by rw [z17e]⟩)⟩)⟩⟩
        ·
          refine V_bipush (-4) d_Mod_crash_66 (by decide) ?_
          refine V_goto 80 d_Mod_crash_68 (by decide) ?_
          exact V_iret rfl d_Mod_crash_80 ⟨(-4), rfl, ⟨hI9, f10, (Or.inl ⟨by (first | decide +kernel | omega), R, ⟨(R : Int), hd, fun q => (by (first | decide +kernel | omega))⟩, he, fun q => (by (first | decide +kernel | omega)), fun q => HS_no (hw (aZ - 10).toNat (by (first | decide +kernel | omega))) (Or.inl ⟨by rw [← z14e, z14E]; omega, tc_m4⟩)⟩)⟩⟩
      ·
        refine V_aload_n 0 d_Mod_crash_47 rfl rfl ?_
        refine N_getI fa_Mod_305 sk_116 rfl d_Mod_crash_48 (fun z19 z19Z z19E z19e => ?_)
        refine V_goto 80 d_Mod_crash_51 (by decide) ?_
        exact V_iret rfl d_Mod_crash_80 ⟨z19, rfl, ⟨hI9, f10, (Or.inl ⟨by (first | decide +kernel | omega), R, ⟨(R : Int), hd, fun q => (by rw [← hq, show h7.1 116 30 = z19 from z19e.symm])⟩, he, fun q => (by (first | decide +kernel | omega)), fun q => (by (first | decide +kernel | omega))⟩)⟩⟩
    ·
      refine V_iload_n 2 d_Mod_crash_38 rfl rfl ?_
      refine V_goto 80 d_Mod_crash_39 (by decide) ?_
      exact V_iret rfl d_Mod_crash_80 ⟨z6, rfl, ⟨hI9, f10, (Or.inl ⟨by (first | decide +kernel | omega), R, ⟨(R : Int), hd, fun q => (by (first | decide +kernel | omega))⟩, he, fun q => hb, fun q => (by (first | decide +kernel | omega))⟩)⟩⟩
  ·
    refine V_iload_n 1 d_Mod_crash_10 rfl rfl ?_
    refine V_i2l d_Mod_crash_11 (fun z20 z20e z20E => ?_)
    have z20F : z20.toInt = aZ := z20E.trans aE
    refine V_ldc2 d_Mod_crash_12 wl_Mod_213 ?_
    refine V_ldc2 d_Mod_crash_15 wl_Mod_275 ?_
    refine N_callSI [.long z20, .long 10, .long 13] [] cs_Mod_95 d_Mod_crash_18 rfl (Nat.le_of_ble_eq_true rfl) (by decide) (by decide) (c_Mod_in h z20 aZ z20F 10 10 tl_10 13 13 tl_13) (fun z21 h22 z21Z z21E p23 => ?_)
    obtain ⟨eh22, p23⟩ := p23
    subst eh22
    refine V_if_ne 26 z21E d_Mod_crash_21 (by decide) (fun c24 => ?_) (fun c24 => ?_)
    ·
      refine V_aload_n 0 d_Mod_crash_26 rfl rfl ?_
      refine V_bipush (-4) d_Mod_crash_27 (by decide) ?_
      refine V_iconst 0 d_Mod_crash_29 (by decide) ?_
      refine N_callVI [.int (-4), .int 0] [] cv_Mod_311 sk_116 rfl d_Mod_crash_30 rfl (Nat.le_of_ble_eq_true rfl) (by decide) (by decide) (c_Mod_findCrashX h hI (-4) ((-4)) tc_m4 0 0 tc_0 t tZ tE tK (by (first | decide +kernel | omega)) hy0 hy1) (fun z25 h26 z25Z z25E p27 => ?_)
      obtain ⟨hI28, fh26, p27⟩ := p27
      have f29 : fr S_Mod_crashX h h26 := fr_call f0 fh26 rfl
      obtain ⟨R, hb, hd, he, hq, hw⟩ := p27
      refine V_istore_n 2 [some (.ref 116), some (.int a), some (.int z25)] d_Mod_crash_33 rfl (by decide) rfl rfl ?_
      refine V_iload_n 1 d_Mod_crash_34 rfl rfl ?_
      refine V_if_ne 42 aE d_Mod_crash_35 (by decide) (fun c30 => ?_) (fun c30 => ?_)
      ·
        refine V_iload_n 1 d_Mod_crash_42 rfl rfl ?_
        refine V_iconst 1 d_Mod_crash_43 (by decide) ?_
        refine V_icmp_ne 54 aE tc_1 d_Mod_crash_44 (by decide) (fun c31 => ?_) (fun c31 => ?_)
        ·
          refine V_aload_n 0 d_Mod_crash_54 rfl rfl ?_
          refine V_getR fa_Mod_38 sk_116 rfl d_Mod_crash_55 ?_
          refine V_iload_n 1 d_Mod_crash_58 rfl rfl ?_
          refine V_bipush 10 d_Mod_crash_59 (by decide) ?_
          refine V_isub aE tc_10 (by (first | decide +kernel | omega)) d_Mod_crash_61 (fun z32 z32e z32E => ?_)
          refine N_iald sk_126 z32E (by (first | decide +kernel | omega)) d_Mod_crash_62 (fun z33 z33Z z33E z33e => ?_)
          refine V_if_ne 71 z33E d_Mod_crash_63 (by decide) (fun c34 => ?_) (fun c34 => ?_)
          ·
            refine V_aload_n 0 d_Mod_crash_71 rfl rfl ?_
            refine V_getR fa_Mod_38 sk_116 rfl d_Mod_crash_72 ?_
            refine V_iload_n 1 d_Mod_crash_75 rfl rfl ?_
            refine V_bipush 10 d_Mod_crash_76 (by decide) ?_
            refine V_isub aE tc_10 (by (first | decide +kernel | omega)) d_Mod_crash_78 (fun z35 z35e z35E => ?_)
            refine N_iald sk_126 z35E (by (first | decide +kernel | omega)) d_Mod_crash_79 (fun z36 z36Z z36E z36e => ?_)
            have g37 : z36Z = z33Z := by rw [← z36E, ← z33E, z36e, z33e]
            exact V_iret rfl d_Mod_crash_80 ⟨z36, rfl, ⟨hI28, f29, (Or.inl ⟨by (first | decide +kernel | omega), R, ⟨(R : Int), hd, fun q => (by (first | decide +kernel | omega))⟩, he, fun q => (by (first | decide +kernel | omega)), fun q => HS_no (hw (aZ - 10).toNat (by (first | decide +kernel | omega))) (Or.inr ⟨by rw [← z33e, z33E]; omega, by rw [z36e]⟩)⟩)⟩⟩
          ·
            refine V_bipush (-4) d_Mod_crash_66 (by decide) ?_
            refine V_goto 80 d_Mod_crash_68 (by decide) ?_
            exact V_iret rfl d_Mod_crash_80 ⟨(-4), rfl, ⟨hI28, f29, (Or.inl ⟨by (first | decide +kernel | omega), R, ⟨(R : Int), hd, fun q => (by (first | decide +kernel | omega))⟩, he, fun q => (by (first | decide +kernel | omega)), fun q => HS_no (hw (aZ - 10).toNat (by (first | decide +kernel | omega))) (Or.inl ⟨by rw [← z33e, z33E]; omega, tc_m4⟩)⟩)⟩⟩
        ·
          refine V_aload_n 0 d_Mod_crash_47 rfl rfl ?_
          refine N_getI fa_Mod_305 sk_116 rfl d_Mod_crash_48 (fun z38 z38Z z38E z38e => ?_)
          refine V_goto 80 d_Mod_crash_51 (by decide) ?_
          exact V_iret rfl d_Mod_crash_80 ⟨z38, rfl, ⟨hI28, f29, (Or.inl ⟨by (first | decide +kernel | omega), R, ⟨(R : Int), hd, fun q => (by rw [← hq, show h26.1 116 30 = z38 from z38e.symm])⟩, he, fun q => (by (first | decide +kernel | omega)), fun q => (by (first | decide +kernel | omega))⟩)⟩⟩
      ·
        refine V_iload_n 2 d_Mod_crash_38 rfl rfl ?_
        refine V_goto 80 d_Mod_crash_39 (by decide) ?_
        exact V_iret rfl d_Mod_crash_80 ⟨z25, rfl, ⟨hI28, f29, (Or.inl ⟨by (first | decide +kernel | omega), R, ⟨(R : Int), hd, fun q => (by (first | decide +kernel | omega))⟩, he, fun q => hb, fun q => (by (first | decide +kernel | omega))⟩)⟩⟩
    ·
      refine V_iconst (-1) d_Mod_crash_24 (by decide) ?_
      exact V_iret rfl d_Mod_crash_25 ⟨(-1), rfl, ⟨hI, f0, (Or.inr ⟨by (first | decide +kernel | omega), tc_m1⟩)⟩⟩
def S_Mod_saveX : List (Nat × Option Nat) := [(126, none), (116, some 30)]
abbrev q_Mod_saveX (h : Hp) (o : Int32) (oZ : Int) (t : Int32) (tZ : Int) : Option Value → Hp → Prop := pInt (fun r h' => Inv h' ∧ fr S_Mod_saveX h h' ∧ ((0 ≤ oZ ∧ oZ ≤ 3) ∧ SVm (fun j => LM h (fun _ => False) j tZ.toNat) oZ r ∨ ¬ (0 ≤ oZ ∧ oZ ≤ 3) ∧ r.toInt = -1))
set_option maxRecDepth 100000 in
theorem c_Mod_saveX (h : Hp) (hI : Inv h) (o : Int32) (oZ : Int) (oE : o.toInt = oZ) (t : Int32) (tZ : Int) (tE : t.toInt = tZ) (tK : h.1 117 86 = t) (hy0 : ∀ i : Nat, i < 8 → (i : Int) < (h.1 117 86).toInt → 0 ≤ (h.1 117 (89 + 3 * i)).toInt ∧ (h.1 117 (89 + 3 * i)).toInt ≤ 99) (hy1 : ∀ i : Nat, i < 4 → 0 ≤ (h.1 117 (80 + i)).toInt ∧ (h.1 117 (80 + i)).toInt ≤ 999) : Ct y_Mod_save b_Mod_save 3 (some .int) 2 51 [.ref 116, .int o] h (q_Mod_saveX h o oZ t tZ) := by
  refine ct_ow R_Mod [some (.ref 116), some (.int o), none] rfl (by decide) rfl (Nat.le_of_ble_eq_true rfl) ?_
  have f0 : fr S_Mod_saveX h h := fr_rf
  refine V_iload_n 1 d_Mod_save_0 rfl rfl ?_
  refine N_callSI [.int o] [] cs_Mod_205 d_Mod_save_1 rfl (Nat.le_of_ble_eq_true rfl) (by decide) (by decide) (c_Mod_isOwner h o oZ oE) (fun z1 h2 z1Z z1E p3 => ?_)
  obtain ⟨eh2, p3⟩ := p3
  subst eh2
  refine V_if_ne 9 z1E d_Mod_save_4 (by decide) (fun c4 => ?_) (fun c4 => ?_)
  ·
    refine V_iconst 0 d_Mod_save_9 (by decide) ?_
    refine V_istore_n 2 [some (.ref 116), some (.int o), some (.int 0)] d_Mod_save_10 rfl (by decide) rfl rfl ?_
    have L5 : ∀ (nn : Nat) (v7 : Int32) (v7Z : Int) (h8 : Hp), v7.toInt = v7Z → Inv h8 → fr S_Mod_saveX h h8 → h8.1 117 86 = t → 0 ≤ v7Z ∧ v7Z ≤ 1000 → (∀ u : Int, 0 ≤ u → u < v7Z → ¬ OKs (fun j => LM h (fun _ => False) j tZ.toNat) oZ u) → 1000 - v7Z < (nn : Int) → V R_Mod b_Mod_save 3 (some .int) 2 51 (q_Mod_saveX h o oZ t tZ) h8 11 [some (.ref 116), some (.int o), some (.int v7)] [] := by
      intro nn
      induction nn with
      | zero => intro v7 v7Z h8 v7E Ih8 Fh8 K9 q10 q11 hm12; exact absurd hm12 (by (first | decide +kernel | omega))
      | succ nn ihL5 =>
        intro v7 v7Z h8 v7E Ih8 Fh8 K9 q10 q11 hm12
        refine V_iload_n 2 d_Mod_save_11 rfl rfl ?_
        refine V_sipush 999 d_Mod_save_12 (by decide) ?_
        refine V_icmp_gt 35 v7E tc_999 d_Mod_save_15 (by decide) (fun c13 => ?_) (fun c13 => ?_)
        ·
          refine V_bipush (-4) d_Mod_save_35 (by decide) ?_
          exact V_iret rfl d_Mod_save_37 ⟨(-4), rfl, ⟨Ih8, Fh8, (Or.inl ⟨by (first | decide +kernel | omega), Or.inr ⟨fun u a b => (show ∀ u : Int, 0 ≤ u → u < v7Z → ¬ OKs (fun j => LM h (fun _ => False) j tZ.toNat) oZ u from by assumption) u a (by (first | decide +kernel | omega)), tc_m4⟩⟩)⟩⟩
        ·
          refine V_aload_n 0 d_Mod_save_18 rfl rfl ?_
          refine V_iload_n 1 d_Mod_save_19 rfl rfl ?_
          refine V_iload_n 2 d_Mod_save_20 rfl rfl ?_
          refine N_callVI [.int o, .int v7] [] cv_Mod_311 sk_116 rfl d_Mod_save_21 rfl (Nat.le_of_ble_eq_true rfl) (by decide) (by decide) (c_Mod_findCrashX h8 Ih8 o oZ oE v7 v7Z v7E t tZ tE K9 (by (first | decide +kernel | omega)) (by rw [show h8.1 117 = h.1 117 from funext (fun i => Fh8.1 117 i rfl)]; exact hy0) (by rw [show h8.1 117 = h.1 117 from funext (fun i => Fh8.1 117 i rfl)]; exact hy1)) (fun z14 h15 z14Z z14E p16 => ?_)
          obtain ⟨hI17, fh15, p16⟩ := p16
          have f18 : fr S_Mod_saveX h h15 := fr_call Fh8 fh15 rfl
          have hz9 : z14Z = 0 ↔ OKs (fun j => LM h (fun _ => False) j tZ.toNat) oZ v7Z := by rw [← z14E]; have q9 := FC_0 p16; rw [FLV_fr Fh8 rfl] at q9; exact q9
          refine V_if_ne 29 z14E d_Mod_save_24 (by decide) (fun c19 => ?_) (fun c19 => ?_)
          ·
            obtain ⟨z20, z20E, z20e⟩ : ∃ y : Int32, y.toInt = v7Z + 1 ∧ y = v7 + Int32.ofInt 1 := ⟨_, ti_add v7E (by decide) (by (first | decide +kernel | omega)), rfl⟩
            refine V_iinc 2 [some (.ref 116), some (.int o), some (.int z20)] d_Mod_save_29 rfl z20e.symm (by decide) rfl rfl ?_
            refine V_goto 11 d_Mod_save_32 (by decide) ?_
            exact ihL5 z20 ((v7Z + 1)) h15 z20E hI17 f18 (kn_call fh15 K9 rfl) (by (first | decide +kernel | omega)) (fun u a b => by by_cases w : u = v7Z; exact (by rw [w]; exact fun q => absurd (hz9.mpr q) (by (first | decide +kernel | omega))); exact (show ∀ u : Int, 0 ≤ u → u < v7Z → ¬ OKs (fun j => LM h (fun _ => False) j tZ.toNat) oZ u from by assumption) u a (by (first | decide +kernel | omega))) (by (first | decide +kernel | omega))
          ·
            refine V_iload_n 2 d_Mod_save_27 rfl rfl ?_
            exact V_iret rfl d_Mod_save_28 ⟨v7, rfl, ⟨hI17, f18, (Or.inl ⟨by (first | decide +kernel | omega), Or.inl ⟨v7Z, by (first | decide +kernel | omega), by (first | decide +kernel | omega), hz9.mp (by (first | decide +kernel | omega)), by assumption, v7E⟩⟩)⟩⟩
    exact L5 (Int.toNat ((1000 - 0 : Int) + 1)) 0 0 h tc_0 hI f0 tK (by (first | decide +kernel | omega)) (fun u a b => by (first | decide +kernel | omega)) (by (first | decide +kernel | omega))
  ·
    refine V_iconst (-1) d_Mod_save_7 (by decide) ?_
    exact V_iret rfl d_Mod_save_8 ⟨(-1), rfl, ⟨hI, f0, (Or.inr ⟨by (first | decide +kernel | omega), tc_m1⟩)⟩⟩
abbrev q_Rod_saveX (h : Hp) (o : Int32) (oZ : Int) (t : Int32) (tZ : Int) : Option Value → Hp → Prop := pInt (fun r h' => h = h' ∧ ((0 ≤ oZ ∧ oZ ≤ 3) ∧ SVc (fun j => LC h (fun _ => False) j tZ.toNat) oZ r ∨ ¬ (0 ≤ oZ ∧ oZ ≤ 3) ∧ r.toInt = -1))
set_option maxRecDepth 100000 in
theorem c_Rod_saveX (h : Hp) (hI : Inv h) (o : Int32) (oZ : Int) (oE : o.toInt = oZ) (t : Int32) (tZ : Int) (tE : t.toInt = tZ) (tK : h.1 7 4 = t) (hy0 : ∀ i : Nat, i < 8 → (i : Int) < (h.1 7 4).toInt → (0 ≤ (h.1 9 i).toInt ∧ (h.1 9 i).toInt ≤ 3) ∧ 0 ≤ (h.1 11 i).toInt ∧ (h.1 11 i).toInt ≤ 99) (hy1 : ∀ i : Nat, i < 4 → 0 ≤ (h.1 8 i).toInt ∧ (h.1 8 i).toInt ≤ 999) : Ct y_Rod_save b_Rod_save 2 (some .int) 2 47 [.ref 85, .int o] h (q_Rod_saveX h o oZ t tZ) := by
  refine ct_ow R_Rod [some (.ref 85), some (.int o)] rfl (by decide) rfl (Nat.le_of_ble_eq_true rfl) ?_
  have f0 : fr [] h h := fr_rf
  have g1 : 0 ≤ tZ ∧ tZ ≤ 8 := inv_at hI tE tK.symm rfl
  refine V_iload_n 1 d_Rod_save_0 rfl rfl ?_
  refine N_callSI [.int o] [] cs_Rod_151 d_Rod_save_1 rfl (Nat.le_of_ble_eq_true rfl) (by decide) (by decide) (c_Rod_isOwner h o oZ oE) (fun z2 h3 z2Z z2E p4 => ?_)
  obtain ⟨eh3, p4⟩ := p4
  subst eh3
  refine V_if_ne 9 z2E d_Rod_save_4 (by decide) (fun c5 => ?_) (fun c5 => ?_)
  ·
    refine V_aload_n 0 d_Rod_save_9 rfl rfl ?_
    refine V_getR fa_Rod_12 sk_85 rfl d_Rod_save_10 ?_
    refine V_getR fa_Rod_115 sk_0 rfl d_Rod_save_13 ?_
    refine V_iconst 0 d_Rod_save_16 (by decide) ?_
    refine N_callVI [.int 0] [] cv_Rod_271 sk_7 rfl d_Rod_save_17 rfl (Nat.le_of_ble_eq_true rfl) (by decide) (by decide) (c_Ledger_failingAfterX_0 h (fun _ => False) hI 0 0 tc_0 t tZ tE tK BP_0 hy0 hy1) (fun z6 h7 z6Z z6E p8 => ?_)
    obtain ⟨eh7, p8⟩ := p8
    subst eh7
    refine V_iconst 1 d_Rod_save_20 (by decide) ?_
    refine V_iload_n 1 d_Rod_save_21 rfl rfl ?_
    refine N_ishl d_Rod_save_22 (fun z9 z9Z z9E z9e => ?_)
    refine V_iconst (-1) d_Rod_save_23 (by decide) ?_
    refine N_ixor d_Rod_save_24 (fun z10 z10Z z10E z10e => ?_)
    refine N_iand d_Rod_save_25 (fun z11 z11Z z11E z11e => ?_)
    have hfl := BP_and p8 (BP_not (BP_one oE (by (first | decide +kernel | omega))))
    rw [← z9e, ← z10e, ← z11e] at hfl
    refine V_if_eq 32 z11E d_Rod_save_26 (by decide) (fun c12 => ?_) (fun c12 => ?_)
    ·
      refine V_iconst 0 d_Rod_save_32 (by decide) ?_
      refine V_aload_n 0 d_Rod_save_33 rfl rfl ?_
      refine V_getR fa_Rod_12 sk_85 rfl d_Rod_save_34 ?_
      refine V_getR fa_Rod_115 sk_0 rfl d_Rod_save_37 ?_
      refine V_iload_n 1 d_Rod_save_40 rfl rfl ?_
      refine V_iconst 0 d_Rod_save_41 (by decide) ?_
      refine N_callVI [.int o, .int 0] [.int 0] cv_Rod_274 sk_7 rfl d_Rod_save_42 rfl (Nat.le_of_ble_eq_true rfl) (by decide) (by decide) (c_Ledger_lackingX_0 h (fun _ => False) hI o oZ oE 0 0 tc_0 t tZ tE tK (by (first | decide +kernel | omega)) BP_0 hy0 hy1) (fun z13 h14 z13Z z13E p15 => ?_)
      obtain ⟨eh14, p15⟩ := p15
      subst eh14
      have hlk : z13Z = LC h (fun _ => False) oZ tZ.toNat := z13E.symm.trans p15.1
      refine N_max tc_0 z13E wm_Rod_211 d_Rod_save_45 (Nat.le_of_ble_eq_true rfl) (by decide) wmax1 wM2 wmax3 (fun z16 z16Z z16E z16e z16g => ?_)
      exact V_iret rfl d_Rod_save_48 ⟨z16, rfl, ⟨rfl, (Or.inl ⟨by (first | decide +kernel | omega), Or.inr ⟨fun j hj hn => Classical.byContradiction (fun n => BP_z hfl z11E (by (first | decide +kernel | omega)) j ⟨⟨hj, by have n2 : ¬ LC h (fun _ => False) (j : Int) tZ.toNat ≤ 0 := n; omega⟩, by (first | decide +kernel | omega), by (first | decide +kernel | omega)⟩), by show 0 < LC h (fun _ => False) oZ tZ.toNat ∧ _ = LC h (fun _ => False) oZ tZ.toNat ∨ LC h (fun _ => False) oZ tZ.toNat ≤ 0 ∧ _ = 0; rw [z16E]; omega⟩⟩)⟩⟩
    ·
      refine V_bipush (-4) d_Rod_save_29 (by decide) ?_
      exact V_iret rfl d_Rod_save_31 ⟨(-4), rfl, ⟨rfl, (Or.inl ⟨by (first | decide +kernel | omega), Or.inl ⟨(BP_nz hfl z11E (by (first | decide +kernel | omega))).elim (fun j q => ⟨j, q.1.1, fun w => q.2.2 (by (first | decide +kernel | omega)), q.1.2⟩), tc_m4⟩⟩)⟩⟩
  ·
    refine V_iconst (-1) d_Rod_save_7 (by decide) ?_
    exact V_iret rfl d_Rod_save_8 ⟨(-1), rfl, ⟨rfl, (Or.inr ⟨by (first | decide +kernel | omega), tc_m1⟩)⟩⟩
end
section
/-! nothing -/
end
section
abbrev Bd : Type := Nat × Nat × Nat
def inB (t : Bd) (j : Nat) : Prop := ∃ k : Nat, k < t.2.2 ∧ j = t.1 + t.2.1 * k
/-- a row of an array holds a list of beds -/
def HL (g : Hp) (p : Nat) (L : List Bd) : Prop := ∀ (i : Nat) (t : Bd), L[i]? = some t → BP (g.1 p i) (inB t)
theorem HL_nil {g : Hp} {p : Nat} : HL g p [] := fun i t h => by cases h
theorem HL_push {g g2 : Hp} {p i : Nat} {L : List Bd} {x : Int32} {t : Bd} (h : HL g p L) (e : g2 = pI g p i x) (hi : i = L.length) (b : BP x (inB t)) : HL g2 p (L ++ [t]) := fun j u q => by
  rw [e, pI_at]
  by_cases w : j < L.length
  · rw [List.getElem?_append_left w] at q
    rw [if_neg (by (first | decide +kernel | omega))]
    exact h j u q
  · rw [List.getElem?_append_right (by (first | decide +kernel | omega))] at q
    by_cases z : j = L.length
    · rw [show j - L.length = 0 by (first | decide +kernel | omega)] at q
      cases q
      rw [if_pos ⟨rfl, by (first | decide +kernel | omega)⟩]
      exact b
    · rw [List.getElem?_eq_none (by show 1 ≤ j - L.length; omega)] at q
      cases q
theorem HL_ne {g g2 : Hp} {p k i : Nat} {L : List Bd} {x : Int32} (h : HL g p L) (e : g2 = pI g k i x) (hk : p ≠ k) : HL g2 p L := fun j u q => by
  rw [e, pI_at, if_neg (by (first | decide +kernel | omega))]
  exact h j u q
/-- a bed that grows -/
theorem inB_1 {x c : Int32} {I : Int} {t : Bd} (cE : c.toInt = I) (hI : 0 ≤ I ∧ I < 32) (h1 : (t.1 : Int) = I) (h2 : t.2.2 = 1) (e : x = 1 <<< (c &&& 31)) : BP x (inB t) := by
  rw [e]
  refine BP_cg (BP_one cE hI) (fun j => ⟨fun q => ⟨0, by (first | decide +kernel | omega), by (first | decide +kernel | omega)⟩, fun ⟨k, a, b⟩ => ?_⟩)
  have : k = 0 := by (first | decide +kernel | omega)
  subst this
  omega
theorem inB_s {x c s y : Int32} {I : Int} {f st n : Nat} (b : BP x (inB (f, st, n))) (cE : c.toInt = I) (hI : 0 ≤ I ∧ I < 32) (h1 : ((f + st * n : Nat) : Int) = I) (e1 : s = 1 <<< (c &&& 31)) (e2 : y = x ||| s) : BP y (inB (f, st, n + 1)) := by
  rw [e2, e1]
  refine BP_cg (BP_or b (BP_one cE hI)) (fun j => ⟨fun q => ?_, fun ⟨k, a, b⟩ => ?_⟩)
  · rcases q with ⟨k, a, b⟩ | q
    · exact ⟨k, by show k < n + 1; have : k < n := a; omega, b⟩
    · exact ⟨n, by show n < n + 1; omega, by show j = f + st * n; omega⟩
  · have a' : k < n + 1 := a
    have b' : j = f + st * k := b
    by_cases z : k = n
    · subst z; exact Or.inr (by (first | decide +kernel | omega))
    · exact Or.inl ⟨k, by show k < n; omega, b'⟩
theorem inB_0 {t : Bd} (h : t.2.2 = 0) : BP 0 (inB t) := BP_cg BP_0 (fun j => ⟨fun q => q.elim, fun ⟨k, a, _⟩ => by (first | decide +kernel | omega)⟩)
/-- the class's list along a row or column; the reference's list of a CELL -/
def alg (f s l a : Nat) (m : Nat) : List Bd := (List.range m).map (fun k => (f + a * s, s, k + 2))
def ala (f s l : Nat) (m : Nat) : List Bd := (List.range m).flatMap (fun a => alg f s l a (l - 1 - a))
theorem alg_s (f s l a m : Nat) : alg f s l a (m + 1) = alg f s l a m ++ [(f + a * s, s, m + 2)] := by
  unfold alg
  rw [List.range_succ, List.map_append]
  rfl
theorem ala_s (f s l m : Nat) : ala f s l (m + 1) = ala f s l m ++ alg f s l m (l - 1 - m) := by
  unfold ala
  rw [List.range_succ, List.flatMap_append]
  simp
def clR (w g m : Nat) : List Bd := (List.range m).flatMap (fun y => ala (y * w) 1 w w)
def clC (w g m : Nat) : List Bd := (List.range m).flatMap (fun x => ala x w g g)
def clL (w g : Nat) : List Bd := clR w g g ++ clC w g w
theorem clR_s (w g m : Nat) : clR w g (m + 1) = clR w g m ++ ala (m * w) 1 w w := by
  unfold clR
  rw [List.range_succ, List.flatMap_append]
  simp
theorem clC_s (w g m : Nat) : clC w g (m + 1) = clC w g m ++ ala m w g g := by
  unfold clC
  rw [List.range_succ, List.flatMap_append]
  simp
def mlA (c s : Nat) (m : Nat) : List Bd := (List.range m).map (fun k => (c, s, k + 2))
def mlC (w g c : Nat) : List Bd := mlA c 1 (w - c % w - 1) ++ mlA c w (g - c / w - 1)
def mlL (w g m : Nat) : List Bd := (List.range m).flatMap (fun c => mlC w g c)
theorem mlA_s (c s m : Nat) : mlA c s (m + 1) = mlA c s m ++ [(c, s, m + 2)] := by
  unfold mlA
  rw [List.range_succ, List.map_append]
  rfl
theorem mlL_s (w g m : Nat) : mlL w g (m + 1) = mlL w g m ++ mlC w g m := by
  unfold mlL
  rw [List.range_succ, List.flatMap_append]
  simp
theorem bd_perm : ∀ w, w < 5 → 2 ≤ w → ∀ g, g < 5 → 2 ≤ g → (clL w g).isPerm (mlL w g (w * g)) = true ∧ (clL w g).length ≤ 48 ∧ (clL w g).all (fun t => decide (t.1 + t.2.1 * (t.2.2 - 1) < w * g)) = true := by decide +kernel
noncomputable def cl (P : Bd → Prop) : List Bd → Nat
  | [] => 0
  | t :: L => cl P L + (@ite Nat (P t) (Classical.propDecidable (P t)) 1 0)
theorem cl_app (P : Bd → Prop) (L M : List Bd) : cl P (L ++ M) = cl P L + cl P M := by
  induction L with
  | nil => show cl P M = 0 + cl P M; omega
  | cons t L ih => show cl P (L ++ M) + _ = cl P L + _ + cl P M; rw [ih]; omega
theorem cl_perm {P : Bd → Prop} {L M : List Bd} (h : L.Perm M) : cl P L = cl P M := by
  induction h with
  | nil => rfl
  | cons x _ ih => show cl P _ + _ = cl P _ + _; rw [ih]
  | swap x y l => show cl P l + _ + _ = cl P l + _ + _; omega
  | trans _ _ a b => exact a.trans b
theorem cl_cg {P Q : Bd → Prop} (L : List Bd) (h : ∀ t : Bd, P t ↔ Q t) : cl P L = cl Q L := by
  have : P = Q := funext (fun t => propext (h t))
  rw [this]
theorem cl_le (P : Bd → Prop) (L : List Bd) : cl P L ≤ L.length := by
  induction L with
  | nil => exact Nat.le_refl 0
  | cons t L ih =>
    show cl P L + _ ≤ L.length + 1
    split <;> omega
theorem cl_sp (P Q : Bd → Prop) (L : List Bd) : cl P L = cl (fun t => P t ∧ Q t) L + cl (fun t => P t ∧ ¬ Q t) L := by
  induction L with
  | nil => rfl
  | cons t L ih =>
    show cl P L + (@ite Nat (P t) (Classical.propDecidable (P t)) 1 0) = cl (fun t => P t ∧ Q t) L + (@ite Nat (P t ∧ Q t) (Classical.propDecidable _) 1 0) + (cl (fun t => P t ∧ ¬ Q t) L + (@ite Nat (P t ∧ ¬ Q t) (Classical.propDecidable _) 1 0))
    by_cases p : P t
    · by_cases q : Q t
      · rw [if_pos p, if_pos ⟨p, q⟩, if_neg (fun w => w.2 q)]; omega
      · rw [if_pos p, if_neg (fun w => q w.2), if_pos ⟨p, q⟩]; omega
    · rw [if_neg p, if_neg (fun w => p w.1), if_neg (fun w => p w.1)]; omega
theorem cl_1 {P : Bd → Prop} {t : Bd} (h : P t) : cl P [t] = 1 := by
  show 0 + (@ite Nat (P t) (Classical.propDecidable (P t)) 1 0) = 1
  rw [if_pos h]
theorem cl_0 {P : Bd → Prop} {t : Bd} (h : ¬ P t) : cl P [t] = 0 := by
  show 0 + (@ite Nat (P t) (Classical.propDecidable (P t)) 1 0) = 0
  rw [if_neg h]
theorem take_s {L : List Bd} {n : Nat} {t : Bd} (h : L[n]? = some t) : L.take (n + 1) = L.take n ++ [t] := by
  rw [List.take_succ, h]
  rfl
/-- over depths 1 to D -/
noncomputable def cd (P : Int → Bd → Prop) (L : List Bd) : Nat → Nat
  | 0 => 0
  | d + 1 => cd P L d + cl (P ((d : Int) + 1)) L
theorem cd_app (P : Int → Bd → Prop) (L M : List Bd) : ∀ d : Nat, cd P (L ++ M) d = cd P L d + cd P M d := by
  intro d
  induction d with
  | zero => rfl
  | succ d ih => show cd P (L ++ M) d + cl _ (L ++ M) = cd P L d + cl _ L + (cd P M d + cl _ M); rw [ih, cl_app]; omega
theorem cd_perm {P : Int → Bd → Prop} {L M : List Bd} (h : L.Perm M) : ∀ d : Nat, cd P L d = cd P M d := by
  intro d
  induction d with
  | zero => rfl
  | succ d ih => show cd P L d + cl _ L = cd P M d + cl _ M; rw [ih, cl_perm h]
theorem cd_cg {P Q : Int → Bd → Prop} (L : List Bd) : ∀ d : Nat, (∀ (x : Int) (t : Bd), 1 ≤ x → x ≤ (d : Int) → (P x t ↔ Q x t)) → cd P L d = cd Q L d := by
  intro d
  induction d with
  | zero => intro _; rfl
  | succ d ih =>
    intro h
    show cd P L d + cl _ L = cd Q L d + cl _ L
    rw [ih (fun x t a b => h x t a (by (first | decide +kernel | omega))), cl_cg L (fun t => h ((d : Int) + 1) t (by (first | decide +kernel | omega)) (by (first | decide +kernel | omega)))]
theorem cd_le (P : Int → Bd → Prop) (L : List Bd) : ∀ d : Nat, cd P L d ≤ d * L.length := by
  intro d
  induction d with
  | zero => show 0 ≤ _; exact Nat.zero_le _
  | succ d ih =>
    have := cl_le (P ((d : Int) + 1)) L
    show cd P L d + cl _ L ≤ (d + 1) * L.length
    rw [Nat.succ_mul]
    omega
theorem cd_sp (P Q : Int → Bd → Prop) (L : List Bd) : ∀ d : Nat, cd P L d = cd (fun x t => P x t ∧ Q x t) L d + cd (fun x t => P x t ∧ ¬ Q x t) L d := by
  intro d
  induction d with
  | zero => rfl
  | succ d ih => show cd P L d + cl (P ((d : Int) + 1)) L = cd (fun x t => P x t ∧ Q x t) L d + cl (fun t => P ((d : Int) + 1) t ∧ Q ((d : Int) + 1) t) L + (cd (fun x t => P x t ∧ ¬ Q x t) L d + cl (fun t => P ((d : Int) + 1) t ∧ ¬ Q ((d : Int) + 1) t) L); rw [ih, cl_sp (P ((d : Int) + 1)) (Q ((d : Int) + 1)) L]; omega
def fB (w b : Nat → Int32) (W d : Int) (t : Bd) : Prop := ∀ j : Nat, (j : Int) < W → ((inB t j ∧ d ≤ (b j).toInt) ↔ (0 < (w j).toInt ∧ (w j).toInt ≤ (b j).toInt))
theorem fB_cg {w b w2 b2 : Nat → Int32} {W d : Int} {t : Bd} (hw : ∀ j : Nat, (j : Int) < W → w j = w2 j) (hb : ∀ j : Nat, (j : Int) < W → b j = b2 j) : fB w b W d t ↔ fB w2 b2 W d t := by
  unfold fB
  constructor
  · intro h j hj
    rw [← hw j hj, ← hb j hj]; exact h j hj
  · intro h j hj
    rw [hw j hj, hb j hj]; exact h j hj
/-- the class's test -/
theorem fB_c {w b : Nat → Int32} {W d : Int} {t : Bd} {x r y v : Int32} (bx : BP x (inB t)) (br : BS r (BQ b d W)) (bv : BS v (WQ w b W)) (e : y = x &&& r) : y = v ↔ fB w b W d t := by
  have b1 := BP_and bx (BP_S br)
  rw [← e] at b1
  constructor
  · intro h j hj
    rw [h] at b1
    have q : (inB t j ∧ decide ((j : Int) < W ∧ d ≤ (b j).toInt) = true) ↔ decide ((j : Int) < W ∧ 0 < (w j).toInt ∧ (w j).toInt ≤ (b j).toInt) = true := (b1 j).symm.trans ((BP_S bv) j)
    rw [decide_eq_true_iff, decide_eq_true_iff] at q
    exact ⟨fun z => (q.mp ⟨z.1, hj, z.2⟩).2, fun z => ⟨(q.mpr ⟨hj, z⟩).1, (q.mpr ⟨hj, z⟩).2.2⟩⟩
  · intro h
    refine BP_ext b1 (BP_cg (BP_S bv) (fun j => ?_))
    unfold BQ WQ
    rw [decide_eq_true_iff, decide_eq_true_iff]
    exact ⟨fun z => ⟨((h j z.1).mpr z.2).1, z.1, ((h j z.1).mpr z.2).2⟩, fun z => ⟨z.2.1, (h j z.2.1).mp ⟨z.1, z.2.2⟩⟩⟩
/-- the reference's: the first m CELLS -/
def fM (w b : Nat → Int32) (m : Int) (d : Int) (t : Bd) : Prop := ∀ j : Nat, (j : Int) < m → ((b j).toInt = 0 ∨ ((inB t j ∧ d ≤ (b j).toInt) ↔ (0 < (w j).toInt ∧ (w j).toInt ≤ (b j).toInt)))
theorem fM_fB {w b : Nat → Int32} {W d : Int} {t : Bd} (hd : 1 ≤ d) : fM w b W d t ↔ fB w b W d t := by
  constructor
  · intro h j hj
    rcases h j hj with q | q
    · exact ⟨fun z => by (first | decide +kernel | omega), fun z => by (first | decide +kernel | omega)⟩
    · exact q
  · intro h j hj
    exact Or.inr (h j hj)
theorem fM_0 {w b : Nat → Int32} {d : Int} {t : Bd} : twR 1 (fM w b 0 d t) := Or.inl ⟨rfl, fun j hj => by (first | decide +kernel | omega)⟩
theorem fM_s {w b : Nat → Int32} {m d F G : Int} {t : Bd} {f g : Int32} (hm : 0 ≤ m) (h : twR f (fM w b m d t)) (fE : f.toInt = F) (gE : g.toInt = G) (q : F ≠ 0 ∧ ((b m.toNat).toInt = 0 ∨ ((inB t m.toNat ∧ d ≤ (b m.toNat).toInt) ↔ (0 < (w m.toNat).toInt ∧ (w m.toNat).toInt ≤ (b m.toNat).toInt))) ∧ G = 1 ∨ (F = 0 ∨ ¬ ((b m.toNat).toInt = 0 ∨ ((inB t m.toNat ∧ d ≤ (b m.toNat).toInt) ↔ (0 < (w m.toNat).toInt ∧ (w m.toNat).toInt ≤ (b m.toNat).toInt)))) ∧ G = 0) : twR g (fM w b (m + 1) d t) := by
  have s : fM w b (m + 1) d t ↔ fM w b m d t ∧ ((b m.toNat).toInt = 0 ∨ ((inB t m.toNat ∧ d ≤ (b m.toNat).toInt) ↔ (0 < (w m.toNat).toInt ∧ (w m.toNat).toInt ≤ (b m.toNat).toInt))) := by
    constructor
    · intro k; exact ⟨fun j hj => k j (by (first | decide +kernel | omega)), k m.toNat (by (first | decide +kernel | omega))⟩
    · intro k j hj
      by_cases z : j = m.toNat
      · rw [z]; exact k.2
      · exact k.1 j (by (first | decide +kernel | omega))
  refine twR_cg ?_ s.symm
  unfold twR
  rw [gE]
  rcases q with ⟨a, b', c⟩ | ⟨a, c⟩
  · refine Or.inl ⟨c, ?_, b'⟩
    rcases h with ⟨_, h⟩ | ⟨h, _⟩
    · exact h
    · omega
  · refine Or.inr ⟨c, fun z => ?_⟩
    rcases a with a | a
    · rcases h with ⟨h, _⟩ | ⟨_, h⟩
      · omega
      · exact h z.1
    · exact a z.2
theorem mul34 {A B : Int} (ha : 0 ≤ A ∧ A ≤ 3) (hb : 0 ≤ B ∧ B ≤ 4) : 0 ≤ A * B ∧ A * B ≤ 12 ∧ (A * B).toNat = A.toNat * B.toNat := by
  rcases (by (first | decide +kernel | omega) : A = 0 ∨ A = 1 ∨ A = 2 ∨ A = 3) with rfl | rfl | rfl | rfl
  · rw [show (0 : Int).toNat = 0 from rfl, Nat.zero_mul]; omega
  · rw [show (1 : Int).toNat = 1 from rfl, Nat.one_mul]; omega
  · rw [show (2 : Int).toNat = 2 from rfl]; omega
  · rw [show (3 : Int).toNat = 3 from rfl]; omega
theorem mulx {x y z : Int32} {A B Z : Int} (ha : x.toInt = A) (hb : y.toInt = B) (h1 : 0 ≤ A ∧ A ≤ 3) (h2 : 0 ≤ B ∧ B ≤ 4) (e : z = x * y) (zE : z.toInt = Z) : Z = A * B ∧ 0 ≤ Z ∧ Z ≤ 12 ∧ Z.toNat = A.toNat * B.toNat := by
  have m := mul34 h1 h2
  have : Z = A * B := by rw [← zE, e]; exact ti_mul ha hb (by (first | decide +kernel | omega))
  rw [this]
  omega
theorem cl_lenB : ∀ w, w < 5 → 2 ≤ w → ∀ g, g < 5 → 2 ≤ g → ((List.range g).all (fun y => decide ((clR w g y).length + 6 ≤ 48)) && (List.range w).all (fun x => decide ((clR w g g ++ clC w g x).length + 6 ≤ 48))) = true := by decide +kernel
theorem ml_lenB : ∀ w, w < 5 → 2 ≤ w → ∀ g, g < 5 → 2 ≤ g → (List.range (w * g)).all (fun c => (List.range (w - c % w - 1)).all (fun m => decide ((mlL w g c ++ mlA c 1 m).length + 1 ≤ 48)) && (List.range (g - c / w - 1)).all (fun m => decide ((mlL w g c ++ mlA c 1 (w - c % w - 1) ++ mlA c w m).length + 1 ≤ 48))) = true := by decide +kernel
theorem all_rg {n : Nat} {p : Nat → Bool} (h : (List.range n).all p = true) : ∀ i, i < n → p i = true := fun i hi => List.all_eq_true.mp h i (List.mem_range.mpr hi)
theorem cl_len : ∀ w, w < 5 → 2 ≤ w → ∀ g, g < 5 → 2 ≤ g → (∀ y, y < g → (clR w g y).length + 6 ≤ 48) ∧ (∀ x, x < w → (clR w g g ++ clC w g x).length + 6 ≤ 48) := fun w h1 h2 g h3 h4 => by
  have k := cl_lenB w h1 h2 g h3 h4
  rw [Bool.and_eq_true] at k
  exact ⟨fun y hy => of_decide_eq_true (all_rg k.1 y hy), fun x hx => of_decide_eq_true (all_rg k.2 x hx)⟩
theorem ml_len : ∀ w, w < 5 → 2 ≤ w → ∀ g, g < 5 → 2 ≤ g → ∀ c, c < w * g → (∀ m, m < w - c % w - 1 → (mlL w g c ++ mlA c 1 m).length + 1 ≤ 48) ∧ (∀ m, m < g - c / w - 1 → (mlL w g c ++ mlA c 1 (w - c % w - 1) ++ mlA c w m).length + 1 ≤ 48) := fun w h1 h2 g h3 h4 c hc => by
  have k := all_rg (ml_lenB w h1 h2 g h3 h4) c hc
  rw [Bool.and_eq_true] at k
  exact ⟨fun m hm => of_decide_eq_true (all_rg k.1 m hm), fun m hm => of_decide_eq_true (all_rg k.2 m hm)⟩
theorem ala_len {f s l a k : Nat} (hl : 2 ≤ l ∧ l ≤ 4) (hk : a + k + 2 ≤ l) : (ala f s l a ++ alg f s l a k).length + 1 ≤ 6 := by
  have e : (alg f s l a k).length = k := by unfold alg; rw [List.length_map, List.length_range]
  rw [List.length_append, e]
  rcases (by (first | decide +kernel | omega) : l = 2 ∨ l = 3 ∨ l = 4) with rfl | rfl | rfl
  · have : a = 0 := by (first | decide +kernel | omega)
    subst this
    have : (ala f s 2 0).length = 0 := rfl
    omega
  · rcases (by (first | decide +kernel | omega) : a = 0 ∨ a = 1) with rfl | rfl
    · have : (ala f s 3 0).length = 0 := rfl
      omega
    · have : (ala f s 3 1).length = 2 := rfl
      omega
  · rcases (by (first | decide +kernel | omega) : a = 0 ∨ a = 1 ∨ a = 2) with rfl | rfl | rfl
    · have : (ala f s 4 0).length = 0 := rfl
      omega
    · have : (ala f s 4 1).length = 3 := rfl
      omega
    · have : (ala f s 4 2).length = 5 := rfl
      omega
theorem al_at {F s a c Q : Int} (hF : 0 ≤ F) (ha : 0 ≤ a) (hc : a ≤ c) (hQ : 0 ≤ Q) (q : Q.toNat = c.toNat * s.toNat) : ((F.toNat + a.toNat * s.toNat + s.toNat * (c - a).toNat : Nat) : Int) = F + Q := by
  have e : c.toNat = a.toNat + (c - a).toNat := by (first | decide +kernel | omega)
  rw [e, Nat.add_mul, Nat.mul_comm (c - a).toNat] at q
  omega
/-- a list and its size -/
def HZ (g : Hp) (p k i : Nat) (L : List Bd) : Prop := HL g p L ∧ (g.1 k i).toInt = (L.length : Int)
theorem HZ_ne {g g2 : Hp} {p k i k2 j : Nat} {L : List Bd} {x : Int32} (h : HZ g p k i L) (e : g2 = pI g k2 j x) (h1 : p ≠ k2) (h2 : ¬ (k = k2 ∧ i = j)) : HZ g2 p k i L := ⟨HL_ne h.1 e h1, by rw [e, pI_at, if_neg h2]; exact h.2⟩
/-- one bed is stored and counted -/
theorem HZ_push {g g1 g2 : Hp} {p k i : Nat} {L : List Bd} {x y : Int32} {t : Bd} {Z : Int} (h : HZ g p k i L) (hp : p ≠ k) (e1 : g1 = pI g p Z.toNat x) (hZ : Z = (L.length : Int)) (b : BP x (inB t)) (e2 : g2 = pI g1 k i y) (yE : y.toInt = Z + 1) : HZ g2 p k i (L ++ [t]) := by
  refine ⟨HL_ne (HL_push h.1 e1 (by (first | decide +kernel | omega)) b) e2 hp, ?_⟩
  rw [e2, pI_at, if_pos ⟨rfl, rfl⟩, yE, List.length_append]
  show Z + 1 = ((L.length + 1 : Nat) : Int)
  omega
theorem HZ_eq {g : Hp} {p k i : Nat} {L M : List Bd} (h : HZ g p k i L) (e : L = M) : HZ g p k i M := by rw [← e]; exact h
def allG (f Pr : Int → Bd → Prop) (W : Int) (j : Nat) : Prop := (j : Int) < W ∧ ∀ (x : Int) (t : Bd), Pr x t → f x t → inB t j
def anyG (f Pr : Int → Bd → Prop) (j : Nat) : Prop := ∃ (x : Int) (t : Bd), Pr x t ∧ f x t ∧ inB t j
def depG (f Pr : Int → Bd → Prop) (z no : Int) : Prop := z = no ∧ (∀ (x : Int) (t : Bd), Pr x t → ¬ f x t) ∨ (∃ t : Bd, Pr z t ∧ f z t) ∧ ∀ (x : Int) (t : Bd), Pr x t → f x t → x ≤ z
/-- one bed more at a depth -/
def ex1 (Pr Pr2 : Int → Bd → Prop) (D : Int) (t0 : Bd) : Prop := ∀ (x : Int) (t : Bd), Pr2 x t ↔ Pr x t ∨ x = D ∧ t = t0
theorem allG_y {f Pr Pr2 : Int → Bd → Prop} {W D : Int} {t0 : Bd} {x r y : Int32} (e : ex1 Pr Pr2 D t0) (b : BP x (allG f Pr W)) (br : BP r (inB t0)) (h : f D t0) (ey : y = x &&& r) : BP y (allG f Pr2 W) := by
  rw [ey]
  refine BP_cg (BP_and b br) (fun j => ⟨fun q => ⟨q.1.1, fun x t p w => ?_⟩, fun q => ⟨⟨q.1, fun x t p w => q.2 x t ((e x t).mpr (Or.inl p)) w⟩, q.2 D t0 ((e D t0).mpr (Or.inr ⟨rfl, rfl⟩)) h⟩⟩)
  rcases (e x t).mp p with p | ⟨_, rfl⟩
  · exact q.1.2 x t p w
  · exact q.2
theorem allG_n {f Pr Pr2 : Int → Bd → Prop} {W D : Int} {t0 : Bd} {x : Int32} (e : ex1 Pr Pr2 D t0) (b : BP x (allG f Pr W)) (h : ¬ f D t0) : BP x (allG f Pr2 W) := by
  refine BP_cg b (fun j => ⟨fun q => ⟨q.1, fun x t p w => ?_⟩, fun q => ⟨q.1, fun x t p w => q.2 x t ((e x t).mpr (Or.inl p)) w⟩⟩)
  rcases (e x t).mp p with p | ⟨rfl, rfl⟩
  · exact q.2 x t p w
  · exact absurd w h
theorem anyG_y {f Pr Pr2 : Int → Bd → Prop} {D : Int} {t0 : Bd} {x r y : Int32} (e : ex1 Pr Pr2 D t0) (b : BP x (anyG f Pr)) (br : BP r (inB t0)) (h : f D t0) (ey : y = x ||| r) : BP y (anyG f Pr2) := by
  rw [ey]
  refine BP_cg (BP_or b br) (fun j => ⟨fun q => ?_, fun ⟨x, t, p, w, z⟩ => ?_⟩)
  · rcases q with ⟨x, t, p, w, z⟩ | q
    · exact ⟨x, t, (e x t).mpr (Or.inl p), w, z⟩
    · exact ⟨D, t0, (e D t0).mpr (Or.inr ⟨rfl, rfl⟩), h, q⟩
  · rcases (e x t).mp p with p | ⟨_, rfl⟩
    · exact Or.inl ⟨x, t, p, w, z⟩
    · exact Or.inr z
theorem anyG_n {f Pr Pr2 : Int → Bd → Prop} {D : Int} {t0 : Bd} {x : Int32} (e : ex1 Pr Pr2 D t0) (b : BP x (anyG f Pr)) (h : ¬ f D t0) : BP x (anyG f Pr2) := by
  refine BP_cg b (fun j => ⟨fun ⟨x, t, p, w, z⟩ => ⟨x, t, (e x t).mpr (Or.inl p), w, z⟩, fun ⟨x, t, p, w, z⟩ => ?_⟩)
  rcases (e x t).mp p with p | ⟨rfl, rfl⟩
  · exact ⟨x, t, p, w, z⟩
  · exact absurd w h
theorem depG_y {f Pr Pr2 : Int → Bd → Prop} {D z no z2 : Int} {t0 : Bd} (e : ex1 Pr Pr2 D t0) (b : depG f Pr z no) (h : f D t0) (hz : z2 = D ∧ (z = no ∨ z ≤ D) ∨ z2 = z ∧ D ≤ z ∧ z ≠ no) (hno : no ≤ D) : depG f Pr2 z2 no := by
  rcases b with ⟨b1, b2⟩ | ⟨⟨t, b1, b2⟩, b3⟩
  · have hz2 : z2 = D := by (first | decide +kernel | omega)
    subst hz2
    refine Or.inr ⟨⟨t0, (e _ t0).mpr (Or.inr ⟨rfl, rfl⟩), h⟩, fun x t p w => ?_⟩
    rcases (e x t).mp p with p | ⟨rfl, _⟩
    · exact absurd w (b2 x t p)
    · exact Int.le_refl _
  · rcases hz with ⟨c1, c2⟩ | ⟨c1, c2, c3⟩
    · rw [c1]
      have q : z ≤ D := by (first | decide +kernel | omega)
      refine Or.inr ⟨⟨t0, (e D t0).mpr (Or.inr ⟨rfl, rfl⟩), h⟩, fun x t p w => ?_⟩
      rcases (e x t).mp p with p | ⟨rfl, _⟩
      · have := b3 x t p w; omega
      · exact Int.le_refl _
    · rw [c1]
      refine Or.inr ⟨⟨t, (e z t).mpr (Or.inl b1), b2⟩, fun x t p w => ?_⟩
      rcases (e x t).mp p with p | ⟨rfl, _⟩
      · exact b3 x t p w
      · exact c2
theorem depG_n {f Pr Pr2 : Int → Bd → Prop} {D z no : Int} {t0 : Bd} (e : ex1 Pr Pr2 D t0) (b : depG f Pr z no) (h : ¬ f D t0) : depG f Pr2 z no := by
  rcases b with ⟨b1, b2⟩ | ⟨⟨t, b1, b2⟩, b3⟩
  · refine Or.inl ⟨b1, fun x t p w => ?_⟩
    rcases (e x t).mp p with p | ⟨rfl, rfl⟩
    · exact b2 x t p w
    · exact h w
  · refine Or.inr ⟨⟨t, (e z t).mpr (Or.inl b1), b2⟩, fun x t p w => ?_⟩
    rcases (e x t).mp p with p | ⟨rfl, rfl⟩
    · exact b3 x t p w
    · exact absurd w h
theorem G_eq {Pr Pr2 : Int → Bd → Prop} (e : ∀ (x : Int) (t : Bd), Pr x t ↔ Pr2 x t) : Pr = Pr2 := funext (fun x => funext (fun t => propext (e x t)))
/-- the class: depth by depth; the reference: bed by bed -/
def PrC (L : List Bd) (D : Int) (n : Nat) (x : Int) (t : Bd) : Prop := 1 ≤ x ∧ (x < D ∧ t ∈ L ∨ x = D ∧ t ∈ L.take n)
def PrM (L : List Bd) (k : Nat) (d : Int) (x : Int) (t : Bd) : Prop := 1 ≤ x ∧ x ≤ 9 ∧ (t ∈ L.take k ∨ L[k]? = some t ∧ x < d)
def PrA (L : List Bd) (x : Int) (t : Bd) : Prop := 1 ≤ x ∧ x ≤ 9 ∧ t ∈ L
theorem PrC_s {L : List Bd} {D : Int} {n : Nat} {t0 : Bd} (hD : 1 ≤ D) (h : L[n]? = some t0) : ex1 (PrC L D n) (PrC L D (n + 1)) D t0 := fun x t => by
  unfold PrC
  rw [take_s h, List.mem_append, List.mem_singleton]
  constructor
  · rintro ⟨a, b | ⟨b, c | c⟩⟩
    · exact Or.inl ⟨a, Or.inl b⟩
    · exact Or.inl ⟨a, Or.inr ⟨b, c⟩⟩
    · exact Or.inr ⟨b, c⟩
  · rintro (⟨a, b | b⟩ | ⟨b, c⟩)
    · exact ⟨a, Or.inl b⟩
    · exact ⟨a, Or.inr ⟨b.1, Or.inl b.2⟩⟩
    · exact ⟨by (first | decide +kernel | omega), Or.inr ⟨b, Or.inr c⟩⟩
theorem PrC_d {L : List Bd} {D : Int} {n : Nat} (hn : L.length ≤ n) : PrC L D n = PrC L (D + 1) 0 := G_eq (fun x t => by
  unfold PrC
  rw [List.take_of_length_le hn, List.take_zero]
  constructor
  · rintro ⟨a, b | b⟩
    · exact ⟨a, Or.inl ⟨by (first | decide +kernel | omega), b.2⟩⟩
    · exact ⟨a, Or.inl ⟨by (first | decide +kernel | omega), b.2⟩⟩
  · rintro ⟨a, b | ⟨_, b⟩⟩
    · by_cases z : x = D
      · exact ⟨a, Or.inr ⟨z, b.2⟩⟩
      · exact ⟨a, Or.inl ⟨by (first | decide +kernel | omega), b.2⟩⟩
    · cases b)
theorem PrC_e {L : List Bd} : PrC L 10 0 = PrA L := G_eq (fun x t => by
  unfold PrC PrA
  rw [List.take_zero]
  constructor
  · rintro ⟨a, b | ⟨_, b⟩⟩
    · exact ⟨a, by (first | decide +kernel | omega), b.2⟩
    · cases b
  · rintro ⟨a, b, c⟩
    exact ⟨a, Or.inl ⟨by (first | decide +kernel | omega), c⟩⟩)
theorem PrC_0 {L : List Bd} (x : Int) (t : Bd) : ¬ PrC L 1 0 x t := by
  rintro ⟨a, b | ⟨_, b⟩⟩
  · omega
  · rw [List.take_zero] at b; cases b
theorem PrM_s {L : List Bd} {d : Int} {k : Nat} {t0 : Bd} (hd : 1 ≤ d ∧ d ≤ 9) (h : L[k]? = some t0) : ex1 (PrM L k d) (PrM L k (d + 1)) d t0 := fun x t => by
  unfold PrM
  rw [h]
  constructor
  · rintro ⟨a, b, c | ⟨c1, c2⟩⟩
    · exact Or.inl ⟨a, b, Or.inl c⟩
    · by_cases z : x = d
      · exact Or.inr ⟨z, (Option.some.inj c1).symm⟩
      · exact Or.inl ⟨a, b, Or.inr ⟨c1, by (first | decide +kernel | omega)⟩⟩
  · rintro (⟨a, b, c | c⟩ | ⟨b, c⟩)
    · exact ⟨a, b, Or.inl c⟩
    · exact ⟨a, b, Or.inr ⟨c.1, by (first | decide +kernel | omega)⟩⟩
    · exact ⟨by (first | decide +kernel | omega), by (first | decide +kernel | omega), Or.inr ⟨by rw [c], by (first | decide +kernel | omega)⟩⟩
theorem PrM_k {L : List Bd} {k : Nat} {t0 : Bd} {d : Int} (hd : 10 ≤ d) (h : L[k]? = some t0) : PrM L k d = PrM L (k + 1) 1 := G_eq (fun x t => by
  unfold PrM
  rw [take_s h, List.mem_append, List.mem_singleton, h]
  constructor
  · rintro ⟨a, b, c | ⟨c1, _⟩⟩
    · exact ⟨a, b, Or.inl (Or.inl c)⟩
    · exact ⟨a, b, Or.inl (Or.inr (Option.some.inj c1).symm)⟩
  · rintro ⟨a, b, (c | c) | ⟨_, c⟩⟩
    · exact ⟨a, b, Or.inl c⟩
    · exact ⟨a, b, Or.inr ⟨by rw [c], by (first | decide +kernel | omega)⟩⟩
    · omega)
theorem PrM_e {L : List Bd} {k : Nat} (hk : L.length ≤ k) : PrM L k 1 = PrA L := G_eq (fun x t => by
  unfold PrM PrA
  rw [List.take_of_length_le hk]
  constructor
  · rintro ⟨a, b, c | ⟨_, c⟩⟩
    · exact ⟨a, b, c⟩
    · omega
  · rintro ⟨a, b, c⟩
    exact ⟨a, b, Or.inl c⟩)
theorem PrM_0 {L : List Bd} (x : Int) (t : Bd) : ¬ PrM L 0 1 x t := by
  rintro ⟨a, b, c | ⟨_, c⟩⟩
  · rw [List.take_zero] at c; cases c
  · omega
theorem G_00 {f Pr : Int → Bd → Prop} {W : Int} {x : Int32} (h : ∀ (x : Int) (t : Bd), ¬ Pr x t) (b : BP x (fun j => (j : Int) < W)) : BP x (allG f Pr W) := BP_cg b (fun j => ⟨fun q => ⟨q, fun x t p => absurd p (h x t)⟩, fun q => q.1⟩)
theorem G_01 {f Pr : Int → Bd → Prop} (h : ∀ (x : Int) (t : Bd), ¬ Pr x t) : BP 0 (anyG f Pr) := BP_cg BP_0 (fun j => ⟨fun q => q.elim, fun ⟨x, t, p, _⟩ => h x t p⟩)
theorem G_02 {f Pr : Int → Bd → Prop} {no : Int} (h : ∀ (x : Int) (t : Bd), ¬ Pr x t) : depG f Pr no no := Or.inl ⟨rfl, fun x t p => absurd p (h x t)⟩
/-- how many: the class's order, the reference's -/
theorem cnt_C {f : Int → Bd → Prop} {L : List Bd} {A D : Int} {n : Nat} {t0 : Bd} (h : A = (cd f L (D - 1).toNat + cl (f D) (L.take n) : Nat)) (ht : L[n]? = some t0) : (f D t0 → A + 1 = (cd f L (D - 1).toNat + cl (f D) (L.take (n + 1)) : Nat)) ∧ (¬ f D t0 → A = (cd f L (D - 1).toNat + cl (f D) (L.take (n + 1)) : Nat)) := by
  rw [take_s ht, cl_app]
  refine ⟨fun q => ?_, fun q => ?_⟩
  · rw [cl_1 q, h]; omega
  · rw [cl_0 q, h]; omega
theorem cnt_Cd {f : Int → Bd → Prop} {L : List Bd} {A D : Int} {n : Nat} (hD : 1 ≤ D) (h : A = (cd f L (D - 1).toNat + cl (f D) (L.take n) : Nat)) (hn : L.length ≤ n) : A = (cd f L (D + 1 - 1).toNat + cl (f (D + 1)) (L.take 0) : Nat) := by
  rw [List.take_of_length_le hn] at h
  rw [List.take_zero, show (D + 1 - 1).toNat = (D - 1).toNat + 1 by (first | decide +kernel | omega)]
  show A = (cd f L (D - 1).toNat + cl (f (((D - 1).toNat : Int) + 1)) L + 0 : Nat)
  rw [show ((D - 1).toNat : Int) + 1 = D by (first | decide +kernel | omega), h]
  omega
theorem cnt_M {f : Int → Bd → Prop} {L : List Bd} {A d : Int} {k : Nat} {t0 : Bd} (hd : 1 ≤ d) (h : A = (cd f (L.take k) 9 + cd f [t0] (d - 1).toNat : Nat)) : (f d t0 → A + 1 = (cd f (L.take k) 9 + cd f [t0] (d + 1 - 1).toNat : Nat)) ∧ (¬ f d t0 → A = (cd f (L.take k) 9 + cd f [t0] (d + 1 - 1).toNat : Nat)) := by
  have e : cd f [t0] (d + 1 - 1).toNat = cd f [t0] (d - 1).toNat + cl (f d) [t0] := by
    rw [show (d + 1 - 1).toNat = (d - 1).toNat + 1 by (first | decide +kernel | omega)]
    show cd f [t0] (d - 1).toNat + cl (f (((d - 1).toNat : Int) + 1)) [t0] = _
    rw [show ((d - 1).toNat : Int) + 1 = d by (first | decide +kernel | omega)]
  rw [e]
  refine ⟨fun q => ?_, fun q => ?_⟩
  · rw [cl_1 q, h]; omega
  · rw [cl_0 q, h]; omega
theorem cnt_Mk {f : Int → Bd → Prop} {L : List Bd} {A d : Int} {k : Nat} {t0 : Bd} (h : A = (cd f (L.take k) 9 + cd f [t0] (d - 1).toNat : Nat)) (hd : d = 10) (ht : L[k]? = some t0) : A = (cd f (L.take (k + 1)) 9 : Nat) := by
  rw [take_s ht, cd_app, h, hd]
  rfl
theorem all_bts : ∀ k, k < 17 → 4 ≤ k → uN ((1 : Int32) <<< (Int32.ofNat k &&& 31) - 1) = 2 ^ k - 1 := by decide +kernel
theorem all_BP {c s y : Int32} {W : Int} (cE : c.toInt = W) (hW : 4 ≤ W ∧ W ≤ 16) (e1 : s = 1 <<< (c &&& 31)) (e2 : y = s - 1) : BP y (fun j => (j : Int) < W) := fun j => by
  rw [e2, e1, i32_of cE (by (first | decide +kernel | omega)), all_bts _ (by (first | decide +kernel | omega)) (by (first | decide +kernel | omega)), Nat.testBit_two_pow_sub_one, decide_eq_true_iff]
  omega
end
section
def S_Beds_listRowsAlongX : List (Nat × Option Nat) := [(105, none), (104, some 1)]
abbrev q_Beds_listRowsAlongX (h : Hp) (L : List Bd) (f : Int32) (fZ : Int) (s : Int32) (sZ : Int) (l : Int32) (lZ : Int) : Option Value → Hp → Prop := pVd (fun h' => Inv h' ∧ fr S_Beds_listRowsAlongX h h' ∧ (HZ h' 105 104 1 (L ++ ala fZ.toNat sZ.toNat lZ.toNat lZ.toNat)))
set_option maxRecDepth 100000 in
theorem c_Beds_listRowsAlongX (h : Hp) (L : List Bd) (hI : Inv h) (f : Int32) (fZ : Int) (fE : f.toInt = fZ) (s : Int32) (sZ : Int) (sE : s.toInt = sZ) (l : Int32) (lZ : Int) (lE : l.toInt = lZ) (hy0 : HZ h 105 104 1 L) (hy1 : L.length + 6 ≤ 48) (hy2 : 2 ≤ lZ ∧ lZ ≤ 4) (hy3 : (0 ≤ fZ ∧ fZ ≤ 15) ∧ 0 ≤ sZ ∧ sZ ≤ 4) : Ct y_Beds_listRowsAlong b_Beds_listRowsAlong 7 none 0 0 [.ref 104, .int f, .int s, .int l] h (q_Beds_listRowsAlongX h L f fZ s sZ l lZ) := by
  refine ct_ow R_Beds [some (.ref 104), some (.int f), some (.int s), some (.int l), none, none, none] rfl (by decide) rfl (Nat.le_of_ble_eq_true rfl) ?_
  have f0 : fr S_Beds_listRowsAlongX h h := fr_rf
  refine V_iconst 0 d_Beds_listRowsAlong_0 (by decide) ?_
  refine V_istore 4 [some (.ref 104), some (.int f), some (.int s), some (.int l), some (.int 0), none, none] d_Beds_listRowsAlong_1 (by decide) rfl rfl ?_
  have L1 : ∀ (nn : Nat) (v3 : Int32) (v3Z : Int) (h4 : Hp), v3.toInt = v3Z → Inv h4 → fr S_Beds_listRowsAlongX h h4 → 0 ≤ v3Z ∧ v3Z ≤ lZ → HZ h4 105 104 1 (L ++ (ala fZ.toNat sZ.toNat lZ.toNat (v3Z).toNat)) → 4 - v3Z < (nn : Int) → V R_Beds b_Beds_listRowsAlong 7 none 0 0 (q_Beds_listRowsAlongX h L f fZ s sZ l lZ) h4 3 [some (.ref 104), some (.int f), some (.int s), some (.int l), some (.int v3), none, none] [] := by
    intro nn
    induction nn with
    | zero => intro v3 v3Z h4 v3E Ih4 Fh4 q5 q6 hm7; exact absurd hm7 (by (first | decide +kernel | omega))
    | succ nn ihL1 =>
      intro v3 v3Z h4 v3E Ih4 Fh4 q5 q6 hm7
      refine V_iload d_Beds_listRowsAlong_3 rfl ?_
      refine V_iload_n 3 d_Beds_listRowsAlong_5 rfl rfl ?_
      refine V_icmp_ge 86 v3E lE d_Beds_listRowsAlong_6 (by decide) (fun c8 => ?_) (fun c8 => ?_)
      ·
        exact V_vret rfl d_Beds_listRowsAlong_86 ⟨rfl, ⟨Ih4, Fh4, (HZ_eq (show HZ h4 105 104 1 (L ++ (ala fZ.toNat sZ.toNat lZ.toNat (v3Z).toNat)) from by assumption) (by rw [show (v3Z).toNat = lZ.toNat by (first | decide +kernel | omega)]))⟩⟩
      ·
        refine V_iconst 1 d_Beds_listRowsAlong_9 (by decide) ?_
        refine V_iload_n 1 d_Beds_listRowsAlong_10 rfl rfl ?_
        refine V_iload d_Beds_listRowsAlong_11 rfl ?_
        refine V_iload_n 2 d_Beds_listRowsAlong_13 rfl rfl ?_
        refine N_imulw d_Beds_listRowsAlong_14 (fun z9 z9Z z9E z9e => ?_)
        have hm9 := mulx v3E sE (by (first | decide +kernel | omega)) (by (first | decide +kernel | omega)) z9e z9E
        refine V_iadd fE z9E (by (first | decide +kernel | omega)) d_Beds_listRowsAlong_15 (fun z11 z11e z11E => ?_)
        refine N_ishl d_Beds_listRowsAlong_16 (fun z12 z12Z z12E z12e => ?_)
        have hB1 := inB_1 (t := (fZ.toNat + (v3Z).toNat * sZ.toNat, sZ.toNat, 1)) z11E (by (first | decide +kernel | omega)) (by have q9 := al_at (F := fZ) (s := sZ) (a := v3Z) (c := v3Z) (Q := z9Z) (by (first | decide +kernel | omega)) (by (first | decide +kernel | omega)) (by (first | decide +kernel | omega)) (by (first | decide +kernel | omega)) hm9.2.2.2; rw [show (v3Z - v3Z).toNat = 0 by (first | decide +kernel | omega), Nat.mul_zero, Nat.add_zero] at q9; exact q9) rfl z12e
        refine V_istore 5 [some (.ref 104), some (.int f), some (.int s), some (.int l), some (.int v3), some (.int z12), none] d_Beds_listRowsAlong_17 (by decide) rfl rfl ?_
        refine V_iload d_Beds_listRowsAlong_19 rfl ?_
        refine V_iconst 1 d_Beds_listRowsAlong_21 (by decide) ?_
        refine V_iadd v3E tc_1 (by (first | decide +kernel | omega)) d_Beds_listRowsAlong_22 (fun z13 z13e z13E => ?_)
        refine V_istore 6 [some (.ref 104), some (.int f), some (.int s), some (.int l), some (.int v3), some (.int z12), some (.int z13)] d_Beds_listRowsAlong_23 (by decide) rfl rfl ?_
        have L14 : ∀ (nn : Nat) (v16 : Int32) (v16Z : Int) (v17 : Int32) (v17Z : Int) (h18 : Hp), v16.toInt = v16Z → v17.toInt = v17Z → Inv h18 → fr S_Beds_listRowsAlongX h h18 → v3Z + 1 ≤ v17Z ∧ v17Z ≤ lZ → BP v16 (inB (fZ.toNat + (v3Z).toNat * sZ.toNat, sZ.toNat, (v17Z - v3Z).toNat)) → HZ h18 105 104 1 (L ++ ((ala fZ.toNat sZ.toNat lZ.toNat (v3Z).toNat) ++ (alg fZ.toNat sZ.toNat lZ.toNat (v3Z).toNat (v17Z - v3Z - 1).toNat))) → 4 - v17Z < (nn : Int) → V R_Beds b_Beds_listRowsAlong 7 none 0 0 (q_Beds_listRowsAlongX h L f fZ s sZ l lZ) h18 25 [some (.ref 104), some (.int f), some (.int s), some (.int l), some (.int v3), some (.int v16), some (.int v17)] [] := by
          intro nn
          induction nn with
          | zero => intro v16 v16Z v17 v17Z h18 v16E v17E Ih18 Fh18 q19 q20 q21 hm22; exact absurd hm22 (by (first | decide +kernel | omega))
          | succ nn ihL14 =>
            intro v16 v16Z v17 v17Z h18 v16E v17E Ih18 Fh18 q19 q20 q21 hm22
            refine V_iload d_Beds_listRowsAlong_25 rfl ?_
            refine V_iload_n 3 d_Beds_listRowsAlong_27 rfl rfl ?_
            refine V_icmp_ge 80 v17E lE d_Beds_listRowsAlong_28 (by decide) (fun c23 => ?_) (fun c23 => ?_)
            ·
              obtain ⟨z24, z24E, z24e⟩ : ∃ y : Int32, y.toInt = v3Z + 1 ∧ y = v3 + Int32.ofInt 1 := ⟨_, ti_add v3E (by decide) (by (first | decide +kernel | omega)), rfl⟩
              refine V_iinc 4 [some (.ref 104), some (.int f), some (.int s), some (.int l), some (.int z24), some (.int v16), some (.int v17)] d_Beds_listRowsAlong_80 rfl z24e.symm (by decide) rfl rfl ?_
              refine V_goto 3 d_Beds_listRowsAlong_83 (by decide) ?_
              refine V_drop 5 [some (.ref 104), some (.int f), some (.int s), some (.int l), some (.int z24), none, some (.int v17)] rfl ?_
              refine V_drop 6 [some (.ref 104), some (.int f), some (.int s), some (.int l), some (.int z24), none, none] rfl ?_
              exact ihL1 z24 ((v3Z + 1)) h18 z24E Ih18 Fh18 (by (first | decide +kernel | omega)) (HZ_eq (show HZ h18 105 104 1 (L ++ ((ala fZ.toNat sZ.toNat lZ.toNat (v3Z).toNat) ++ (alg fZ.toNat sZ.toNat lZ.toNat (v3Z).toNat (v17Z - v3Z - 1).toNat))) from by assumption) (by rw [show (v3Z + 1).toNat = (v3Z).toNat + 1 by (first | decide +kernel | omega), ala_s, show (v17Z - v3Z - 1).toNat = lZ.toNat - 1 - (v3Z).toNat by (first | decide +kernel | omega)])) (by (first | decide +kernel | omega))
            ·
              have hB9 : BP v16 (inB (fZ.toNat + (v3Z).toNat * sZ.toNat, sZ.toNat, (v17Z - v3Z).toNat)) := by assumption
              have hH9 : HZ h18 105 104 1 (L ++ ((ala fZ.toNat sZ.toNat lZ.toNat (v3Z).toNat) ++ (alg fZ.toNat sZ.toNat lZ.toNat (v3Z).toNat (v17Z - v3Z - 1).toNat))) := by assumption
              have hl9 : (L ++ ((ala fZ.toNat sZ.toNat lZ.toNat (v3Z).toNat) ++ (alg fZ.toNat sZ.toNat lZ.toNat (v3Z).toNat (v17Z - v3Z - 1).toNat))).length + 1 ≤ 48 := by have q9 := ala_len (f := fZ.toNat) (s := sZ.toNat) (l := lZ.toNat) (a := (v3Z).toNat) (k := (v17Z - v3Z - 1).toNat) (by (first | decide +kernel | omega)) (by (first | decide +kernel | omega)); rw [List.length_append]; omega
              refine V_iload d_Beds_listRowsAlong_31 rfl ?_
              refine V_iconst 1 d_Beds_listRowsAlong_33 (by decide) ?_
              refine V_iload_n 1 d_Beds_listRowsAlong_34 rfl rfl ?_
              refine V_iload d_Beds_listRowsAlong_35 rfl ?_
              refine V_iload_n 2 d_Beds_listRowsAlong_37 rfl rfl ?_
              refine N_imulw d_Beds_listRowsAlong_38 (fun z25 z25Z z25E z25e => ?_)
              have hm8 := mulx v17E sE (by (first | decide +kernel | omega)) (by (first | decide +kernel | omega)) z25e z25E
              refine V_iadd fE z25E (by (first | decide +kernel | omega)) d_Beds_listRowsAlong_39 (fun z27 z27e z27E => ?_)
              refine N_ishl d_Beds_listRowsAlong_40 (fun z28 z28Z z28E z28e => ?_)
              refine N_ior d_Beds_listRowsAlong_41 (fun z29 z29Z z29E z29e => ?_)
              have hB2 := inB_s (f := fZ.toNat + (v3Z).toNat * sZ.toNat) (st := sZ.toNat) (n := (v17Z - v3Z).toNat) hB9 z27E (by (first | decide +kernel | omega)) (al_at (F := fZ) (s := sZ) (a := v3Z) (c := v17Z) (Q := z25Z) (by (first | decide +kernel | omega)) (by (first | decide +kernel | omega)) (by (first | decide +kernel | omega)) (by (first | decide +kernel | omega)) hm8.2.2.2) z28e z29e
              refine V_istore 5 [some (.ref 104), some (.int f), some (.int s), some (.int l), some (.int v3), some (.int z29), some (.int v17)] d_Beds_listRowsAlong_42 (by decide) rfl rfl ?_
              refine V_aload_n 0 d_Beds_listRowsAlong_44 rfl rfl ?_
              refine N_getI fa_Beds_51 sk_104 rfl d_Beds_listRowsAlong_45 (fun z30 z30Z z30E z30e => ?_)
              have g31 : 0 ≤ z30Z ∧ z30Z ≤ 48 := inv_at Ih18 z30E z30e rfl
              have hsz : z30Z = ((L ++ ((ala fZ.toNat sZ.toNat lZ.toNat (v3Z).toNat) ++ (alg fZ.toNat sZ.toNat lZ.toNat (v3Z).toNat (v17Z - v3Z - 1).toNat))).length : Int) := by rw [← z30E, z30e]; exact hH9.2
              refine V_bipush 48 d_Beds_listRowsAlong_48 (by decide) ?_
              refine V_icmp_ge 74 z30E tc_48 d_Beds_listRowsAlong_50 (by decide) (fun c32 => ?_) (fun c32 => ?_)
              ·
                exact absurd c32 (by (first | decide +kernel | omega))
              ·
                refine V_aload_n 0 d_Beds_listRowsAlong_53 rfl rfl ?_
                refine V_getR fa_Beds_9 sk_104 rfl d_Beds_listRowsAlong_54 ?_
                refine V_aload_n 0 d_Beds_listRowsAlong_57 rfl rfl ?_
                refine N_getK fa_Beds_51 sk_104 rfl d_Beds_listRowsAlong_58 z30e.symm ?_
                refine V_iload d_Beds_listRowsAlong_61 rfl ?_
                refine N_iast sk_105 z30E (by (first | decide +kernel | omega)) d_Beds_listRowsAlong_63 (fun h33 eh33 => ?_)
                have hI34 : Inv h33 := inv_full Ih18 eh33 rfl
                have f35 : fr S_Beds_listRowsAlongX h h33 := fr_put Fh18 eh33 rfl
                refine V_aload_n 0 d_Beds_listRowsAlong_64 rfl rfl ?_
                refine V_dup d_Beds_listRowsAlong_65 rfl ?_
                refine N_getK fa_Beds_51 sk_104 rfl d_Beds_listRowsAlong_66 (kn_ne eh33 z30e.symm (by decide)) ?_
                refine V_iconst 1 d_Beds_listRowsAlong_69 (by decide) ?_
                refine V_iadd z30E tc_1 (by (first | decide +kernel | omega)) d_Beds_listRowsAlong_70 (fun z36 z36e z36E => ?_)
                refine N_putI fp_Beds_51 sk_104 rfl d_Beds_listRowsAlong_71 (fun h37 eh37 => ?_)
                have hI38 : Inv h37 := inv_put (lo := 0) (hi := 48) hI34 eh37 rfl z36E (by (first | decide +kernel | omega))
                have f39 : fr S_Beds_listRowsAlongX h h37 := fr_put f35 eh37 rfl
                have hH8 := HZ_push hH9 (by decide) eh33 hsz hB2 eh37 z36E
                obtain ⟨z40, z40E, z40e⟩ : ∃ y : Int32, y.toInt = v17Z + 1 ∧ y = v17 + Int32.ofInt 1 := ⟨_, ti_add v17E (by decide) (by (first | decide +kernel | omega)), rfl⟩
                refine V_iinc 6 [some (.ref 104), some (.int f), some (.int s), some (.int l), some (.int v3), some (.int z29), some (.int z40)] d_Beds_listRowsAlong_74 rfl z40e.symm (by decide) rfl rfl ?_
                refine V_goto 25 d_Beds_listRowsAlong_77 (by decide) ?_
                exact ihL14 z29 z29Z z40 ((v17Z + 1)) h37 z29E z40E hI38 f39 (by (first | decide +kernel | omega)) (by rw [show (v17Z + 1 - v3Z).toNat = (v17Z - v3Z).toNat + 1 by (first | decide +kernel | omega)]; exact hB2) (HZ_eq hH8 (by rw [show (v17Z + 1 - v3Z - 1).toNat = (v17Z - v3Z - 1).toNat + 1 by (first | decide +kernel | omega), alg_s, show (v17Z - v3Z).toNat + 1 = (v17Z - v3Z - 1).toNat + 2 by (first | decide +kernel | omega), List.append_assoc, List.append_assoc])) (by (first | decide +kernel | omega))
        exact L14 (Int.toNat ((4 - (v3Z + 1) : Int) + 1)) z12 z12Z z13 ((v3Z + 1)) h4 z12E z13E Ih4 Fh4 (by (first | decide +kernel | omega)) (by rw [show (v3Z + 1 - v3Z).toNat = 1 by (first | decide +kernel | omega)]; exact hB1) (HZ_eq (show HZ h4 105 104 1 (L ++ (ala fZ.toNat sZ.toNat lZ.toNat (v3Z).toNat)) from by assumption) (by rw [show (v3Z + 1 - v3Z - 1).toNat = 0 by (first | decide +kernel | omega)]; exact congrArg (fun q => L ++ q) (List.append_nil _).symm)) (by (first | decide +kernel | omega))
  exact L1 (Int.toNat ((4 - 0 : Int) + 1)) 0 0 h tc_0 hI f0 (by (first | decide +kernel | omega)) (HZ_eq hy0 (List.append_nil _).symm) (by (first | decide +kernel | omega))
def S_Beds_listRowsX : List (Nat × Option Nat) := [(105, none), (104, some 1)]
abbrev q_Beds_listRowsX (h : Hp) (w : Int32) (wZ : Int) (g : Int32) (gZ : Int) : Option Value → Hp → Prop := pVd (fun h' => Inv h' ∧ fr S_Beds_listRowsX h h' ∧ (HZ h' 105 104 1 (clL wZ.toNat gZ.toNat)))
set_option maxRecDepth 100000 in
theorem c_Beds_listRowsX (h : Hp) (hI : Inv h) (w : Int32) (wZ : Int) (wE : w.toInt = wZ) (wK : h.1 1 0 = w) (g : Int32) (gZ : Int) (gE : g.toInt = gZ) (gK : h.1 1 1 = g) : Ct y_Beds_listRows b_Beds_listRows 3 none 1 26 [.ref 104, .ref 1] h (q_Beds_listRowsX h w wZ g gZ) := by
  refine ct_ow R_Beds [some (.ref 104), some (.ref 1), none] rfl (by decide) rfl (Nat.le_of_ble_eq_true rfl) ?_
  have f0 : fr S_Beds_listRowsX h h := fr_rf
  have g1 : 2 ≤ wZ ∧ wZ ≤ 4 := inv_at hI wE wK.symm rfl
  have g2 : 2 ≤ gZ ∧ gZ ≤ 4 := inv_at hI gE gK.symm rfl
  refine V_aload_n 0 d_Beds_listRows_0 rfl rfl ?_
  refine V_iconst 0 d_Beds_listRows_1 (by decide) ?_
  refine N_putI fp_Beds_51 sk_104 rfl d_Beds_listRows_2 (fun h3 eh3 => ?_)
  have hI4 : Inv h3 := inv_put (lo := 0) (hi := 48) hI eh3 rfl tc_0 (by (first | decide +kernel | omega))
  have f5 : fr S_Beds_listRowsX h h3 := fr_put f0 eh3 rfl
  refine V_iconst 0 d_Beds_listRows_5 (by decide) ?_
  refine V_istore_n 2 [some (.ref 104), some (.ref 1), some (.int 0)] d_Beds_listRows_6 rfl (by decide) rfl rfl ?_
  have L6 : ∀ (nn : Nat) (v8 : Int32) (v8Z : Int) (h9 : Hp), v8.toInt = v8Z → Inv h9 → fr S_Beds_listRowsX h h9 → h9.1 1 0 = w → h9.1 1 1 = g → 0 ≤ v8Z ∧ v8Z ≤ gZ → HZ h9 105 104 1 (clR wZ.toNat gZ.toNat (v8Z).toNat) → 4 - v8Z < (nn : Int) → V R_Beds b_Beds_listRows 3 none 1 26 (q_Beds_listRowsX h w wZ g gZ) h9 7 [some (.ref 104), some (.ref 1), some (.int v8)] [] := by
    intro nn
    induction nn with
    | zero => intro v8 v8Z h9 v8E Ih9 Fh9 K10 K11 q12 q13 hm14; exact absurd hm14 (by (first | decide +kernel | omega))
    | succ nn ihL6 =>
      intro v8 v8Z h9 v8E Ih9 Fh9 K10 K11 q12 q13 hm14
      refine V_iload_n 2 d_Beds_listRows_7 rfl rfl ?_
      refine V_aload_n 1 d_Beds_listRows_8 rfl rfl ?_
      refine N_getK fa_Beds_58 sk_1 rfl d_Beds_listRows_9 K11 ?_
      refine V_icmp_ge 36 v8E gE d_Beds_listRows_12 (by decide) (fun c15 => ?_) (fun c15 => ?_)
      ·
        refine V_iconst 0 d_Beds_listRows_36 (by decide) ?_
        refine V_istore_n 2 [some (.ref 104), some (.ref 1), some (.int 0)] d_Beds_listRows_37 rfl (by decide) rfl rfl ?_
        have L16 : ∀ (nn : Nat) (v18 : Int32) (v18Z : Int) (h19 : Hp), v18.toInt = v18Z → Inv h19 → fr S_Beds_listRowsX h h19 → h19.1 1 0 = w → h19.1 1 1 = g → 0 ≤ v18Z ∧ v18Z ≤ wZ → HZ h19 105 104 1 (clR wZ.toNat gZ.toNat gZ.toNat ++ clC wZ.toNat gZ.toNat (v18Z).toNat) → 4 - v18Z < (nn : Int) → V R_Beds b_Beds_listRows 3 none 1 26 (q_Beds_listRowsX h w wZ g gZ) h19 38 [some (.ref 104), some (.ref 1), some (.int v18)] [] := by
          intro nn
          induction nn with
          | zero => intro v18 v18Z h19 v18E Ih19 Fh19 K20 K21 q22 q23 hm24; exact absurd hm24 (by (first | decide +kernel | omega))
          | succ nn ihL16 =>
            intro v18 v18Z h19 v18E Ih19 Fh19 K20 K21 q22 q23 hm24
            refine V_iload_n 2 d_Beds_listRows_38 rfl rfl ?_
            refine V_aload_n 1 d_Beds_listRows_39 rfl rfl ?_
            refine N_getK fa_Beds_61 sk_1 rfl d_Beds_listRows_40 K20 ?_
            refine V_icmp_ge 65 v18E wE d_Beds_listRows_43 (by decide) (fun c25 => ?_) (fun c25 => ?_)
            ·
              exact V_vret rfl d_Beds_listRows_65 ⟨rfl, ⟨Ih19, Fh19, (HZ_eq (show HZ h19 105 104 1 (clR wZ.toNat gZ.toNat gZ.toNat ++ clC wZ.toNat gZ.toNat (v18Z).toNat) from by assumption) (by rw [show (v18Z).toNat = wZ.toNat by (first | decide +kernel | omega)]; rfl))⟩⟩
            ·
              refine V_aload_n 0 d_Beds_listRows_46 rfl rfl ?_
              refine V_iload_n 2 d_Beds_listRows_47 rfl rfl ?_
              refine V_aload_n 1 d_Beds_listRows_48 rfl rfl ?_
              refine N_getK fa_Beds_61 sk_1 rfl d_Beds_listRows_49 K20 ?_
              refine V_aload_n 1 d_Beds_listRows_52 rfl rfl ?_
              refine N_getK fa_Beds_58 sk_1 rfl d_Beds_listRows_53 K21 ?_
              refine N_callVV [.int v18, .int w, .int g] [] cv_Beds_64 sk_104 rfl d_Beds_listRows_56 rfl (Nat.le_of_ble_eq_true rfl) (by decide) (by decide) (c_Beds_listRowsAlongX h19 (clR wZ.toNat gZ.toNat gZ.toNat ++ clC wZ.toNat gZ.toNat (v18Z).toNat) Ih19 v18 v18Z v18E w wZ wE g gZ gE (by assumption) ((cl_len wZ.toNat (by (first | decide +kernel | omega)) (by (first | decide +kernel | omega)) gZ.toNat (by (first | decide +kernel | omega)) (by (first | decide +kernel | omega))).2 _ (by (first | decide +kernel | omega))) (by (first | decide +kernel | omega)) (by (first | decide +kernel | omega))) (fun h27 p28 => ?_)
              obtain ⟨hI29, fh27, p28⟩ := p28
              have f30 : fr S_Beds_listRowsX h h27 := fr_call Fh19 fh27 rfl
              obtain ⟨z31, z31E, z31e⟩ : ∃ y : Int32, y.toInt = v18Z + 1 ∧ y = v18 + Int32.ofInt 1 := ⟨_, ti_add v18E (by decide) (by (first | decide +kernel | omega)), rfl⟩
              refine V_iinc 2 [some (.ref 104), some (.ref 1), some (.int z31)] d_Beds_listRows_59 rfl z31e.symm (by decide) rfl rfl ?_
              refine V_goto 38 d_Beds_listRows_62 (by decide) ?_
              exact ihL16 z31 ((v18Z + 1)) h27 z31E hI29 f30 (kn_call fh27 K20 rfl) (kn_call fh27 K21 rfl) (by (first | decide +kernel | omega)) (by rw [show (v18Z + 1).toNat = (v18Z).toNat + 1 by (first | decide +kernel | omega), clC_s, ← List.append_assoc]; exact p28) (by (first | decide +kernel | omega))
        exact L16 (Int.toNat ((4 - 0 : Int) + 1)) 0 0 h9 tc_0 Ih9 Fh9 K10 K11 (by (first | decide +kernel | omega)) (HZ_eq (show HZ h9 105 104 1 (clR wZ.toNat gZ.toNat (v8Z).toNat) from by assumption) (by rw [show (v8Z).toNat = gZ.toNat by (first | decide +kernel | omega)]; exact (List.append_nil _).symm)) (by (first | decide +kernel | omega))
      ·
        refine V_aload_n 0 d_Beds_listRows_15 rfl rfl ?_
        refine V_iload_n 2 d_Beds_listRows_16 rfl rfl ?_
        refine V_aload_n 1 d_Beds_listRows_17 rfl rfl ?_
        refine N_getK fa_Beds_61 sk_1 rfl d_Beds_listRows_18 K10 ?_
        refine N_imulw d_Beds_listRows_21 (fun z32 z32Z z32E z32e => ?_)
        have g33 := mulx v8E wE (by (first | decide +kernel | omega)) (by (first | decide +kernel | omega)) z32e z32E
        refine V_iconst 1 d_Beds_listRows_22 (by decide) ?_
        refine V_aload_n 1 d_Beds_listRows_23 rfl rfl ?_
        refine N_getK fa_Beds_61 sk_1 rfl d_Beds_listRows_24 K10 ?_
        refine N_callVV [.int z32, .int 1, .int w] [] cv_Beds_64 sk_104 rfl d_Beds_listRows_27 rfl (Nat.le_of_ble_eq_true rfl) (by decide) (by decide) (c_Beds_listRowsAlongX h9 (clR wZ.toNat gZ.toNat (v8Z).toNat) Ih9 z32 z32Z z32E 1 1 tc_1 w wZ wE (by assumption) ((cl_len wZ.toNat (by (first | decide +kernel | omega)) (by (first | decide +kernel | omega)) gZ.toNat (by (first | decide +kernel | omega)) (by (first | decide +kernel | omega))).1 _ (by (first | decide +kernel | omega))) (by (first | decide +kernel | omega)) (by (first | decide +kernel | omega))) (fun h35 p36 => ?_)
        obtain ⟨hI37, fh35, p36⟩ := p36
        have f38 : fr S_Beds_listRowsX h h35 := fr_call Fh9 fh35 rfl
        obtain ⟨z39, z39E, z39e⟩ : ∃ y : Int32, y.toInt = v8Z + 1 ∧ y = v8 + Int32.ofInt 1 := ⟨_, ti_add v8E (by decide) (by (first | decide +kernel | omega)), rfl⟩
        refine V_iinc 2 [some (.ref 104), some (.ref 1), some (.int z39)] d_Beds_listRows_30 rfl z39e.symm (by decide) rfl rfl ?_
        refine V_goto 7 d_Beds_listRows_33 (by decide) ?_
        exact ihL6 z39 ((v8Z + 1)) h35 z39E hI37 f38 (kn_call fh35 K10 rfl) (kn_call fh35 K11 rfl) (by (first | decide +kernel | omega)) (by rw [show (v8Z + 1).toNat = (v8Z).toNat + 1 by (first | decide +kernel | omega), clR_s, show (v8Z).toNat * wZ.toNat = (z32Z).toNat by (first | decide +kernel | omega)]; exact p36) (by (first | decide +kernel | omega))
  exact L6 (Int.toNat ((4 - 0 : Int) + 1)) 0 0 h3 tc_0 hI4 f5 (kn_ne eh3 wK (by decide)) (kn_ne eh3 gK (by decide)) (by (first | decide +kernel | omega)) ⟨HL_nil, by rw [eh3, pI_at, if_pos ⟨rfl, rfl⟩]; rfl⟩ (by (first | decide +kernel | omega))
def S_Mod_addBedX : List (Nat × Option Nat) := [(125, none), (116, some 28)]
abbrev q_Mod_addBedX (h : Hp) (L : List Bd) (f : Int32) (fZ : Int) (s : Int32) (sZ : Int) (l : Int32) (lZ : Int) (q : Int32) (qZ : Int) : Option Value → Hp → Prop := pVd (fun h' => Inv h' ∧ fr S_Mod_addBedX h h' ∧ (HZ h' 125 116 28 (L ++ [(fZ.toNat, sZ.toNat, lZ.toNat)])))
set_option maxRecDepth 100000 in
theorem c_Mod_addBedX (h : Hp) (L : List Bd) (hI : Inv h) (f : Int32) (fZ : Int) (fE : f.toInt = fZ) (s : Int32) (sZ : Int) (sE : s.toInt = sZ) (l : Int32) (lZ : Int) (lE : l.toInt = lZ) (q : Int32) (qZ : Int) (qE : q.toInt = qZ) (qK : h.1 116 28 = q) (hy0 : HZ h 125 116 28 L) (hy1 : L.length + 1 ≤ 48) (hy2 : 2 ≤ lZ ∧ lZ ≤ 4) (hy3 : (0 ≤ fZ ∧ fZ ≤ 15) ∧ 0 ≤ sZ ∧ sZ ≤ 4) : Ct y_Mod_addBed b_Mod_addBed 6 none 0 0 [.ref 116, .int f, .int s, .int l] h (q_Mod_addBedX h L f fZ s sZ l lZ q qZ) := by
  refine ct_ow R_Mod [some (.ref 116), some (.int f), some (.int s), some (.int l), none, none] rfl (by decide) rfl (Nat.le_of_ble_eq_true rfl) ?_
  have f0 : fr S_Mod_addBedX h h := fr_rf
  have g1 : 0 ≤ qZ ∧ qZ ≤ 48 := inv_at hI qE qK.symm rfl
  have hq9 : qZ = (L.length : Int) := by rw [← qE, ← qK]; exact hy0.2
  rcases (by (first | decide +kernel | omega) : lZ = 2 ∨ lZ = 3 ∨ lZ = 4) with c2 | c2 | c2
  ·
    have B3 := inB_0 (t := (fZ.toNat, sZ.toNat, 0)) rfl
    refine V_iconst 0 d_Mod_addBed_0 (by decide) ?_
    refine V_istore 4 [some (.ref 116), some (.int f), some (.int s), some (.int l), some (.int 0), none] d_Mod_addBed_1 (by decide) rfl rfl ?_
    refine V_iconst 0 d_Mod_addBed_3 (by decide) ?_
    refine V_istore 5 [some (.ref 116), some (.int f), some (.int s), some (.int l), some (.int 0), some (.int 0)] d_Mod_addBed_4 (by decide) rfl rfl ?_
    refine V_iload d_Mod_addBed_6 rfl ?_
    refine V_iload_n 3 d_Mod_addBed_8 rfl rfl ?_
    refine V_icmp_ge 31 tc_0 (lE.trans c2) d_Mod_addBed_9 (by decide) (fun c4 => ?_) (fun c4 => ?_)
    ·
      exact absurd c4 (by decide)
    ·
      refine V_iload d_Mod_addBed_12 rfl ?_
      refine V_iconst 1 d_Mod_addBed_14 (by decide) ?_
      refine V_iload_n 1 d_Mod_addBed_15 rfl rfl ?_
      refine V_iload_n 2 d_Mod_addBed_16 rfl rfl ?_
      refine V_iload d_Mod_addBed_17 rfl ?_
      refine V_imul sE tc_0 (by (first | decide +kernel | omega)) d_Mod_addBed_19 (fun z5 z5e z5E => ?_)
      refine V_iadd fE z5E (by (first | decide +kernel | omega)) d_Mod_addBed_20 (fun z6 z6e z6E => ?_)
      refine N_ishl d_Mod_addBed_21 (fun z7 z7Z z7E z7e => ?_)
      refine N_ior d_Mod_addBed_22 (fun z8 z8Z z8E z8e => ?_)
      have B9 := inB_s (f := fZ.toNat) (st := sZ.toNat) (n := 0) B3 z6E (by (first | decide +kernel | omega)) (by (first | decide +kernel | omega)) z7e z8e
      refine V_istore 4 [some (.ref 116), some (.int f), some (.int s), some (.int l), some (.int z8), some (.int 0)] d_Mod_addBed_23 (by decide) rfl rfl ?_
      refine V_iinc (v := 1) 5 [some (.ref 116), some (.int f), some (.int s), some (.int l), some (.int z8), some (.int 1)] d_Mod_addBed_25 rfl (by decide) (by decide) rfl rfl ?_
      refine V_goto 6 d_Mod_addBed_28 (by decide) ?_
      refine V_iload d_Mod_addBed_6 rfl ?_
      refine V_iload_n 3 d_Mod_addBed_8 rfl rfl ?_
      refine V_icmp_ge 31 tc_1 (lE.trans c2) d_Mod_addBed_9 (by decide) (fun c11 => ?_) (fun c11 => ?_)
      ·
        exact absurd c11 (by decide)
      ·
        refine V_iload d_Mod_addBed_12 rfl ?_
        refine V_iconst 1 d_Mod_addBed_14 (by decide) ?_
        refine V_iload_n 1 d_Mod_addBed_15 rfl rfl ?_
        refine V_iload_n 2 d_Mod_addBed_16 rfl rfl ?_
        refine V_iload d_Mod_addBed_17 rfl ?_
        refine V_imul sE tc_1 (by (first | decide +kernel | omega)) d_Mod_addBed_19 (fun z12 z12e z12E => ?_)
        refine V_iadd fE z12E (by (first | decide +kernel | omega)) d_Mod_addBed_20 (fun z13 z13e z13E => ?_)
        refine N_ishl d_Mod_addBed_21 (fun z14 z14Z z14E z14e => ?_)
        refine N_ior d_Mod_addBed_22 (fun z15 z15Z z15E z15e => ?_)
        have B16 := inB_s (f := fZ.toNat) (st := sZ.toNat) (n := 1) B9 z13E (by (first | decide +kernel | omega)) (by (first | decide +kernel | omega)) z14e z15e
        refine V_istore 4 [some (.ref 116), some (.int f), some (.int s), some (.int l), some (.int z15), some (.int 1)] d_Mod_addBed_23 (by decide) rfl rfl ?_
        refine V_iinc (v := 2) 5 [some (.ref 116), some (.int f), some (.int s), some (.int l), some (.int z15), some (.int 2)] d_Mod_addBed_25 rfl (by decide) (by decide) rfl rfl ?_
        refine V_goto 6 d_Mod_addBed_28 (by decide) ?_
        refine V_iload d_Mod_addBed_6 rfl ?_
        refine V_iload_n 3 d_Mod_addBed_8 rfl rfl ?_
        refine V_icmp_ge 31 tc_2 (lE.trans c2) d_Mod_addBed_9 (by decide) (fun c18 => ?_) (fun c18 => ?_)
        ·
          refine V_aload_n 0 d_Mod_addBed_31 rfl rfl ?_
          refine V_getR fa_Mod_35 sk_116 rfl d_Mod_addBed_32 ?_
          refine V_aload_n 0 d_Mod_addBed_35 rfl rfl ?_
          refine N_getK fa_Mod_289 sk_116 rfl d_Mod_addBed_36 qK ?_
          refine V_iload d_Mod_addBed_39 rfl ?_
          refine N_iast sk_125 qE (by (first | decide +kernel | omega)) d_Mod_addBed_41 (fun h19 eh19 => ?_)
          have hI20 : Inv h19 := inv_full hI eh19 rfl
          have f21 : fr S_Mod_addBedX h h19 := fr_put f0 eh19 rfl
          refine V_aload_n 0 d_Mod_addBed_42 rfl rfl ?_
          refine V_dup d_Mod_addBed_43 rfl ?_
          refine N_getK fa_Mod_289 sk_116 rfl d_Mod_addBed_44 (kn_ne eh19 qK (by decide)) ?_
          refine V_iconst 1 d_Mod_addBed_47 (by decide) ?_
          refine V_iadd qE tc_1 (by (first | decide +kernel | omega)) d_Mod_addBed_48 (fun z22 z22e z22E => ?_)
          refine N_putI fp_Mod_289 sk_116 rfl d_Mod_addBed_49 (fun h23 eh23 => ?_)
          have hI24 : Inv h23 := inv_put (lo := 0) (hi := 48) hI20 eh23 rfl z22E (by (first | decide +kernel | omega))
          have f25 : fr S_Mod_addBedX h h23 := fr_put f21 eh23 rfl
          have H9 := HZ_push hy0 (by decide) eh19 (by (first | decide +kernel | omega)) B16 eh23 z22E
          exact V_vret rfl d_Mod_addBed_52 ⟨rfl, ⟨hI24, f25, (HZ_eq H9 (by rw [show lZ.toNat = 2 by (first | decide +kernel | omega)]))⟩⟩
        ·
          exact absurd c18 (by decide)
  ·
    have B26 := inB_0 (t := (fZ.toNat, sZ.toNat, 0)) rfl
    refine V_iconst 0 d_Mod_addBed_0 (by decide) ?_
    refine V_istore 4 [some (.ref 116), some (.int f), some (.int s), some (.int l), some (.int 0), none] d_Mod_addBed_1 (by decide) rfl rfl ?_
    refine V_iconst 0 d_Mod_addBed_3 (by decide) ?_
    refine V_istore 5 [some (.ref 116), some (.int f), some (.int s), some (.int l), some (.int 0), some (.int 0)] d_Mod_addBed_4 (by decide) rfl rfl ?_
    refine V_iload d_Mod_addBed_6 rfl ?_
    refine V_iload_n 3 d_Mod_addBed_8 rfl rfl ?_
    refine V_icmp_ge 31 tc_0 (lE.trans c2) d_Mod_addBed_9 (by decide) (fun c27 => ?_) (fun c27 => ?_)
    ·
      exact absurd c27 (by decide)
    ·
      refine V_iload d_Mod_addBed_12 rfl ?_
      refine V_iconst 1 d_Mod_addBed_14 (by decide) ?_
      refine V_iload_n 1 d_Mod_addBed_15 rfl rfl ?_
      refine V_iload_n 2 d_Mod_addBed_16 rfl rfl ?_
      refine V_iload d_Mod_addBed_17 rfl ?_
      refine V_imul sE tc_0 (by (first | decide +kernel | omega)) d_Mod_addBed_19 (fun z28 z28e z28E => ?_)
      refine V_iadd fE z28E (by (first | decide +kernel | omega)) d_Mod_addBed_20 (fun z29 z29e z29E => ?_)
      refine N_ishl d_Mod_addBed_21 (fun z30 z30Z z30E z30e => ?_)
      refine N_ior d_Mod_addBed_22 (fun z31 z31Z z31E z31e => ?_)
      have B32 := inB_s (f := fZ.toNat) (st := sZ.toNat) (n := 0) B26 z29E (by (first | decide +kernel | omega)) (by (first | decide +kernel | omega)) z30e z31e
      refine V_istore 4 [some (.ref 116), some (.int f), some (.int s), some (.int l), some (.int z31), some (.int 0)] d_Mod_addBed_23 (by decide) rfl rfl ?_
      refine V_iinc (v := 1) 5 [some (.ref 116), some (.int f), some (.int s), some (.int l), some (.int z31), some (.int 1)] d_Mod_addBed_25 rfl (by decide) (by decide) rfl rfl ?_
      refine V_goto 6 d_Mod_addBed_28 (by decide) ?_
      refine V_iload d_Mod_addBed_6 rfl ?_
      refine V_iload_n 3 d_Mod_addBed_8 rfl rfl ?_
      refine V_icmp_ge 31 tc_1 (lE.trans c2) d_Mod_addBed_9 (by decide) (fun c34 => ?_) (fun c34 => ?_)
      ·
        exact absurd c34 (by decide)
      ·
        refine V_iload d_Mod_addBed_12 rfl ?_
        refine V_iconst 1 d_Mod_addBed_14 (by decide) ?_
        refine V_iload_n 1 d_Mod_addBed_15 rfl rfl ?_
        refine V_iload_n 2 d_Mod_addBed_16 rfl rfl ?_
        refine V_iload d_Mod_addBed_17 rfl ?_
        refine V_imul sE tc_1 (by (first | decide +kernel | omega)) d_Mod_addBed_19 (fun z35 z35e z35E => ?_)
        refine V_iadd fE z35E (by (first | decide +kernel | omega)) d_Mod_addBed_20 (fun z36 z36e z36E => ?_)
        refine N_ishl d_Mod_addBed_21 (fun z37 z37Z z37E z37e => ?_)
        refine N_ior d_Mod_addBed_22 (fun z38 z38Z z38E z38e => ?_)
        have B39 := inB_s (f := fZ.toNat) (st := sZ.toNat) (n := 1) B32 z36E (by (first | decide +kernel | omega)) (by (first | decide +kernel | omega)) z37e z38e
        refine V_istore 4 [some (.ref 116), some (.int f), some (.int s), some (.int l), some (.int z38), some (.int 1)] d_Mod_addBed_23 (by decide) rfl rfl ?_
        refine V_iinc (v := 2) 5 [some (.ref 116), some (.int f), some (.int s), some (.int l), some (.int z38), some (.int 2)] d_Mod_addBed_25 rfl (by decide) (by decide) rfl rfl ?_
        refine V_goto 6 d_Mod_addBed_28 (by decide) ?_
        refine V_iload d_Mod_addBed_6 rfl ?_
        refine V_iload_n 3 d_Mod_addBed_8 rfl rfl ?_
        refine V_icmp_ge 31 tc_2 (lE.trans c2) d_Mod_addBed_9 (by decide) (fun c41 => ?_) (fun c41 => ?_)
        ·
          exact absurd c41 (by decide)
        ·
          refine V_iload d_Mod_addBed_12 rfl ?_
          refine V_iconst 1 d_Mod_addBed_14 (by decide) ?_
          refine V_iload_n 1 d_Mod_addBed_15 rfl rfl ?_
          refine V_iload_n 2 d_Mod_addBed_16 rfl rfl ?_
          refine V_iload d_Mod_addBed_17 rfl ?_
          refine V_imul sE tc_2 (by (first | decide +kernel | omega)) d_Mod_addBed_19 (fun z42 z42e z42E => ?_)
          refine V_iadd fE z42E (by (first | decide +kernel | omega)) d_Mod_addBed_20 (fun z43 z43e z43E => ?_)
          refine N_ishl d_Mod_addBed_21 (fun z44 z44Z z44E z44e => ?_)
          refine N_ior d_Mod_addBed_22 (fun z45 z45Z z45E z45e => ?_)
          have B46 := inB_s (f := fZ.toNat) (st := sZ.toNat) (n := 2) B39 z43E (by (first | decide +kernel | omega)) (by (first | decide +kernel | omega)) z44e z45e
          refine V_istore 4 [some (.ref 116), some (.int f), some (.int s), some (.int l), some (.int z45), some (.int 2)] d_Mod_addBed_23 (by decide) rfl rfl ?_
          refine V_iinc (v := 3) 5 [some (.ref 116), some (.int f), some (.int s), some (.int l), some (.int z45), some (.int 3)] d_Mod_addBed_25 rfl (by decide) (by decide) rfl rfl ?_
          refine V_goto 6 d_Mod_addBed_28 (by decide) ?_
          refine V_iload d_Mod_addBed_6 rfl ?_
          refine V_iload_n 3 d_Mod_addBed_8 rfl rfl ?_
          refine V_icmp_ge 31 tc_3 (lE.trans c2) d_Mod_addBed_9 (by decide) (fun c48 => ?_) (fun c48 => ?_)
          ·
            refine V_aload_n 0 d_Mod_addBed_31 rfl rfl ?_
            refine V_getR fa_Mod_35 sk_116 rfl d_Mod_addBed_32 ?_
            refine V_aload_n 0 d_Mod_addBed_35 rfl rfl ?_
            refine N_getK fa_Mod_289 sk_116 rfl d_Mod_addBed_36 qK ?_
            refine V_iload d_Mod_addBed_39 rfl ?_
            refine N_iast sk_125 qE (by (first | decide +kernel | omega)) d_Mod_addBed_41 (fun h49 eh49 => ?_)
            have hI50 : Inv h49 := inv_full hI eh49 rfl
            have f51 : fr S_Mod_addBedX h h49 := fr_put f0 eh49 rfl
            refine V_aload_n 0 d_Mod_addBed_42 rfl rfl ?_
            refine V_dup d_Mod_addBed_43 rfl ?_
            refine N_getK fa_Mod_289 sk_116 rfl d_Mod_addBed_44 (kn_ne eh49 qK (by decide)) ?_
            refine V_iconst 1 d_Mod_addBed_47 (by decide) ?_
            refine V_iadd qE tc_1 (by (first | decide +kernel | omega)) d_Mod_addBed_48 (fun z52 z52e z52E => ?_)
            refine N_putI fp_Mod_289 sk_116 rfl d_Mod_addBed_49 (fun h53 eh53 => ?_)
            have hI54 : Inv h53 := inv_put (lo := 0) (hi := 48) hI50 eh53 rfl z52E (by (first | decide +kernel | omega))
            have f55 : fr S_Mod_addBedX h h53 := fr_put f51 eh53 rfl
            have H9 := HZ_push hy0 (by decide) eh49 (by (first | decide +kernel | omega)) B46 eh53 z52E
            exact V_vret rfl d_Mod_addBed_52 ⟨rfl, ⟨hI54, f55, (HZ_eq H9 (by rw [show lZ.toNat = 3 by (first | decide +kernel | omega)]))⟩⟩
          ·
            exact absurd c48 (by decide)
  ·
    have B56 := inB_0 (t := (fZ.toNat, sZ.toNat, 0)) rfl
    refine V_iconst 0 d_Mod_addBed_0 (by decide) ?_
    refine V_istore 4 [some (.ref 116), some (.int f), some (.int s), some (.int l), some (.int 0), none] d_Mod_addBed_1 (by decide) rfl rfl ?_
    refine V_iconst 0 d_Mod_addBed_3 (by decide) ?_
    refine V_istore 5 [some (.ref 116), some (.int f), some (.int s), some (.int l), some (.int 0), some (.int 0)] d_Mod_addBed_4 (by decide) rfl rfl ?_
    refine V_iload d_Mod_addBed_6 rfl ?_
    refine V_iload_n 3 d_Mod_addBed_8 rfl rfl ?_
    refine V_icmp_ge 31 tc_0 (lE.trans c2) d_Mod_addBed_9 (by decide) (fun c57 => ?_) (fun c57 => ?_)
    ·
      exact absurd c57 (by decide)
    ·
      refine V_iload d_Mod_addBed_12 rfl ?_
      refine V_iconst 1 d_Mod_addBed_14 (by decide) ?_
      refine V_iload_n 1 d_Mod_addBed_15 rfl rfl ?_
      refine V_iload_n 2 d_Mod_addBed_16 rfl rfl ?_
      refine V_iload d_Mod_addBed_17 rfl ?_
      refine V_imul sE tc_0 (by (first | decide +kernel | omega)) d_Mod_addBed_19 (fun z58 z58e z58E => ?_)
      refine V_iadd fE z58E (by (first | decide +kernel | omega)) d_Mod_addBed_20 (fun z59 z59e z59E => ?_)
      refine N_ishl d_Mod_addBed_21 (fun z60 z60Z z60E z60e => ?_)
      refine N_ior d_Mod_addBed_22 (fun z61 z61Z z61E z61e => ?_)
      have B62 := inB_s (f := fZ.toNat) (st := sZ.toNat) (n := 0) B56 z59E (by (first | decide +kernel | omega)) (by (first | decide +kernel | omega)) z60e z61e
      refine V_istore 4 [some (.ref 116), some (.int f), some (.int s), some (.int l), some (.int z61), some (.int 0)] d_Mod_addBed_23 (by decide) rfl rfl ?_
      refine V_iinc (v := 1) 5 [some (.ref 116), some (.int f), some (.int s), some (.int l), some (.int z61), some (.int 1)] d_Mod_addBed_25 rfl (by decide) (by decide) rfl rfl ?_
      refine V_goto 6 d_Mod_addBed_28 (by decide) ?_
      refine V_iload d_Mod_addBed_6 rfl ?_
      refine V_iload_n 3 d_Mod_addBed_8 rfl rfl ?_
      refine V_icmp_ge 31 tc_1 (lE.trans c2) d_Mod_addBed_9 (by decide) (fun c64 => ?_) (fun c64 => ?_)
      ·
        exact absurd c64 (by decide)
      ·
        refine V_iload d_Mod_addBed_12 rfl ?_
        refine V_iconst 1 d_Mod_addBed_14 (by decide) ?_
        refine V_iload_n 1 d_Mod_addBed_15 rfl rfl ?_
        refine V_iload_n 2 d_Mod_addBed_16 rfl rfl ?_
        refine V_iload d_Mod_addBed_17 rfl ?_
        refine V_imul sE tc_1 (by (first | decide +kernel | omega)) d_Mod_addBed_19 (fun z65 z65e z65E => ?_)
        refine V_iadd fE z65E (by (first | decide +kernel | omega)) d_Mod_addBed_20 (fun z66 z66e z66E => ?_)
        refine N_ishl d_Mod_addBed_21 (fun z67 z67Z z67E z67e => ?_)
        refine N_ior d_Mod_addBed_22 (fun z68 z68Z z68E z68e => ?_)
        have B69 := inB_s (f := fZ.toNat) (st := sZ.toNat) (n := 1) B62 z66E (by (first | decide +kernel | omega)) (by (first | decide +kernel | omega)) z67e z68e
        refine V_istore 4 [some (.ref 116), some (.int f), some (.int s), some (.int l), some (.int z68), some (.int 1)] d_Mod_addBed_23 (by decide) rfl rfl ?_
        refine V_iinc (v := 2) 5 [some (.ref 116), some (.int f), some (.int s), some (.int l), some (.int z68), some (.int 2)] d_Mod_addBed_25 rfl (by decide) (by decide) rfl rfl ?_
        refine V_goto 6 d_Mod_addBed_28 (by decide) ?_
        refine V_iload d_Mod_addBed_6 rfl ?_
        refine V_iload_n 3 d_Mod_addBed_8 rfl rfl ?_
        refine V_icmp_ge 31 tc_2 (lE.trans c2) d_Mod_addBed_9 (by decide) (fun c71 => ?_) (fun c71 => ?_)
        ·
          exact absurd c71 (by decide)
        ·
          refine V_iload d_Mod_addBed_12 rfl ?_
          refine V_iconst 1 d_Mod_addBed_14 (by decide) ?_
          refine V_iload_n 1 d_Mod_addBed_15 rfl rfl ?_
          refine V_iload_n 2 d_Mod_addBed_16 rfl rfl ?_
          refine V_iload d_Mod_addBed_17 rfl ?_
          refine V_imul sE tc_2 (by (first | decide +kernel | omega)) d_Mod_addBed_19 (fun z72 z72e z72E => ?_)
          refine V_iadd fE z72E (by (first | decide +kernel | omega)) d_Mod_addBed_20 (fun z73 z73e z73E => ?_)
          refine N_ishl d_Mod_addBed_21 (fun z74 z74Z z74E z74e => ?_)
          refine N_ior d_Mod_addBed_22 (fun z75 z75Z z75E z75e => ?_)
          have B76 := inB_s (f := fZ.toNat) (st := sZ.toNat) (n := 2) B69 z73E (by (first | decide +kernel | omega)) (by (first | decide +kernel | omega)) z74e z75e
          refine V_istore 4 [some (.ref 116), some (.int f), some (.int s), some (.int l), some (.int z75), some (.int 2)] d_Mod_addBed_23 (by decide) rfl rfl ?_
          refine V_iinc (v := 3) 5 [some (.ref 116), some (.int f), some (.int s), some (.int l), some (.int z75), some (.int 3)] d_Mod_addBed_25 rfl (by decide) (by decide) rfl rfl ?_
          refine V_goto 6 d_Mod_addBed_28 (by decide) ?_
          refine V_iload d_Mod_addBed_6 rfl ?_
          refine V_iload_n 3 d_Mod_addBed_8 rfl rfl ?_
          refine V_icmp_ge 31 tc_3 (lE.trans c2) d_Mod_addBed_9 (by decide) (fun c78 => ?_) (fun c78 => ?_)
          ·
            exact absurd c78 (by decide)
          ·
            refine V_iload d_Mod_addBed_12 rfl ?_
            refine V_iconst 1 d_Mod_addBed_14 (by decide) ?_
            refine V_iload_n 1 d_Mod_addBed_15 rfl rfl ?_
            refine V_iload_n 2 d_Mod_addBed_16 rfl rfl ?_
            refine V_iload d_Mod_addBed_17 rfl ?_
            refine V_imul sE tc_3 (by (first | decide +kernel | omega)) d_Mod_addBed_19 (fun z79 z79e z79E => ?_)
            refine V_iadd fE z79E (by (first | decide +kernel | omega)) d_Mod_addBed_20 (fun z80 z80e z80E => ?_)
            refine N_ishl d_Mod_addBed_21 (fun z81 z81Z z81E z81e => ?_)
            refine N_ior d_Mod_addBed_22 (fun z82 z82Z z82E z82e => ?_)
            have B83 := inB_s (f := fZ.toNat) (st := sZ.toNat) (n := 3) B76 z80E (by (first | decide +kernel | omega)) (by (first | decide +kernel | omega)) z81e z82e
            refine V_istore 4 [some (.ref 116), some (.int f), some (.int s), some (.int l), some (.int z82), some (.int 3)] d_Mod_addBed_23 (by decide) rfl rfl ?_
            refine V_iinc (v := 4) 5 [some (.ref 116), some (.int f), some (.int s), some (.int l), some (.int z82), some (.int 4)] d_Mod_addBed_25 rfl (by decide) (by decide) rfl rfl ?_
            refine V_goto 6 d_Mod_addBed_28 (by decide) ?_
            refine V_iload d_Mod_addBed_6 rfl ?_
            refine V_iload_n 3 d_Mod_addBed_8 rfl rfl ?_
            refine V_icmp_ge 31 tc_4 (lE.trans c2) d_Mod_addBed_9 (by decide) (fun c85 => ?_) (fun c85 => ?_)
            ·
              refine V_aload_n 0 d_Mod_addBed_31 rfl rfl ?_
              refine V_getR fa_Mod_35 sk_116 rfl d_Mod_addBed_32 ?_
              refine V_aload_n 0 d_Mod_addBed_35 rfl rfl ?_
              refine N_getK fa_Mod_289 sk_116 rfl d_Mod_addBed_36 qK ?_
              refine V_iload d_Mod_addBed_39 rfl ?_
              refine N_iast sk_125 qE (by (first | decide +kernel | omega)) d_Mod_addBed_41 (fun h86 eh86 => ?_)
              have hI87 : Inv h86 := inv_full hI eh86 rfl
              have f88 : fr S_Mod_addBedX h h86 := fr_put f0 eh86 rfl
              refine V_aload_n 0 d_Mod_addBed_42 rfl rfl ?_
              refine V_dup d_Mod_addBed_43 rfl ?_
              refine N_getK fa_Mod_289 sk_116 rfl d_Mod_addBed_44 (kn_ne eh86 qK (by decide)) ?_
              refine V_iconst 1 d_Mod_addBed_47 (by decide) ?_
              refine V_iadd qE tc_1 (by (first | decide +kernel | omega)) d_Mod_addBed_48 (fun z89 z89e z89E => ?_)
              refine N_putI fp_Mod_289 sk_116 rfl d_Mod_addBed_49 (fun h90 eh90 => ?_)
              have hI91 : Inv h90 := inv_put (lo := 0) (hi := 48) hI87 eh90 rfl z89E (by (first | decide +kernel | omega))
              have f92 : fr S_Mod_addBedX h h90 := fr_put f88 eh90 rfl
              have H9 := HZ_push hy0 (by decide) eh86 (by (first | decide +kernel | omega)) B83 eh90 z89E
              exact V_vret rfl d_Mod_addBed_52 ⟨rfl, ⟨hI91, f92, (HZ_eq H9 (by rw [show lZ.toNat = 4 by (first | decide +kernel | omega)]))⟩⟩
            ·
              exact absurd c85 (by decide)
def S_Mod_findBedsX : List (Nat × Option Nat) := [(125, none), (116, some 28)]
abbrev q_Mod_findBedsX (h : Hp) (w : Int32) (wZ : Int) (g : Int32) (gZ : Int) : Option Value → Hp → Prop := pVd (fun h' => Inv h' ∧ fr S_Mod_findBedsX h h' ∧ (HZ h' 125 116 28 (mlL wZ.toNat gZ.toNat (wZ * gZ).toNat)))
set_option maxRecDepth 100000 in
theorem c_Mod_findBedsX (h : Hp) (hI : Inv h) (w : Int32) (wZ : Int) (wE : w.toInt = wZ) (wK : h.1 116 2 = w) (g : Int32) (gZ : Int) (gE : g.toInt = gZ) (gK : h.1 116 3 = g) : Ct y_Mod_findBeds b_Mod_findBeds 3 none 1 25 [.ref 116] h (q_Mod_findBedsX h w wZ g gZ) := by
  refine ct_ow R_Mod [some (.ref 116), none, none] rfl (by decide) rfl (Nat.le_of_ble_eq_true rfl) ?_
  have f0 : fr S_Mod_findBedsX h h := fr_rf
  have g1 : 2 ≤ wZ ∧ wZ ≤ 4 := inv_at hI wE wK.symm rfl
  have g2 : 2 ≤ gZ ∧ gZ ≤ 4 := inv_at hI gE gK.symm rfl
  have m24 := mul24 (A := wZ) (B := gZ) (by (first | decide +kernel | omega)) (by (first | decide +kernel | omega))
  refine V_aload_n 0 d_Mod_findBeds_0 rfl rfl ?_
  refine V_iconst 0 d_Mod_findBeds_1 (by decide) ?_
  refine N_putI fp_Mod_289 sk_116 rfl d_Mod_findBeds_2 (fun h3 eh3 => ?_)
  have hI4 : Inv h3 := inv_put (lo := 0) (hi := 48) hI eh3 rfl tc_0 (by (first | decide +kernel | omega))
  have f5 : fr S_Mod_findBedsX h h3 := fr_put f0 eh3 rfl
  refine V_iconst 0 d_Mod_findBeds_5 (by decide) ?_
  refine V_istore_n 1 [some (.ref 116), some (.int 0), none] d_Mod_findBeds_6 rfl (by decide) rfl rfl ?_
  have L6 : ∀ (nn : Nat) (v8 : Int32) (v8Z : Int) (h9 : Hp), v8.toInt = v8Z → Inv h9 → fr S_Mod_findBedsX h h9 → h9.1 116 2 = w → h9.1 116 3 = g → 0 ≤ v8Z ∧ v8Z ≤ wZ * gZ → HZ h9 125 116 28 (mlL wZ.toNat gZ.toNat (v8Z).toNat) → 16 - v8Z < (nn : Int) → V R_Mod b_Mod_findBeds 3 none 1 25 (q_Mod_findBedsX h w wZ g gZ) h9 7 [some (.ref 116), some (.int v8), none] [] := by
    intro nn
    induction nn with
    | zero => intro v8 v8Z h9 v8E Ih9 Fh9 K10 K11 q12 q13 hm14; exact absurd hm14 (by (first | decide +kernel | omega))
    | succ nn ihL6 =>
      intro v8 v8Z h9 v8E Ih9 Fh9 K10 K11 q12 q13 hm14
      refine V_iload_n 1 d_Mod_findBeds_7 rfl rfl ?_
      refine V_aload_n 0 d_Mod_findBeds_8 rfl rfl ?_
      refine N_callVI [] [.int v8] cv_Mod_183 sk_116 rfl d_Mod_findBeds_9 rfl (Nat.le_of_ble_eq_true rfl) (by decide) (by decide) (c_Mod_cellMany h9 Ih9 w wZ wE K10 g gZ gE K11) (fun z15 h16 z15Z z15E p17 => ?_)
      obtain ⟨eh16, p17⟩ := p17
      subst eh16
      refine V_icmp_ge 84 v8E z15E d_Mod_findBeds_12 (by decide) (fun c18 => ?_) (fun c18 => ?_)
      ·
        exact V_vret rfl d_Mod_findBeds_84 ⟨rfl, ⟨Ih9, Fh9, (HZ_eq (show HZ h9 125 116 28 (mlL wZ.toNat gZ.toNat (v8Z).toNat) from by assumption) (by rw [show (v8Z).toNat = (wZ * gZ).toNat by (first | decide +kernel | omega)]))⟩⟩
      ·
        have hwg : ((wZ.toNat * gZ.toNat : Nat) : Int) = wZ * gZ := by rw [Int.natCast_mul, show ((wZ.toNat : Nat) : Int) = wZ by (first | decide +kernel | omega), show ((gZ.toNat : Nat) : Int) = gZ by (first | decide +kernel | omega)]
        have hcm : (((v8Z).toNat % wZ.toNat : Nat) : Int) = v8Z % wZ ∧ (((v8Z).toNat / wZ.toNat : Nat) : Int) = v8Z / wZ := by rw [Int.natCast_emod, Int.natCast_ediv, show (((v8Z).toNat : Nat) : Int) = v8Z by (first | decide +kernel | omega), show ((wZ.toNat : Nat) : Int) = wZ by (first | decide +kernel | omega)]; exact ⟨rfl, rfl⟩
        have hcb : 0 ≤ v8Z % wZ ∧ v8Z % wZ < wZ ∧ 0 ≤ v8Z / wZ ∧ v8Z / wZ < gZ := by have q9 := rm_s (w := wZ) (g := gZ) (c := v8Z) (M := wZ * gZ) (by (first | decide +kernel | omega)) (by (first | decide +kernel | omega)) rfl (by (first | decide +kernel | omega)); omega
        refine V_iconst 2 d_Mod_findBeds_15 (by decide) ?_
        refine V_istore_n 2 [some (.ref 116), some (.int v8), some (.int 2)] d_Mod_findBeds_16 rfl (by decide) rfl rfl ?_
        have L19 : ∀ (nn : Nat) (v21 : Int32) (v21Z : Int) (h22 : Hp), v21.toInt = v21Z → Inv h22 → fr S_Mod_findBedsX h h22 → h22.1 116 2 = w → h22.1 116 3 = g → 2 ≤ v21Z ∧ v21Z ≤ 5 → v21Z ≤ wZ - (v8Z % wZ) + 1 → HZ h22 125 116 28 ((mlL wZ.toNat gZ.toNat (v8Z).toNat) ++ (mlA (v8Z).toNat 1 (v21Z - 2).toNat)) → 5 - v21Z < (nn : Int) → V R_Mod b_Mod_findBeds 3 none 1 25 (q_Mod_findBedsX h w wZ g gZ) h22 17 [some (.ref 116), some (.int v8), some (.int v21)] [] := by
          intro nn
          induction nn with
          | zero => intro v21 v21Z h22 v21E Ih22 Fh22 K23 K24 q25 q26 q27 hm28; exact absurd hm28 (by (first | decide +kernel | omega))
          | succ nn ihL19 =>
            intro v21 v21Z h22 v21E Ih22 Fh22 K23 K24 q25 q26 q27 hm28
            refine V_iload_n 1 d_Mod_findBeds_17 rfl rfl ?_
            refine V_aload_n 0 d_Mod_findBeds_18 rfl rfl ?_
            refine N_getK fa_Mod_81 sk_116 rfl d_Mod_findBeds_19 K23 ?_
            refine N_irem v8E wE (by (first | decide +kernel | omega)) d_Mod_findBeds_22 (fun z29 z29e z29E => ?_)
            obtain ⟨z29Z, z29G⟩ : ∃ Y : Int, Y = v8Z % wZ := ⟨_, rfl⟩
            rw [← z29G] at z29E
            have g30 : 0 ≤ z29Z ∧ z29Z < wZ := by rw [z29G]; exact ⟨Int.emod_nonneg _ (by (first | decide +kernel | omega)), Int.emod_lt_of_pos _ (by (first | decide +kernel | omega))⟩
            refine V_iload_n 2 d_Mod_findBeds_23 rfl rfl ?_
            refine V_iadd z29E v21E (by (first | decide +kernel | omega)) d_Mod_findBeds_24 (fun z31 z31e z31E => ?_)
            refine V_aload_n 0 d_Mod_findBeds_25 rfl rfl ?_
            refine N_getK fa_Mod_81 sk_116 rfl d_Mod_findBeds_26 K23 ?_
            refine V_icmp_gt 45 z31E wE d_Mod_findBeds_29 (by decide) (fun c32 => ?_) (fun c32 => ?_)
            ·
              refine V_iconst 2 d_Mod_findBeds_45 (by decide) ?_
              refine V_istore_n 2 [some (.ref 116), some (.int v8), some (.int 2)] d_Mod_findBeds_46 rfl (by decide) rfl rfl ?_
              have L33 : ∀ (nn : Nat) (v35 : Int32) (v35Z : Int) (h36 : Hp), v35.toInt = v35Z → Inv h36 → fr S_Mod_findBedsX h h36 → h36.1 116 2 = w → h36.1 116 3 = g → 2 ≤ v35Z ∧ v35Z ≤ 5 → v35Z ≤ gZ - (v8Z / wZ) + 1 → HZ h36 125 116 28 ((mlL wZ.toNat gZ.toNat (v8Z).toNat) ++ (mlA (v8Z).toNat 1 (wZ.toNat - (v8Z).toNat % wZ.toNat - 1)) ++ (mlA (v8Z).toNat wZ.toNat (v35Z - 2).toNat)) → 5 - v35Z < (nn : Int) → V R_Mod b_Mod_findBeds 3 none 1 25 (q_Mod_findBedsX h w wZ g gZ) h36 47 [some (.ref 116), some (.int v8), some (.int v35)] [] := by
                intro nn
                induction nn with
                | zero => intro v35 v35Z h36 v35E Ih36 Fh36 K37 K38 q39 q40 q41 hm42; exact absurd hm42 (by (first | decide +kernel | omega))
                | succ nn ihL33 =>
                  intro v35 v35Z h36 v35E Ih36 Fh36 K37 K38 q39 q40 q41 hm42
                  refine V_iload_n 1 d_Mod_findBeds_47 rfl rfl ?_
                  refine V_aload_n 0 d_Mod_findBeds_48 rfl rfl ?_
                  refine N_getK fa_Mod_81 sk_116 rfl d_Mod_findBeds_49 K37 ?_
                  refine N_idiv v8E wE (by (first | decide +kernel | omega)) d_Mod_findBeds_52 (fun z43 z43e z43E => ?_)
                  obtain ⟨z43Z, z43G⟩ : ∃ Y : Int, Y = v8Z / wZ := ⟨_, rfl⟩
                  rw [← z43G] at z43E
                  have g44 : 0 ≤ z43Z ∧ z43Z ≤ v8Z := by rw [z43G]; exact ⟨Int.ediv_nonneg (by (first | decide +kernel | omega)) (by (first | decide +kernel | omega)), Int.ediv_le_self _ (by (first | decide +kernel | omega))⟩
                  refine V_iload_n 2 d_Mod_findBeds_53 rfl rfl ?_
                  refine V_iadd z43E v35E (by (first | decide +kernel | omega)) d_Mod_findBeds_54 (fun z45 z45e z45E => ?_)
                  refine V_aload_n 0 d_Mod_findBeds_55 rfl rfl ?_
                  refine N_getK fa_Mod_84 sk_116 rfl d_Mod_findBeds_56 K38 ?_
                  refine V_icmp_gt 78 z45E gE d_Mod_findBeds_59 (by decide) (fun c46 => ?_) (fun c46 => ?_)
                  ·
                    obtain ⟨z47, z47E, z47e⟩ : ∃ y : Int32, y.toInt = v8Z + 1 ∧ y = v8 + Int32.ofInt 1 := ⟨_, ti_add v8E (by decide) (by (first | decide +kernel | omega)), rfl⟩
                    refine V_iinc 1 [some (.ref 116), some (.int z47), some (.int v35)] d_Mod_findBeds_78 rfl z47e.symm (by decide) rfl rfl ?_
                    refine V_goto 7 d_Mod_findBeds_81 (by decide) ?_
                    refine V_drop 2 [some (.ref 116), some (.int z47), none] rfl ?_
                    exact ihL6 z47 ((v8Z + 1)) h36 z47E Ih36 Fh36 K37 K38 (by (first | decide +kernel | omega)) (by rw [show (v8Z + 1).toNat = (v8Z).toNat + 1 by (first | decide +kernel | omega), mlL_s]; exact HZ_eq (show HZ h36 125 116 28 ((mlL wZ.toNat gZ.toNat (v8Z).toNat) ++ (mlA (v8Z).toNat 1 (wZ.toNat - (v8Z).toNat % wZ.toNat - 1)) ++ (mlA (v8Z).toNat wZ.toNat (v35Z - 2).toNat)) from by assumption) (by rw [show (v35Z - 2).toNat = gZ.toNat - (v8Z).toNat / wZ.toNat - 1 by (first | decide +kernel | omega), List.append_assoc]; rfl)) (by (first | decide +kernel | omega))
                  ·
                    refine V_aload_n 0 d_Mod_findBeds_62 rfl rfl ?_
                    refine V_iload_n 1 d_Mod_findBeds_63 rfl rfl ?_
                    refine V_aload_n 0 d_Mod_findBeds_64 rfl rfl ?_
                    refine N_getK fa_Mod_81 sk_116 rfl d_Mod_findBeds_65 K37 ?_
                    refine V_iload_n 2 d_Mod_findBeds_68 rfl rfl ?_
                    obtain ⟨z48, z48Z, z48E, z48e⟩ : ∃ (y : Int32) (Y : Int), y.toInt = Y ∧ y = h36.1 116 28 := ⟨_, _, rfl, rfl⟩
                    have g49 : 0 ≤ z48Z ∧ z48Z ≤ 48 := inv_at Ih36 z48E z48e rfl
                    refine N_callVV [.int v8, .int w, .int v35] [] cv_Mod_292 sk_116 rfl d_Mod_findBeds_69 rfl (Nat.le_of_ble_eq_true rfl) (by decide) (by decide) (c_Mod_addBedX h36 ((mlL wZ.toNat gZ.toNat (v8Z).toNat) ++ (mlA (v8Z).toNat 1 (wZ.toNat - (v8Z).toNat % wZ.toNat - 1)) ++ (mlA (v8Z).toNat wZ.toNat (v35Z - 2).toNat)) Ih36 v8 v8Z v8E w wZ wE v35 v35Z v35E z48 z48Z z48E z48e.symm (by assumption) ((ml_len wZ.toNat (by (first | decide +kernel | omega)) (by (first | decide +kernel | omega)) gZ.toNat (by (first | decide +kernel | omega)) (by (first | decide +kernel | omega)) (v8Z).toNat (by (first | decide +kernel | omega))).2 _ (by (first | decide +kernel | omega))) (by (first | decide +kernel | omega)) (by (first | decide +kernel | omega))) (fun h51 p52 => ?_)
                    obtain ⟨hI53, fh51, p52⟩ := p52
                    have f54 : fr S_Mod_findBedsX h h51 := fr_call Fh36 fh51 rfl
                    obtain ⟨z55, z55E, z55e⟩ : ∃ y : Int32, y.toInt = v35Z + 1 ∧ y = v35 + Int32.ofInt 1 := ⟨_, ti_add v35E (by decide) (by (first | decide +kernel | omega)), rfl⟩
                    refine V_iinc 2 [some (.ref 116), some (.int v8), some (.int z55)] d_Mod_findBeds_72 rfl z55e.symm (by decide) rfl rfl ?_
                    refine V_goto 47 d_Mod_findBeds_75 (by decide) ?_
                    exact ihL33 z55 ((v35Z + 1)) h51 z55E hI53 f54 (kn_call fh51 K37 rfl) (kn_call fh51 K38 rfl) (by (first | decide +kernel | omega)) (by (first | decide +kernel | omega)) (by rw [show (v35Z + 1 - 2).toNat = (v35Z - 2).toNat + 1 by (first | decide +kernel | omega), mlA_s, ← List.append_assoc]; exact HZ_eq p52 (by rw [show (v35Z).toNat = (v35Z - 2).toNat + 2 by (first | decide +kernel | omega)])) (by (first | decide +kernel | omega))
              exact L33 (Int.toNat ((5 - 2 : Int) + 1)) 2 2 h22 tc_2 Ih22 Fh22 K23 K24 (by (first | decide +kernel | omega)) (by (first | decide +kernel | omega)) (HZ_eq (show HZ h22 125 116 28 ((mlL wZ.toNat gZ.toNat (v8Z).toNat) ++ (mlA (v8Z).toNat 1 (v21Z - 2).toNat)) from by assumption) (by rw [show (v21Z - 2).toNat = (wZ.toNat - (v8Z).toNat % wZ.toNat - 1) by (first | decide +kernel | omega)]; exact (List.append_nil _).symm)) (by (first | decide +kernel | omega))
            ·
              refine V_aload_n 0 d_Mod_findBeds_32 rfl rfl ?_
              refine V_iload_n 1 d_Mod_findBeds_33 rfl rfl ?_
              refine V_iconst 1 d_Mod_findBeds_34 (by decide) ?_
              refine V_iload_n 2 d_Mod_findBeds_35 rfl rfl ?_
              obtain ⟨z56, z56Z, z56E, z56e⟩ : ∃ (y : Int32) (Y : Int), y.toInt = Y ∧ y = h22.1 116 28 := ⟨_, _, rfl, rfl⟩
              have g57 : 0 ≤ z56Z ∧ z56Z ≤ 48 := inv_at Ih22 z56E z56e rfl
              refine N_callVV [.int v8, .int 1, .int v21] [] cv_Mod_292 sk_116 rfl d_Mod_findBeds_36 rfl (Nat.le_of_ble_eq_true rfl) (by decide) (by decide) (c_Mod_addBedX h22 ((mlL wZ.toNat gZ.toNat (v8Z).toNat) ++ (mlA (v8Z).toNat 1 (v21Z - 2).toNat)) Ih22 v8 v8Z v8E 1 1 tc_1 v21 v21Z v21E z56 z56Z z56E z56e.symm (by assumption) ((ml_len wZ.toNat (by (first | decide +kernel | omega)) (by (first | decide +kernel | omega)) gZ.toNat (by (first | decide +kernel | omega)) (by (first | decide +kernel | omega)) (v8Z).toNat (by (first | decide +kernel | omega))).1 _ (by (first | decide +kernel | omega))) (by (first | decide +kernel | omega)) (by (first | decide +kernel | omega))) (fun h59 p60 => ?_)
              obtain ⟨hI61, fh59, p60⟩ := p60
              have f62 : fr S_Mod_findBedsX h h59 := fr_call Fh22 fh59 rfl
              obtain ⟨z63, z63E, z63e⟩ : ∃ y : Int32, y.toInt = v21Z + 1 ∧ y = v21 + Int32.ofInt 1 := ⟨_, ti_add v21E (by decide) (by (first | decide +kernel | omega)), rfl⟩
              refine V_iinc 2 [some (.ref 116), some (.int v8), some (.int z63)] d_Mod_findBeds_39 rfl z63e.symm (by decide) rfl rfl ?_
              refine V_goto 17 d_Mod_findBeds_42 (by decide) ?_
              exact ihL19 z63 ((v21Z + 1)) h59 z63E hI61 f62 (kn_call fh59 K23 rfl) (kn_call fh59 K24 rfl) (by (first | decide +kernel | omega)) (by (first | decide +kernel | omega)) (by rw [show (v21Z + 1 - 2).toNat = (v21Z - 2).toNat + 1 by (first | decide +kernel | omega), mlA_s, ← List.append_assoc]; exact HZ_eq p60 (by rw [show (v21Z).toNat = (v21Z - 2).toNat + 2 by (first | decide +kernel | omega)]; rfl)) (by (first | decide +kernel | omega))
        exact L19 (Int.toNat ((5 - 2 : Int) + 1)) 2 2 h9 tc_2 Ih9 Fh9 K10 K11 (by (first | decide +kernel | omega)) (by (first | decide +kernel | omega)) (HZ_eq (show HZ h9 125 116 28 (mlL wZ.toNat gZ.toNat (v8Z).toNat) from by assumption) (List.append_nil _).symm) (by (first | decide +kernel | omega))
  exact L6 (Int.toNat ((16 - 0 : Int) + 1)) 0 0 h3 tc_0 hI4 f5 (kn_nei eh3 wK (by decide)) (kn_nei eh3 gK (by decide)) (by (first | decide +kernel | omega)) ⟨HL_nil, by rw [eh3, pI_at, if_pos ⟨rfl, rfl⟩]; rfl⟩ (by (first | decide +kernel | omega))
end
section
def FD (h g : Hp) (W : Int) (L : List Bd) (D : Int) : Prop := HZ g 105 104 1 L ∧ (∀ d : Int, 1 ≤ d → d < D → BS (g.1 106 d.toNat) (BQ (h.1 6) d W)) ∧ BS (g.1 104 3) (WQ (h.1 2) (h.1 6) W)
theorem FD_ne {h g g2 : Hp} {W D : Int} {L : List Bd} {i : Nat} {x : Int32} (r : FD h g W L D) (e : g2 = pI g 104 i x) (hi : 4 ≤ i) : FD h g2 W L D := by
  refine ⟨HZ_ne r.1 e (by decide) (by (first | decide +kernel | omega)), fun d a b => ?_, ?_⟩
  · rw [e, pI_at, if_neg (by (first | decide +kernel | omega))]; exact r.2.1 d a b
  · rw [e, pI_at, if_neg (by (first | decide +kernel | omega))]; exact r.2.2
theorem FD_r {h g g2 : Hp} {W D : Int} {L : List Bd} {x : Int32} (r : FD h g W L D) (hD : 1 ≤ D) (e : g2 = pI g 106 D.toNat x) (b : BS x (BQ (h.1 6) D W)) : FD h g2 W L (D + 1) := by
  refine ⟨HZ_ne r.1 e (by decide) (by (first | decide +kernel | omega)), fun d a c => ?_, ?_⟩
  · rw [e, pI_at]
    by_cases q : d = D
    · subst q; rw [if_pos ⟨rfl, rfl⟩]; exact b
    · rw [if_neg (by (first | decide +kernel | omega))]; exact r.2.1 d a (by (first | decide +kernel | omega))
  · rw [e, pI_at, if_neg (by (first | decide +kernel | omega))]; exact r.2.2
theorem FD_1 {h g : Hp} {W : Int} {L : List Bd} {v : Int32} (z : HZ g 105 104 1 L) (k : g.1 104 3 = v) (b : BS v (WQ (h.1 2) (h.1 6) W)) : FD h g W L 1 := ⟨z, fun d a c => by (first | decide +kernel | omega), by rw [k]; exact b⟩
theorem depC_y {f : Int → Bd → Prop} {L : List Bd} {D z : Int} {n : Nat} {t0 : Bd} (hD : 1 ≤ D) (ht : L[n]? = some t0) (b : depG f (PrC L D n) z 0) (h : f D t0) : depG f (PrC L D (n + 1)) D 0 := by
  refine depG_y (PrC_s hD ht) b h (Or.inl ⟨rfl, ?_⟩) (by (first | decide +kernel | omega))
  rcases b with ⟨b1, _⟩ | ⟨⟨t, b1, _⟩, _⟩
  · exact Or.inl b1
  · exact Or.inr (by rcases b1 with ⟨_, q | q⟩ <;> omega)
/-- what beds answers -/
def BDr (f : Int → Bd → Prop) (L : List Bd) (W a : Int) (r : Int32) (no : Int) : Prop := a = 0 ∧ r.toInt = (cd f L 9 : Nat) ∨ a ≠ 0 ∧ cd f L 9 = 0 ∧ r.toInt = -4 ∨ cd f L 9 ≠ 0 ∧ (a = 1 ∧ BP r (allG f (PrA L) W) ∨ a = 2 ∧ BP r (fun j => (j : Int) < W ∧ ¬ anyG f (PrA L) j) ∨ a = 3 ∧ depG f (PrA L) r.toInt no)
def BDa (f : Int → Bd → Prop) (L : List Bd) (W a : Int) (r : Int32) (no : Int) : Prop := (0 ≤ a ∧ a ≤ 3) ∧ BDr f L W a r no ∨ ¬ (0 ≤ a ∧ a ≤ 3) ∧ r.toInt = -1
def nx (b : Nat → Int) (d : Int) (w : Nat → Int) (f0 : Int) : Nat → Int × Int
  | 0 => (f0, -4)
  | c + 1 => if b c < d ∧ w c < (nx b d w f0 c).1 then (w c, (c : Int)) else nx b d w f0 c
theorem nx_y {b : Nat → Int} {d : Int} {w : Nat → Int} {f0 C A X : Int} (hC : 0 ≤ C) (hb : b C.toNat < d) (ha : A = (nx b d w f0 C.toNat).1) (hx : X = w C.toNat) (c : X < A) : X = (nx b d w f0 (C + 1).toNat).1 ∧ C = (nx b d w f0 (C + 1).toNat).2 := by
  rw [show (C + 1).toNat = C.toNat + 1 by (first | decide +kernel | omega)]
  have e : nx b d w f0 (C.toNat + 1) = (X, C) := by
    show (if b C.toNat < d ∧ w C.toNat < (nx b d w f0 C.toNat).1 then (w C.toNat, ((C.toNat : Nat) : Int)) else _) = _
    rw [← hx, ← ha, if_pos ⟨hb, c⟩, show ((C.toNat : Nat) : Int) = C by (first | decide +kernel | omega)]
  rw [e]
  exact ⟨rfl, rfl⟩
theorem nx_n {b : Nat → Int} {d : Int} {w : Nat → Int} {f0 C A B : Int} (hC : 0 ≤ C) (ha : A = (nx b d w f0 C.toNat).1) (hb : B = (nx b d w f0 C.toNat).2) (c : ¬ (b C.toNat < d ∧ w C.toNat < A)) : A = (nx b d w f0 (C + 1).toNat).1 ∧ B = (nx b d w f0 (C + 1).toNat).2 := by
  rw [show (C + 1).toNat = C.toNat + 1 by (first | decide +kernel | omega)]
  have e : nx b d w f0 (C.toNat + 1) = nx b d w f0 C.toNat := by
    show (if b C.toNat < d ∧ w C.toNat < (nx b d w f0 C.toNat).1 then _ else _) = _
    rw [← ha, if_neg c]
  rw [e]
  exact ⟨ha, hb⟩
theorem nx_cg {b b2 : Nat → Int} {d : Int} {w w2 : Nat → Int} {f0 : Int} : ∀ n : Nat, (∀ i : Nat, i < n → b i = b2 i ∧ w i = w2 i) → nx b d w f0 n = nx b2 d w2 f0 n := by
  intro n
  induction n with
  | zero => intro _; rfl
  | succ n ih =>
    intro h
    obtain ⟨h1, h2⟩ := h n (by (first | decide +kernel | omega))
    show (if b n < d ∧ w n < (nx b d w f0 n).1 then (w n, (n : Int)) else nx b d w f0 n) = (if b2 n < d ∧ w2 n < (nx b2 d w2 f0 n).1 then (w2 n, (n : Int)) else nx b2 d w2 f0 n)
    rw [ih (fun i hi => h i (by (first | decide +kernel | omega))), h1, h2]
/-- how many FIT and have their CELL c wet down to d: the class's count, the reference's -/
noncomputable def wC (f : Int → Bd → Prop) (L : List Bd) (d : Int) (c : Nat) : Int := mx2 (cd (fun x t => inB t c ∧ f x t) L d.toNat : Nat) ((cd f L 9 : Nat) - (cd (fun x t => inB t c ∧ f x t) L d.toNat : Nat) : Int)
noncomputable def wM (f : Int → Bd → Prop) (L : List Bd) (d : Int) (c : Nat) : Int := mx2 (cd (fun x t => f x t ∧ (inB t c ∧ x ≤ d)) L 9 : Nat) (cd (fun x t => f x t ∧ ¬ (inB t c ∧ x ≤ d)) L 9 : Nat)
theorem cd_cut {f : Int → Bd → Prop} {L : List Bd} {d : Nat} : ∀ k : Nat, cd (fun x t => f x t ∧ x ≤ (d : Int)) L (d + k) = cd f L d := by
  intro k
  induction k with
  | zero =>
    exact cd_cg L d (fun x t a b => ⟨fun q => q.1, fun q => ⟨q, b⟩⟩)
  | succ k ih =>
    show cd (fun x t => f x t ∧ x ≤ (d : Int)) L (d + k) + cl (fun t => f (((d + k : Nat) : Int) + 1) t ∧ ((d + k : Nat) : Int) + 1 ≤ (d : Int)) L = cd f L d
    rw [ih]
    have z : ∀ M : List Bd, cl (fun t => f (((d + k : Nat) : Int) + 1) t ∧ ((d + k : Nat) : Int) + 1 ≤ (d : Int)) M = 0 := by
      intro M
      induction M with
      | nil => rfl
      | cons t M ih2 =>
        show cl _ M + (@ite Nat _ (Classical.propDecidable _) 1 0) = 0
        rw [ih2, if_neg (fun q => by have := q.2; omega)]
    rw [z]
    omega
theorem w_same {f g : Int → Bd → Prop} {L M : List Bd} {d : Int} {c : Nat} (hd : 1 ≤ d ∧ d ≤ 9) (h : L.Perm M) (e : ∀ (x : Int) (t : Bd), 1 ≤ x → x ≤ 9 → (f x t ↔ g x t)) : wC f L d c = wM g M d c ∧ ((cd f L 9 : Nat) : Int) = (cd (fun x t => g x t ∧ (inB t c ∧ x ≤ d)) M 9 : Nat) + (cd (fun x t => g x t ∧ ¬ (inB t c ∧ x ≤ d)) M 9 : Nat) := by
  have hc : cd f L 9 = cd g M 9 := (cd_perm h 9).trans (cd_cg M 9 (fun x t a b => e x t a (by (first | decide +kernel | omega))))
  have sp := cd_sp g (fun x t => inB t c ∧ x ≤ d) M 9
  have hy : cd (fun x t => inB t c ∧ f x t) L d.toNat = cd (fun x t => g x t ∧ (inB t c ∧ x ≤ d)) M 9 := by
    have k := cd_cut (f := fun x t => inB t c ∧ f x t) (L := L) (d := d.toNat) (9 - d.toNat)
    rw [show d.toNat + (9 - d.toNat) = 9 by (first | decide +kernel | omega), show ((d.toNat : Nat) : Int) = d by (first | decide +kernel | omega)] at k
    rw [← k, cd_perm h 9]
    exact cd_cg M 9 (fun x t a b => ⟨fun q => ⟨(e x t a (by (first | decide +kernel | omega))).mp q.1.2, q.1.1, q.2⟩, fun q => ⟨⟨q.2.1, (e x t a (by (first | decide +kernel | omega))).mpr q.1⟩, q.2.2⟩⟩)
  have sp2 : cd g M 9 = cd (fun x t => g x t ∧ (inB t c ∧ x ≤ d)) M 9 + cd (fun x t => g x t ∧ ¬ (inB t c ∧ x ≤ d)) M 9 := sp
  refine ⟨?_, by rw [hc, sp2]; omega⟩
  unfold wC wM
  rw [hy, hc, sp2, show (((cd (fun x t => g x t ∧ (inB t c ∧ x ≤ d)) M 9 + cd (fun x t => g x t ∧ ¬ (inB t c ∧ x ≤ d)) M 9 : Nat) : Int) - (cd (fun x t => g x t ∧ (inB t c ∧ x ≤ d)) M 9 : Nat)) = (cd (fun x t => g x t ∧ ¬ (inB t c ∧ x ≤ d)) M 9 : Nat) by (first | decide +kernel | omega)]
end
section
abbrev q_Land_allBitsX_0 (h : Hp) (w : Int32) (wZ : Int) (g : Int32) (gZ : Int) : Option Value → Hp → Prop := pInt (fun r h' => h = h' ∧ (BP r (fun j => (j : Int) < wZ * gZ)))
set_option maxRecDepth 100000 in
theorem c_Land_allBitsX_0 (h : Hp) (hI : Inv h) (w : Int32) (wZ : Int) (wE : w.toInt = wZ) (wK : h.1 1 0 = w) (g : Int32) (gZ : Int) (gE : g.toInt = gZ) (gK : h.1 1 1 = g) : Ct y_Land_allBits b_Land_allBits 1 (some .int) 1 20 [.ref 1] h (q_Land_allBitsX_0 h w wZ g gZ) := by
  refine ct_ow R_Land [some (.ref 1)] rfl (by decide) rfl (Nat.le_of_ble_eq_true rfl) ?_
  have f0 : fr [] h h := fr_rf
  have g1 : 2 ≤ wZ ∧ wZ ≤ 4 := inv_at hI wE wK.symm rfl
  have g2 : 2 ≤ gZ ∧ gZ ≤ 4 := inv_at hI gE gK.symm rfl
  have m24 := mul24 (A := wZ) (B := gZ) (by (first | decide +kernel | omega)) (by (first | decide +kernel | omega))
  refine V_iconst 1 d_Land_allBits_0 (by decide) ?_
  refine V_aload_n 0 d_Land_allBits_1 rfl rfl ?_
  refine N_callVI [] [.int 1] cv_Land_52 sk_1 rfl d_Land_allBits_2 rfl (Nat.le_of_ble_eq_true rfl) (by decide) (by decide) (c_Land_cells_0 h hI w wZ wE wK g gZ gE gK) (fun z3 h4 z3Z z3E p5 => ?_)
  obtain ⟨eh4, p5⟩ := p5
  subst eh4
  refine N_ishl d_Land_allBits_5 (fun z6 z6Z z6E z6e => ?_)
  refine V_iconst 1 d_Land_allBits_6 (by decide) ?_
  refine N_isubw d_Land_allBits_7 (fun z7 z7Z z7E z7e => ?_)
  exact V_iret rfl d_Land_allBits_8 ⟨z7, rfl, ⟨rfl, (all_BP (W := wZ * gZ) p5.2.2 (by (first | decide +kernel | omega)) z6e z7e)⟩⟩
abbrev q_Beds_isFittingX (h : Hp) (t : Bd) (w b : Nat → Int32) (W : Int) (a : Int32) (aZ : Int) (d : Int32) (dZ : Int) (v : Int32) (vZ : Int) : Option Value → Hp → Prop := pInt (fun r h' => h = h' ∧ (twR r (fB w b W dZ t)))
set_option maxRecDepth 100000 in
theorem c_Beds_isFittingX (h : Hp) (t : Bd) (w b : Nat → Int32) (W : Int) (hI : Inv h) (a : Int32) (aZ : Int) (aE : a.toInt = aZ) (d : Int32) (dZ : Int) (dE : d.toInt = dZ) (v : Int32) (vZ : Int) (vE : v.toInt = vZ) (vK : h.1 104 3 = v) (hy0 : 0 ≤ dZ ∧ dZ ≤ 9) (hy1 : BP a (inB t)) (hy2 : BS (h.1 106 dZ.toNat) (BQ b dZ W)) (hy3 : BS (h.1 104 3) (WQ w b W)) : Ct y_Beds_isFitting b_Beds_isFitting 3 (some .boolean) 0 0 [.ref 104, .int a, .int d] h (q_Beds_isFittingX h t w b W a aZ d dZ v vZ) := by
  refine ct_ow R_Beds [some (.ref 104), some (.int a), some (.int d)] rfl (by decide) rfl (Nat.le_of_ble_eq_true rfl) ?_
  have f0 : fr [] h h := fr_rf
  obtain ⟨rv, rvZ, rvE, rvK⟩ : ∃ (y : Int32) (Y : Int), y.toInt = Y ∧ h.1 106 (dZ).toNat = y := ⟨_, _, rfl, rfl⟩
  rw [rvK] at hy2
  rw [vK] at hy3
  refine V_iload_n 1 d_Beds_isFitting_0 rfl rfl ?_
  refine V_aload_n 0 d_Beds_isFitting_1 rfl rfl ?_
  refine V_getR fa_Beds_15 sk_104 rfl d_Beds_isFitting_2 ?_
  refine V_iload_n 2 d_Beds_isFitting_5 rfl rfl ?_
  refine N_ialdK sk_106 dE (by (first | decide +kernel | omega)) d_Beds_isFitting_6 rvK ?_
  refine N_iand d_Beds_isFitting_7 (fun z2 z2Z z2E z2e => ?_)
  refine V_aload_n 0 d_Beds_isFitting_8 rfl rfl ?_
  refine N_getK fa_Beds_28 sk_104 rfl d_Beds_isFitting_9 vK ?_
  refine V_icmp_ne 19 z2E vE d_Beds_isFitting_12 (by decide) (fun c3 => ?_) (fun c3 => ?_)
  ·
    refine V_iconst 0 d_Beds_isFitting_19 (by decide) ?_
    exact V_zret rfl (by decide) d_Beds_isFitting_20 ⟨0, rfl, ⟨rfl, (Or.inr ⟨tc_0, fun q => absurd ((ti_eq z2E vE).mp ((fB_c hy1 hy2 hy3 z2e).mpr q)) (by (first | decide +kernel | omega))⟩)⟩⟩
  ·
    refine V_iconst 1 d_Beds_isFitting_15 (by decide) ?_
    refine V_goto 20 d_Beds_isFitting_16 (by decide) ?_
    exact V_zret rfl (by decide) d_Beds_isFitting_20 ⟨1, rfl, ⟨rfl, (Or.inl ⟨tc_1, (fB_c hy1 hy2 hy3 z2e).mp ((ti_eq z2E vE).mpr (by (first | decide +kernel | omega)))⟩)⟩⟩
def S_Beds_findX : List (Nat × Option Nat) := [(105, none), (106, none), (104, none)]
abbrev q_Beds_findX (h : Hp) (w : Int32) (wZ : Int) (g : Int32) (gZ : Int) : Option Value → Hp → Prop := pVd (fun h' => Inv h' ∧ fr S_Beds_findX h h' ∧ (FD h h' (wZ * gZ) (clL wZ.toNat gZ.toNat) 10 ∧ (h'.1 104 4).toInt = (cd (fB (h.1 2) (h.1 6) (wZ * gZ)) (clL wZ.toNat gZ.toNat) 9 : Nat) ∧ BP (h'.1 104 5) (allG (fB (h.1 2) (h.1 6) (wZ * gZ)) (PrA (clL wZ.toNat gZ.toNat)) (wZ * gZ)) ∧ BP (h'.1 104 6) (anyG (fB (h.1 2) (h.1 6) (wZ * gZ)) (PrA (clL wZ.toNat gZ.toNat))) ∧ depG (fB (h.1 2) (h.1 6) (wZ * gZ)) (PrA (clL wZ.toNat gZ.toNat)) (h'.1 104 7).toInt 0))
set_option maxRecDepth 100000 in
theorem c_Beds_findX (h : Hp) (hI : Inv h) (w : Int32) (wZ : Int) (wE : w.toInt = wZ) (wK : h.1 1 0 = w) (g : Int32) (gZ : Int) (gE : g.toInt = gZ) (gK : h.1 1 1 = g) : Ct y_Beds_find b_Beds_find 4 none 2 48 [.ref 104, .ref 1] h (q_Beds_findX h w wZ g gZ) := by
  refine ct_ow R_Beds [some (.ref 104), some (.ref 1), none, none] rfl (by decide) rfl (Nat.le_of_ble_eq_true rfl) ?_
  have f0 : fr S_Beds_findX h h := fr_rf
  have g1 : 2 ≤ wZ ∧ wZ ≤ 4 := inv_at hI wE wK.symm rfl
  have g2 : 2 ≤ gZ ∧ gZ ≤ 4 := inv_at hI gE gK.symm rfl
  have m24 := mul24 (A := wZ) (B := gZ) (by (first | decide +kernel | omega)) (by (first | decide +kernel | omega))
  have hl48 := (bd_perm wZ.toNat (by (first | decide +kernel | omega)) (by (first | decide +kernel | omega)) gZ.toNat (by (first | decide +kernel | omega)) (by (first | decide +kernel | omega))).2.1
  refine V_aload_n 0 d_Beds_find_0 rfl rfl ?_
  refine V_aload_n 1 d_Beds_find_1 rfl rfl ?_
  refine N_callVV [.ref 1] [] cv_Beds_18 sk_104 rfl d_Beds_find_2 rfl (Nat.le_of_ble_eq_true rfl) (by decide) (by decide) (c_Beds_listRowsX h hI w wZ wE wK g gZ gE gK) (fun h4 p5 => ?_)
  obtain ⟨hI6, fh4, p5⟩ := p5
  have f7 : fr S_Beds_findX h h4 := fr_call f0 fh4 rfl
  refine V_aload_n 0 d_Beds_find_5 rfl rfl ?_
  refine V_aload_n 1 d_Beds_find_6 rfl rfl ?_
  refine N_callVI [] [.ref 104] cv_Beds_22 sk_1 rfl d_Beds_find_7 rfl (Nat.le_of_ble_eq_true rfl) (by decide) (by decide) (c_Land_wellBitsX_0 h4 hI6 w wZ wE (kn_call fh4 wK rfl) g gZ gE (kn_call fh4 gK rfl)) (fun z8 h9 z8Z z8E p10 => ?_)
  obtain ⟨eh9, p10⟩ := p10
  subst eh9
  rw [show h4.1 2 = h.1 2 from funext (fun i => f7.1 2 i rfl), show h4.1 6 = h.1 6 from funext (fun i => f7.1 6 i rfl)] at p10
  refine N_putI fp_Beds_28 sk_104 rfl d_Beds_find_10 (fun h11 eh11 => ?_)
  have hI12 : Inv h11 := inv_full hI6 eh11 rfl
  have f13 : fr S_Beds_findX h h11 := fr_put f7 eh11 rfl
  have Z14 : HZ h11 105 104 1 (clL wZ.toNat gZ.toNat) := HZ_ne p5 eh11 (by decide) (by decide)
  have D15 : FD h h11 (wZ * gZ) (clL wZ.toNat gZ.toNat) 1 := FD_1 Z14 (kn_put eh11) p10
  refine V_aload_n 0 d_Beds_find_13 rfl rfl ?_
  refine V_iconst 0 d_Beds_find_14 (by decide) ?_
  refine N_putI fp_Beds_32 sk_104 rfl d_Beds_find_15 (fun h16 eh16 => ?_)
  have hI17 : Inv h16 := inv_full hI12 eh16 rfl
  have f18 : fr S_Beds_findX h h16 := fr_put f13 eh16 rfl
  have D19 := FD_ne D15 eh16 (by decide)
  refine V_aload_n 0 d_Beds_find_18 rfl rfl ?_
  refine V_aload_n 1 d_Beds_find_19 rfl rfl ?_
  refine N_callVI [] [.ref 104] cv_Beds_35 sk_1 rfl d_Beds_find_20 rfl (Nat.le_of_ble_eq_true rfl) (by decide) (by decide) (c_Land_allBitsX_0 h16 hI17 w wZ wE (kn_ne eh16 (kn_ne eh11 (kn_call fh4 wK rfl) (by decide)) (by decide)) g gZ gE (kn_ne eh16 (kn_ne eh11 (kn_call fh4 gK rfl) (by decide)) (by decide))) (fun z20 h21 z20Z z20E p22 => ?_)
  obtain ⟨eh21, p22⟩ := p22
  subst eh21
  refine N_putI fp_Beds_38 sk_104 rfl d_Beds_find_23 (fun h23 eh23 => ?_)
  have hI24 : Inv h23 := inv_full hI17 eh23 rfl
  have f25 : fr S_Beds_findX h h23 := fr_put f18 eh23 rfl
  have D26 := FD_ne D19 eh23 (by decide)
  refine V_aload_n 0 d_Beds_find_26 rfl rfl ?_
  refine V_iconst 0 d_Beds_find_27 (by decide) ?_
  refine N_putI fp_Beds_41 sk_104 rfl d_Beds_find_28 (fun h27 eh27 => ?_)
  have hI28 : Inv h27 := inv_full hI24 eh27 rfl
  have f29 : fr S_Beds_findX h h27 := fr_put f25 eh27 rfl
  have D30 := FD_ne D26 eh27 (by decide)
  refine V_aload_n 0 d_Beds_find_31 rfl rfl ?_
  refine V_iconst 0 d_Beds_find_32 (by decide) ?_
  refine N_putI fp_Beds_44 sk_104 rfl d_Beds_find_33 (fun h31 eh31 => ?_)
  have hI32 : Inv h31 := inv_full hI28 eh31 rfl
  have f33 : fr S_Beds_findX h h31 := fr_put f29 eh31 rfl
  have D34 := FD_ne D30 eh31 (by decide)
  refine V_iconst 1 d_Beds_find_36 (by decide) ?_
  refine V_istore_n 2 [some (.ref 104), some (.ref 1), some (.int 1), none] d_Beds_find_37 rfl (by decide) rfl rfl ?_
  have L35 : ∀ (nn : Nat) (v37 : Int32) (v37Z : Int) (h38 : Hp) (v41 : Int32) (v41Z : Int) (v43 : Int32) (v43Z : Int) (v45 : Int32) (v45Z : Int) (v47 : Int32) (v47Z : Int), v37.toInt = v37Z → Inv h38 → fr S_Beds_findX h h38 → h38.1 1 0 = w → h38.1 1 1 = g → v41.toInt = v41Z → h38.1 104 4 = v41 → v43.toInt = v43Z → h38.1 104 5 = v43 → v45.toInt = v45Z → h38.1 104 6 = v45 → v47.toInt = v47Z → h38.1 104 7 = v47 → 1 ≤ v37Z ∧ v37Z ≤ 10 → FD h h38 (wZ * gZ) (clL wZ.toNat gZ.toNat) v37Z → v41Z = (cd (fB (h.1 2) (h.1 6) (wZ * gZ)) (clL wZ.toNat gZ.toNat) (v37Z - 1).toNat + cl ((fB (h.1 2) (h.1 6) (wZ * gZ)) v37Z) ((clL wZ.toNat gZ.toNat).take 0) : Nat) → BP v43 (allG (fB (h.1 2) (h.1 6) (wZ * gZ)) (PrC (clL wZ.toNat gZ.toNat) v37Z 0) (wZ * gZ)) → BP v45 (anyG (fB (h.1 2) (h.1 6) (wZ * gZ)) (PrC (clL wZ.toNat gZ.toNat) v37Z 0)) → depG (fB (h.1 2) (h.1 6) (wZ * gZ)) (PrC (clL wZ.toNat gZ.toNat) v37Z 0) v47Z 0 → 10 - v37Z < (nn : Int) → V R_Beds b_Beds_find 4 none 2 48 (q_Beds_findX h w wZ g gZ) h38 38 [some (.ref 104), some (.ref 1), some (.int v37), none] [] := by
    intro nn
    induction nn with
    | zero => intro v37 v37Z h38 v41 v41Z v43 v43Z v45 v45Z v47 v47Z v37E Ih38 Fh38 K39 K40 v41E K42 v43E K44 v45E K46 v47E K48 q49 q50 q51 q52 q53 q54 hm55; exact absurd hm55 (by (first | decide +kernel | omega))
    | succ nn ihL35 =>
      intro v37 v37Z h38 v41 v41Z v43 v43Z v45 v45Z v47 v47Z v37E Ih38 Fh38 K39 K40 v41E K42 v43E K44 v45E K46 v47E K48 q49 q50 q51 q52 q53 q54 hm55
      refine V_iload_n 2 d_Beds_find_38 rfl rfl ?_
      refine V_bipush 9 d_Beds_find_39 (by decide) ?_
      refine V_icmp_gt 136 v37E tc_9 d_Beds_find_41 (by decide) (fun c56 => ?_) (fun c56 => ?_)
      ·
        have hfin4 : v41Z = (cd (fB (h.1 2) (h.1 6) (wZ * gZ)) (clL wZ.toNat gZ.toNat) 9 : Nat) := by have q9 : v41Z = (cd (fB (h.1 2) (h.1 6) (wZ * gZ)) (clL wZ.toNat gZ.toNat) (v37Z - 1).toNat + cl ((fB (h.1 2) (h.1 6) (wZ * gZ)) v37Z) ((clL wZ.toNat gZ.toNat).take 0) : Nat) := (by assumption); rw [show (v37Z - 1).toNat = 9 by (first | decide +kernel | omega), List.take_zero] at q9; exact q9
        have hfin5 : BP v43 (allG (fB (h.1 2) (h.1 6) (wZ * gZ)) (PrA (clL wZ.toNat gZ.toNat)) (wZ * gZ)) := by have q9 : BP v43 (allG (fB (h.1 2) (h.1 6) (wZ * gZ)) (PrC (clL wZ.toNat gZ.toNat) v37Z 0) (wZ * gZ)) := (by assumption); rw [show v37Z = 10 by (first | decide +kernel | omega), PrC_e] at q9; exact q9
        have hfin6 : BP v45 (anyG (fB (h.1 2) (h.1 6) (wZ * gZ)) (PrA (clL wZ.toNat gZ.toNat))) := by have q9 : BP v45 (anyG (fB (h.1 2) (h.1 6) (wZ * gZ)) (PrC (clL wZ.toNat gZ.toNat) v37Z 0)) := (by assumption); rw [show v37Z = 10 by (first | decide +kernel | omega), PrC_e] at q9; exact q9
        have hfin7 : depG (fB (h.1 2) (h.1 6) (wZ * gZ)) (PrA (clL wZ.toNat gZ.toNat)) v47Z 0 := by have q9 : depG (fB (h.1 2) (h.1 6) (wZ * gZ)) (PrC (clL wZ.toNat gZ.toNat) v37Z 0) v47Z 0 := (by assumption); rw [show v37Z = 10 by (first | decide +kernel | omega), PrC_e] at q9; exact q9
        exact V_vret rfl d_Beds_find_136 ⟨rfl, ⟨Ih38, Fh38, ⟨by rw [show (10 : Int) = v37Z by (first | decide +kernel | omega)]; assumption, by rw [show h38.1 104 4 = v41 from K42, v41E]; exact hfin4, by rw [show h38.1 104 5 = v43 from K44]; exact hfin5, by rw [show h38.1 104 6 = v45 from K46]; exact hfin6, by rw [show h38.1 104 7 = v47 from K48, v47E]; exact hfin7⟩⟩⟩
      ·
        have hFD9 : FD h h38 (wZ * gZ) (clL wZ.toNat gZ.toNat) v37Z := by assumption
        refine V_aload_n 0 d_Beds_find_44 rfl rfl ?_
        refine V_getR fa_Beds_15 sk_104 rfl d_Beds_find_45 ?_
        refine V_iload_n 2 d_Beds_find_48 rfl rfl ?_
        refine V_aload_n 1 d_Beds_find_49 rfl rfl ?_
        refine V_iload_n 2 d_Beds_find_50 rfl rfl ?_
        refine N_callVI [.int v37] [.int v37, .ref 106] cv_Beds_47 sk_1 rfl d_Beds_find_51 rfl (Nat.le_of_ble_eq_true rfl) (by decide) (by decide) (c_Land_boredBitsX_0 h38 Ih38 v37 v37Z v37E w wZ wE K39 g gZ gE K40) (fun z57 h58 z57Z z57E p59 => ?_)
        obtain ⟨eh58, p59⟩ := p59
        subst eh58
        rw [show h38.1 6 = h.1 6 from funext (fun i => Fh38.1 6 i rfl)] at p59
        refine N_iast sk_106 v37E (by (first | decide +kernel | omega)) d_Beds_find_54 (fun h60 eh60 => ?_)
        have hI61 : Inv h60 := inv_full Ih38 eh60 rfl
        have f62 : fr S_Beds_findX h h60 := fr_put Fh38 eh60 rfl
        have D63 := FD_r hFD9 (by (first | decide +kernel | omega)) eh60 p59
        refine V_iconst 0 d_Beds_find_55 (by decide) ?_
        refine V_istore_n 3 [some (.ref 104), some (.ref 1), some (.int v37), some (.int 0)] d_Beds_find_56 rfl (by decide) rfl rfl ?_
        obtain ⟨z70, z70Z, z70E, z70e⟩ : ∃ (y : Int32) (Y : Int), y.toInt = Y ∧ y = h60.1 104 1 := ⟨_, _, rfl, rfl⟩
        have g71 : 0 ≤ z70Z ∧ z70Z ≤ 48 := inv_at hI61 z70E z70e rfl
        have L64 : ∀ (nn : Nat) (v66 : Int32) (v66Z : Int) (h67 : Hp) (v73 : Int32) (v73Z : Int) (v75 : Int32) (v75Z : Int) (v77 : Int32) (v77Z : Int) (v79 : Int32) (v79Z : Int), v66.toInt = v66Z → Inv h67 → fr S_Beds_findX h h67 → h67.1 1 0 = w → h67.1 1 1 = g → h67.1 104 1 = z70 → v73.toInt = v73Z → h67.1 104 4 = v73 → v75.toInt = v75Z → h67.1 104 5 = v75 → v77.toInt = v77Z → h67.1 104 6 = v77 → v79.toInt = v79Z → h67.1 104 7 = v79 → 0 ≤ v66Z ∧ v66Z ≤ ((clL wZ.toNat gZ.toNat).length : Int) → FD h h67 (wZ * gZ) (clL wZ.toNat gZ.toNat) (v37Z + 1) → v73Z = (cd (fB (h.1 2) (h.1 6) (wZ * gZ)) (clL wZ.toNat gZ.toNat) (v37Z - 1).toNat + cl ((fB (h.1 2) (h.1 6) (wZ * gZ)) v37Z) ((clL wZ.toNat gZ.toNat).take (v66Z).toNat) : Nat) → BP v75 (allG (fB (h.1 2) (h.1 6) (wZ * gZ)) (PrC (clL wZ.toNat gZ.toNat) v37Z (v66Z).toNat) (wZ * gZ)) → BP v77 (anyG (fB (h.1 2) (h.1 6) (wZ * gZ)) (PrC (clL wZ.toNat gZ.toNat) v37Z (v66Z).toNat)) → depG (fB (h.1 2) (h.1 6) (wZ * gZ)) (PrC (clL wZ.toNat gZ.toNat) v37Z (v66Z).toNat) v79Z 0 → 48 - v66Z < (nn : Int) → V R_Beds b_Beds_find 4 none 2 48 (q_Beds_findX h w wZ g gZ) h67 57 [some (.ref 104), some (.ref 1), some (.int v37), some (.int v66)] [] := by
          intro nn
          induction nn with
          | zero => intro v66 v66Z h67 v73 v73Z v75 v75Z v77 v77Z v79 v79Z v66E Ih67 Fh67 K68 K69 K72 v73E K74 v75E K76 v77E K78 v79E K80 q81 q82 q83 q84 q85 q86 hm87; exact absurd hm87 (by (first | decide +kernel | omega))
          | succ nn ihL64 =>
            intro v66 v66Z h67 v73 v73Z v75 v75Z v77 v77Z v79 v79Z v66E Ih67 Fh67 K68 K69 K72 v73E K74 v75E K76 v77E K78 v79E K80 q81 q82 q83 q84 q85 q86 hm87
            refine V_iload_n 3 d_Beds_find_57 rfl rfl ?_
            refine V_aload_n 0 d_Beds_find_58 rfl rfl ?_
            refine N_getK fa_Beds_51 sk_104 rfl d_Beds_find_59 K72 ?_
            have hFD8 : FD h h67 (wZ * gZ) (clL wZ.toNat gZ.toNat) (v37Z + 1) := by assumption
            have hsz : z70Z = ((clL wZ.toNat gZ.toNat).length : Int) := by rw [← z70E, show z70 = h67.1 104 1 from (K72).symm]; exact hFD8.1.2
            refine V_icmp_ge 130 v66E z70E d_Beds_find_62 (by decide) (fun c88 => ?_) (fun c88 => ?_)
            ·
              have hFD7 : FD h h67 (wZ * gZ) (clL wZ.toNat gZ.toNat) (v37Z + 1) := by assumption
              have hsz7 := hFD7.1.2
              obtain ⟨z89, z89E, z89e⟩ : ∃ y : Int32, y.toInt = v37Z + 1 ∧ y = v37 + Int32.ofInt 1 := ⟨_, ti_add v37E (by decide) (by (first | decide +kernel | omega)), rfl⟩
              refine V_iinc 2 [some (.ref 104), some (.ref 1), some (.int z89), some (.int v66)] d_Beds_find_130 rfl z89e.symm (by decide) rfl rfl ?_
              refine V_goto 38 d_Beds_find_133 (by decide) ?_
              refine V_drop 3 [some (.ref 104), some (.ref 1), some (.int z89), none] rfl ?_
              exact ihL35 z89 ((v37Z + 1)) h67 v73 v73Z v75 v75Z v77 v77Z v79 v79Z z89E Ih67 Fh67 K68 K69 v73E K74 v75E K76 v77E K78 v79E K80 (by (first | decide +kernel | omega)) hFD7 (cnt_Cd (by (first | decide +kernel | omega)) (by assumption) (by (first | decide +kernel | omega))) (by rw [← PrC_d (L := (clL wZ.toNat gZ.toNat)) (D := v37Z) (n := (v66Z).toNat) (by (first | decide +kernel | omega))]; assumption) (by rw [← PrC_d (L := (clL wZ.toNat gZ.toNat)) (D := v37Z) (n := (v66Z).toNat) (by (first | decide +kernel | omega))]; assumption) (by rw [← PrC_d (L := (clL wZ.toNat gZ.toNat)) (D := v37Z) (n := (v66Z).toNat) (by (first | decide +kernel | omega))]; assumption) (by (first | decide +kernel | omega))
            ·
              obtain ⟨t0, ht0⟩ : ∃ t0 : Bd, (clL wZ.toNat gZ.toNat)[(v66Z).toNat]? = some t0 := ⟨_, List.getElem?_eq_getElem (by (first | decide +kernel | omega))⟩
              have hcn : v73Z = (cd (fB (h.1 2) (h.1 6) (wZ * gZ)) (clL wZ.toNat gZ.toNat) (v37Z - 1).toNat + cl ((fB (h.1 2) (h.1 6) (wZ * gZ)) v37Z) ((clL wZ.toNat gZ.toNat).take (v66Z).toNat) : Nat) := by assumption
              have hal : BP v75 (allG (fB (h.1 2) (h.1 6) (wZ * gZ)) (PrC (clL wZ.toNat gZ.toNat) v37Z (v66Z).toNat) (wZ * gZ)) := by assumption
              have han : BP v77 (anyG (fB (h.1 2) (h.1 6) (wZ * gZ)) (PrC (clL wZ.toNat gZ.toNat) v37Z (v66Z).toNat)) := by assumption
              have hde : depG (fB (h.1 2) (h.1 6) (wZ * gZ)) (PrC (clL wZ.toNat gZ.toNat) v37Z (v66Z).toNat) v79Z 0 := by assumption
              have hcb := cd_le (fB (h.1 2) (h.1 6) (wZ * gZ)) (clL wZ.toNat gZ.toNat) (v37Z - 1).toNat
              have hcb2 := cl_le ((fB (h.1 2) (h.1 6) (wZ * gZ)) v37Z) ((clL wZ.toNat gZ.toNat).take (v66Z).toNat)
              have hcb3 : (clL wZ.toNat gZ.toNat).length ≤ 48 ∧ ((clL wZ.toNat gZ.toNat).take (v66Z).toNat).length ≤ 48 := ⟨hl48, by rw [List.length_take]; omega⟩
              have hcb4 : (v37Z - 1).toNat * (clL wZ.toNat gZ.toNat).length ≤ 9 * 48 := Nat.mul_le_mul (by (first | decide +kernel | omega)) hl48
              refine V_aload_n 0 d_Beds_find_65 rfl rfl ?_
              refine V_aload_n 0 d_Beds_find_66 rfl rfl ?_
              refine V_getR fa_Beds_9 sk_104 rfl d_Beds_find_67 ?_
              refine V_iload_n 3 d_Beds_find_70 rfl rfl ?_
              refine N_iald sk_105 v66E (by (first | decide +kernel | omega)) d_Beds_find_71 (fun z90 z90Z z90E z90e => ?_)
              have hb4 : BP z90 (inB t0) := by rw [z90e]; exact hFD8.1.1 _ t0 ht0
              refine V_iload_n 2 d_Beds_find_72 rfl rfl ?_
              obtain ⟨z91, z91Z, z91E, z91e⟩ : ∃ (y : Int32) (Y : Int), y.toInt = Y ∧ y = h67.1 104 3 := ⟨_, _, rfl, rfl⟩
              refine N_callVI [.int z90, .int v37] [] cv_Beds_54 sk_104 rfl d_Beds_find_73 rfl (Nat.le_of_ble_eq_true rfl) (by decide) (by decide) (c_Beds_isFittingX h67 t0 (h.1 2) (h.1 6) (wZ * gZ) Ih67 z90 z90Z z90E v37 v37Z v37E z91 z91Z z91E z91e.symm (by (first | decide +kernel | omega)) hb4 (hFD8.2.1 _ (by (first | decide +kernel | omega)) (by (first | decide +kernel | omega))) hFD8.2.2) (fun z92 h93 z92Z z92E p94 => ?_)
              obtain ⟨eh93, p94⟩ := p94
              subst eh93
              have := twR_01 p94
              refine V_if_eq 124 z92E d_Beds_find_76 (by decide) (fun c95 => ?_) (fun c95 => ?_)
              ·
                have hfit := (p94.resolve_left (fun q => absurd q.1 (by (first | decide +kernel | omega)))).2
                obtain ⟨z96, z96E, z96e⟩ : ∃ y : Int32, y.toInt = v66Z + 1 ∧ y = v66 + Int32.ofInt 1 := ⟨_, ti_add v66E (by decide) (by (first | decide +kernel | omega)), rfl⟩
                refine V_iinc 3 [some (.ref 104), some (.ref 1), some (.int v37), some (.int z96)] d_Beds_find_124 rfl z96e.symm (by decide) rfl rfl ?_
                refine V_goto 57 d_Beds_find_127 (by decide) ?_
                exact ihL64 z96 ((v66Z + 1)) h67 v73 v73Z v75 v75Z v77 v77Z v79 v79Z z96E Ih67 Fh67 K68 K69 K72 v73E K74 v75E K76 v77E K78 v79E K80 (by (first | decide +kernel | omega)) hFD8 (by rw [show (v66Z + 1).toNat = (v66Z).toNat + 1 by (first | decide +kernel | omega)]; exact (cnt_C hcn ht0).2 hfit) (by rw [show (v66Z + 1).toNat = (v66Z).toNat + 1 by (first | decide +kernel | omega)]; exact allG_n (PrC_s (by (first | decide +kernel | omega)) ht0) hal hfit) (by rw [show (v66Z + 1).toNat = (v66Z).toNat + 1 by (first | decide +kernel | omega)]; exact anyG_n (PrC_s (by (first | decide +kernel | omega)) ht0) han hfit) (by rw [show (v66Z + 1).toNat = (v66Z).toNat + 1 by (first | decide +kernel | omega)]; exact depG_n (PrC_s (by (first | decide +kernel | omega)) ht0) hde hfit) (by (first | decide +kernel | omega))
              ·
                have hfit := (p94.resolve_right (fun q => absurd q.1 (by (first | decide +kernel | omega)))).2
                refine V_aload_n 0 d_Beds_find_79 rfl rfl ?_
                refine V_dup d_Beds_find_80 rfl ?_
                refine N_getK fa_Beds_32 sk_104 rfl d_Beds_find_81 K74 ?_
                refine V_iconst 1 d_Beds_find_84 (by decide) ?_
                refine V_iadd v73E tc_1 (by (first | decide +kernel | omega)) d_Beds_find_85 (fun z97 z97e z97E => ?_)
                refine N_putI fp_Beds_32 sk_104 rfl d_Beds_find_86 (fun h98 eh98 => ?_)
                have hI99 : Inv h98 := inv_full Ih67 eh98 rfl
                have f100 : fr S_Beds_findX h h98 := fr_put Fh67 eh98 rfl
                have D101 := FD_ne hFD8 eh98 (by decide)
                refine V_aload_n 0 d_Beds_find_89 rfl rfl ?_
                refine V_dup d_Beds_find_90 rfl ?_
                refine N_getK fa_Beds_38 sk_104 rfl d_Beds_find_91 (kn_nei eh98 K76 (by decide)) ?_
                refine V_aload_n 0 d_Beds_find_94 rfl rfl ?_
                refine V_getR fa_Beds_9 sk_104 rfl d_Beds_find_95 ?_
                refine V_iload_n 3 d_Beds_find_98 rfl rfl ?_
                refine N_iald sk_105 v66E (by (first | decide +kernel | omega)) d_Beds_find_99 (fun z102 z102Z z102E z102e => ?_)
                have hb5 : BP z102 (inB t0) := by rw [z102e]; exact D101.1.1 _ t0 ht0
                refine N_iand d_Beds_find_100 (fun z103 z103Z z103E z103e => ?_)
                refine N_putI fp_Beds_38 sk_104 rfl d_Beds_find_101 (fun h104 eh104 => ?_)
                have hI105 : Inv h104 := inv_full hI99 eh104 rfl
                have f106 : fr S_Beds_findX h h104 := fr_put f100 eh104 rfl
                have D107 := FD_ne D101 eh104 (by decide)
                refine V_aload_n 0 d_Beds_find_104 rfl rfl ?_
                refine V_dup d_Beds_find_105 rfl ?_
                refine N_getK fa_Beds_41 sk_104 rfl d_Beds_find_106 (kn_nei eh104 (kn_nei eh98 K78 (by decide)) (by decide)) ?_
                refine V_aload_n 0 d_Beds_find_109 rfl rfl ?_
                refine V_getR fa_Beds_9 sk_104 rfl d_Beds_find_110 ?_
                refine V_iload_n 3 d_Beds_find_113 rfl rfl ?_
                refine N_iald sk_105 v66E (by (first | decide +kernel | omega)) d_Beds_find_114 (fun z108 z108Z z108E z108e => ?_)
                have hb6 : BP z108 (inB t0) := by rw [z108e]; exact D107.1.1 _ t0 ht0
                refine N_ior d_Beds_find_115 (fun z109 z109Z z109E z109e => ?_)
                refine N_putI fp_Beds_41 sk_104 rfl d_Beds_find_116 (fun h110 eh110 => ?_)
                have hI111 : Inv h110 := inv_full hI105 eh110 rfl
                have f112 : fr S_Beds_findX h h110 := fr_put f106 eh110 rfl
                have D113 := FD_ne D107 eh110 (by decide)
                refine V_aload_n 0 d_Beds_find_119 rfl rfl ?_
                refine V_iload_n 2 d_Beds_find_120 rfl rfl ?_
                refine N_putI fp_Beds_44 sk_104 rfl d_Beds_find_121 (fun h114 eh114 => ?_)
                have hI115 : Inv h114 := inv_full hI111 eh114 rfl
                have f116 : fr S_Beds_findX h h114 := fr_put f112 eh114 rfl
                have D117 := FD_ne D113 eh114 (by decide)
                obtain ⟨z118, z118E, z118e⟩ : ∃ y : Int32, y.toInt = v66Z + 1 ∧ y = v66 + Int32.ofInt 1 := ⟨_, ti_add v66E (by decide) (by (first | decide +kernel | omega)), rfl⟩
                refine V_iinc 3 [some (.ref 104), some (.ref 1), some (.int v37), some (.int z118)] d_Beds_find_124 rfl z118e.symm (by decide) rfl rfl ?_
                refine V_goto 57 d_Beds_find_127 (by decide) ?_
                exact ihL64 z118 ((v66Z + 1)) h114 z97 ((v73Z + 1)) z103 z103Z z109 z109Z v37 v37Z z118E hI115 f116 (kn_ne eh114 (kn_ne eh110 (kn_ne eh104 (kn_ne eh98 K68 (by decide)) (by decide)) (by decide)) (by decide)) (kn_ne eh114 (kn_ne eh110 (kn_ne eh104 (kn_ne eh98 K69 (by decide)) (by decide)) (by decide)) (by decide)) (kn_nei eh114 (kn_nei eh110 (kn_nei eh104 (kn_nei eh98 K72 (by decide)) (by decide)) (by decide)) (by decide)) z97E (kn_nei eh114 (kn_nei eh110 (kn_nei eh104 (kn_put eh98) (by decide)) (by decide)) (by decide)) z103E (kn_nei eh114 (kn_nei eh110 (kn_put eh104) (by decide)) (by decide)) z109E (kn_nei eh114 (kn_put eh110) (by decide)) v37E (kn_put eh114) (by (first | decide +kernel | omega)) D117 (by rw [show (v66Z + 1).toNat = (v66Z).toNat + 1 by (first | decide +kernel | omega)]; exact (cnt_C hcn ht0).1 hfit) (by rw [show (v66Z + 1).toNat = (v66Z).toNat + 1 by (first | decide +kernel | omega)]; exact allG_y (PrC_s (by (first | decide +kernel | omega)) ht0) hal hb5 hfit z103e) (by rw [show (v66Z + 1).toNat = (v66Z).toNat + 1 by (first | decide +kernel | omega)]; exact anyG_y (PrC_s (by (first | decide +kernel | omega)) ht0) han hb6 hfit z109e) (by rw [show (v66Z + 1).toNat = (v66Z).toNat + 1 by (first | decide +kernel | omega)]; exact depC_y (by (first | decide +kernel | omega)) ht0 hde hfit) (by (first | decide +kernel | omega))
        exact L64 (Int.toNat ((48 - 0 : Int) + 1)) 0 0 h60 v41 v41Z v43 v43Z v45 v45Z v47 v47Z tc_0 hI61 f62 (kn_ne eh60 K39 (by decide)) (kn_ne eh60 K40 (by decide)) z70e.symm v41E (kn_ne eh60 K42 (by decide)) v43E (kn_ne eh60 K44 (by decide)) v45E (kn_ne eh60 K46 (by decide)) v47E (kn_ne eh60 K48 (by decide)) (by (first | decide +kernel | omega)) D63 (by assumption) (by assumption) (by assumption) (by assumption) (by (first | decide +kernel | omega))
  exact L35 (Int.toNat ((10 - 1 : Int) + 1)) 1 1 h31 0 0 z20 z20Z 0 0 0 0 tc_1 hI32 f33 (kn_ne eh31 (kn_ne eh27 (kn_ne eh23 (kn_ne eh16 (kn_ne eh11 (kn_call fh4 wK rfl) (by decide)) (by decide)) (by decide)) (by decide)) (by decide)) (kn_ne eh31 (kn_ne eh27 (kn_ne eh23 (kn_ne eh16 (kn_ne eh11 (kn_call fh4 gK rfl) (by decide)) (by decide)) (by decide)) (by decide)) (by decide)) tc_0 (kn_nei eh31 (kn_nei eh27 (kn_nei eh23 (kn_put eh16) (by decide)) (by decide)) (by decide)) z20E (kn_nei eh31 (kn_nei eh27 (kn_put eh23) (by decide)) (by decide)) tc_0 (kn_nei eh31 (kn_put eh27) (by decide)) tc_0 (kn_put eh31) (by (first | decide +kernel | omega)) D34 rfl (G_00 PrC_0 p22) (G_01 PrC_0) (G_02 PrC_0) (by (first | decide +kernel | omega))
end
section
def S_Rod_bedsX : List (Nat × Option Nat) := [(105, none), (106, none), (104, none)]
abbrev q_Rod_bedsX (h : Hp) (a : Int32) (aZ : Int) (w : Int32) (wZ : Int) (g : Int32) (gZ : Int) : Option Value → Hp → Prop := pInt (fun r h' => Inv h' ∧ fr S_Rod_bedsX h h' ∧ (BDa (fB (h.1 2) (h.1 6) (wZ * gZ)) (clL wZ.toNat gZ.toNat) (wZ * gZ) aZ r 0))
set_option maxRecDepth 100000 in
theorem c_Rod_bedsX (h : Hp) (hI : Inv h) (a : Int32) (aZ : Int) (aE : a.toInt = aZ) (w : Int32) (wZ : Int) (wE : w.toInt = wZ) (wK : h.1 1 0 = w) (g : Int32) (gZ : Int) (gE : g.toInt = gZ) (gK : h.1 1 1 = g) : Ct y_Rod_beds b_Rod_beds 2 (some .int) 3 71 [.ref 85, .int a] h (q_Rod_bedsX h a aZ w wZ g gZ) := by
  refine ct_ow R_Rod [some (.ref 85), some (.int a)] rfl (by decide) rfl (Nat.le_of_ble_eq_true rfl) ?_
  have f0 : fr S_Rod_bedsX h h := fr_rf
  have g1 : 2 ≤ wZ ∧ wZ ≤ 4 := inv_at hI wE wK.symm rfl
  have g2 : 2 ≤ gZ ∧ gZ ≤ 4 := inv_at hI gE gK.symm rfl
  have m24 := mul24 (A := wZ) (B := gZ) (by (first | decide +kernel | omega)) (by (first | decide +kernel | omega))
  refine V_iload_n 1 d_Rod_beds_0 rfl rfl ?_
  refine V_if_lt 9 aE d_Rod_beds_1 (by decide) (fun c3 => ?_) (fun c3 => ?_)
  ·
    refine V_iconst (-1) d_Rod_beds_9 (by decide) ?_
    exact V_iret rfl d_Rod_beds_10 ⟨(-1), rfl, ⟨hI, f0, (Or.inr ⟨by (first | decide +kernel | omega), tc_m1⟩)⟩⟩
  ·
    refine V_iload_n 1 d_Rod_beds_4 rfl rfl ?_
    refine V_iconst 3 d_Rod_beds_5 (by decide) ?_
    refine V_icmp_le 11 aE tc_3 d_Rod_beds_6 (by decide) (fun c4 => ?_) (fun c4 => ?_)
    ·
      refine V_aload_n 0 d_Rod_beds_11 rfl rfl ?_
      refine V_getR fa_Rod_56 sk_85 rfl d_Rod_beds_12 ?_
      refine V_aload_n 0 d_Rod_beds_15 rfl rfl ?_
      refine V_getR fa_Rod_12 sk_85 rfl d_Rod_beds_16 ?_
      refine V_getR fa_Rod_91 sk_0 rfl d_Rod_beds_19 ?_
      refine N_callVV [.ref 1] [] cv_Rod_250 sk_104 rfl d_Rod_beds_22 rfl (Nat.le_of_ble_eq_true rfl) (by decide) (by decide) (c_Beds_findX h hI w wZ wE wK g gZ gE gK) (fun h6 p7 => ?_)
      obtain ⟨hI8, fh6, p7⟩ := p7
      have f9 : fr S_Rod_bedsX h h6 := fr_call f0 fh6 rfl
      refine V_iload_n 1 d_Rod_beds_25 rfl rfl ?_
      refine V_if_ne 37 aE d_Rod_beds_26 (by decide) (fun c10 => ?_) (fun c10 => ?_)
      ·
        refine V_aload_n 0 d_Rod_beds_37 rfl rfl ?_
        refine V_getR fa_Rod_56 sk_85 rfl d_Rod_beds_38 ?_
        refine N_getI fa_Rod_253 sk_104 rfl d_Rod_beds_41 (fun z11 z11Z z11E z11e => ?_)
        have hcd : z11Z = (cd (fB (h.1 2) (h.1 6) (wZ * gZ)) (clL wZ.toNat gZ.toNat) 9 : Nat) := by rw [← z11E, show z11 = h6.1 104 4 from (z11e.symm).symm]; exact p7.2.1
        refine V_if_ne 50 z11E d_Rod_beds_44 (by decide) (fun c12 => ?_) (fun c12 => ?_)
        ·
          refine V_iload_n 1 d_Rod_beds_50 rfl rfl ?_
          rcases (by (first | decide +kernel | omega) : aZ = 1 ∨ aZ = 2 ∨ aZ = 3) with c13 | c13 | c13
          ·
            refine V_lookup (off := 25) 76 aE d_Rod_beds_51 (by decide) (by rw [c13]; decide) (by decide) ?_
            refine V_aload_n 0 d_Rod_beds_76 rfl rfl ?_
            refine V_getR fa_Rod_56 sk_85 rfl d_Rod_beds_77 ?_
            refine N_getI fa_Rod_256 sk_104 rfl d_Rod_beds_80 (fun z14 z14Z z14E z14e => ?_)
            exact V_iret rfl d_Rod_beds_83 ⟨z14, rfl, ⟨hI8, f9, (Or.inl ⟨by (first | decide +kernel | omega), Or.inr (Or.inr ⟨by (first | decide +kernel | omega), Or.inl ⟨by (first | decide +kernel | omega), by rw [show z14 = h6.1 104 5 from (z14e.symm).symm]; exact p7.2.2.1⟩⟩)⟩)⟩⟩
          ·
            refine V_lookup (off := 33) 84 aE d_Rod_beds_51 (by decide) (by rw [c13]; decide) (by decide) ?_
            refine V_aload_n 0 d_Rod_beds_84 rfl rfl ?_
            refine V_getR fa_Rod_12 sk_85 rfl d_Rod_beds_85 ?_
            refine V_getR fa_Rod_91 sk_0 rfl d_Rod_beds_88 ?_
            refine N_callVI [] [] cv_Rod_259 sk_1 rfl d_Rod_beds_91 rfl (Nat.le_of_ble_eq_true rfl) (by decide) (by decide) (c_Land_allBitsX_0 h6 hI8 w wZ wE (kn_call fh6 wK rfl) g gZ gE (kn_call fh6 gK rfl)) (fun z15 h16 z15Z z15E p17 => ?_)
            obtain ⟨eh16, p17⟩ := p17
            subst eh16
            refine V_aload_n 0 d_Rod_beds_94 rfl rfl ?_
            refine V_getR fa_Rod_56 sk_85 rfl d_Rod_beds_95 ?_
            refine N_getI fa_Rod_262 sk_104 rfl d_Rod_beds_98 (fun z18 z18Z z18E z18e => ?_)
            have hb6 : BP z18 (anyG (fB (h.1 2) (h.1 6) (wZ * gZ)) (PrA (clL wZ.toNat gZ.toNat))) := by rw [show z18 = h6.1 104 6 from (z18e.symm).symm]; exact p7.2.2.2.1
            refine V_iconst (-1) d_Rod_beds_101 (by decide) ?_
            refine N_ixor d_Rod_beds_102 (fun z19 z19Z z19E z19e => ?_)
            refine N_iand d_Rod_beds_103 (fun z20 z20Z z20E z20e => ?_)
            have hb1 := BP_and p17 (BP_not hb6)
            rw [← z19e, ← z20e] at hb1
            have hb2 : BP z20 (fun j => (j : Int) < wZ * gZ ∧ ¬ anyG (fB (h.1 2) (h.1 6) (wZ * gZ)) (PrA (clL wZ.toNat gZ.toNat)) j) := BP_cg hb1 (fun j => ⟨fun q => ⟨q.1, q.2.2⟩, fun q => ⟨q.1, by (first | decide +kernel | omega), q.2⟩⟩)
            exact V_iret rfl d_Rod_beds_104 ⟨z20, rfl, ⟨hI8, f9, (Or.inl ⟨by (first | decide +kernel | omega), Or.inr (Or.inr ⟨by (first | decide +kernel | omega), Or.inr (Or.inl ⟨by (first | decide +kernel | omega), hb2⟩)⟩)⟩)⟩⟩
          ·
            refine V_lookup (off := 54) 105 aE d_Rod_beds_51 (by decide) (by rw [c13]; decide) (by decide) ?_
            refine V_aload_n 0 d_Rod_beds_105 rfl rfl ?_
            refine V_getR fa_Rod_56 sk_85 rfl d_Rod_beds_106 ?_
            refine N_getI fa_Rod_265 sk_104 rfl d_Rod_beds_109 (fun z21 z21Z z21E z21e => ?_)
            exact V_iret rfl d_Rod_beds_112 ⟨z21, rfl, ⟨hI8, f9, (Or.inl ⟨by (first | decide +kernel | omega), Or.inr (Or.inr ⟨by (first | decide +kernel | omega), Or.inr (Or.inr ⟨by (first | decide +kernel | omega), by rw [show z21 = h6.1 104 7 from (z21e.symm).symm]; exact p7.2.2.2.2⟩)⟩)⟩)⟩⟩
        ·
          refine V_bipush (-4) d_Rod_beds_47 (by decide) ?_
          exact V_iret rfl d_Rod_beds_49 ⟨(-4), rfl, ⟨hI8, f9, (Or.inl ⟨by (first | decide +kernel | omega), Or.inr (Or.inl ⟨by (first | decide +kernel | omega), by (first | decide +kernel | omega), tc_m4⟩)⟩)⟩⟩
      ·
        refine V_aload_n 0 d_Rod_beds_29 rfl rfl ?_
        refine V_getR fa_Rod_56 sk_85 rfl d_Rod_beds_30 ?_
        refine N_getI fa_Rod_253 sk_104 rfl d_Rod_beds_33 (fun z22 z22Z z22E z22e => ?_)
        exact V_iret rfl d_Rod_beds_36 ⟨z22, rfl, ⟨hI8, f9, (Or.inl ⟨by (first | decide +kernel | omega), Or.inl ⟨by (first | decide +kernel | omega), by rw [show z22 = h6.1 104 4 from (z22e.symm).symm]; exact p7.2.1⟩⟩)⟩⟩
    ·
      refine V_iconst (-1) d_Rod_beds_9 (by decide) ?_
      exact V_iret rfl d_Rod_beds_10 ⟨(-1), rfl, ⟨hI, f0, (Or.inr ⟨by (first | decide +kernel | omega), tc_m1⟩)⟩⟩
abbrev q_Beds_fittingWithWellX (h : Hp) (L : List Bd) (w b : Nat → Int32) (W : Int) (c : Int32) (cZ : Int) (d : Int32) (dZ : Int) (q : Int32) (qZ : Int) : Option Value → Hp → Prop := pInt (fun r h' => h = h' ∧ (r.toInt = (cd (fun x t => inB t cZ.toNat ∧ fB w b W x t) L dZ.toNat : Nat)))
set_option maxRecDepth 100000 in
theorem c_Beds_fittingWithWellX (h : Hp) (L : List Bd) (w b : Nat → Int32) (W : Int) (hI : Inv h) (c : Int32) (cZ : Int) (cE : c.toInt = cZ) (d : Int32) (dZ : Int) (dE : d.toInt = dZ) (q : Int32) (qZ : Int) (qE : q.toInt = qZ) (qK : h.1 104 1 = q) (hy0 : HZ h 105 104 1 L) (hy1 : L.length ≤ 48) (hy2 : 0 ≤ cZ ∧ cZ ≤ 15) (hy3 : 1 ≤ dZ ∧ dZ ≤ 9) (hy4 : ∀ x : Int, 1 ≤ x → x < 10 → BS (h.1 106 x.toNat) (BQ b x W)) (hy5 : BS (h.1 104 3) (WQ w b W)) : Ct y_Beds_fittingWithWell b_Beds_fittingWithWell 6 (some .int) 1 22 [.ref 104, .int c, .int d] h (q_Beds_fittingWithWellX h L w b W c cZ d dZ q qZ) := by
  refine ct_ow R_Beds [some (.ref 104), some (.int c), some (.int d), none, none, none] rfl (by decide) rfl (Nat.le_of_ble_eq_true rfl) ?_
  have f0 : fr [] h h := fr_rf
  have g1 : 0 ≤ qZ ∧ qZ ≤ 48 := inv_at hI qE qK.symm rfl
  refine V_iconst 0 d_Beds_fittingWithWell_0 (by decide) ?_
  refine V_istore_n 3 [some (.ref 104), some (.int c), some (.int d), some (.int 0), none, none] d_Beds_fittingWithWell_1 rfl (by decide) rfl rfl ?_
  refine V_iconst 1 d_Beds_fittingWithWell_2 (by decide) ?_
  refine V_istore 4 [some (.ref 104), some (.int c), some (.int d), some (.int 0), some (.int 1), none] d_Beds_fittingWithWell_3 (by decide) rfl rfl ?_
  have L2 : ∀ (nn : Nat) (v4 : Int32) (v4Z : Int) (v5 : Int32) (v5Z : Int), v4.toInt = v4Z → v5.toInt = v5Z → 1 ≤ v5Z ∧ v5Z ≤ dZ + 1 → v4Z = (cd (fun x t => inB t cZ.toNat ∧ fB w b W x t) L (v5Z - 1).toNat : Nat) → 10 - v5Z < (nn : Int) → V R_Beds b_Beds_fittingWithWell 6 (some .int) 1 22 (q_Beds_fittingWithWellX h L w b W c cZ d dZ q qZ) h 5 [some (.ref 104), some (.int c), some (.int d), some (.int v4), some (.int v5), none] [] := by
    intro nn
    induction nn with
    | zero => intro v4 v4Z v5 v5Z v4E v5E q6 q7 hm8; exact absurd hm8 (by (first | decide +kernel | omega))
    | succ nn ihL2 =>
      intro v4 v4Z v5 v5Z v4E v5E q6 q7 hm8
      refine V_iload d_Beds_fittingWithWell_5 rfl ?_
      refine V_iload_n 2 d_Beds_fittingWithWell_7 rfl rfl ?_
      refine V_icmp_gt 68 v5E dE d_Beds_fittingWithWell_8 (by decide) (fun c9 => ?_) (fun c9 => ?_)
      ·
        refine V_iload_n 3 d_Beds_fittingWithWell_68 rfl rfl ?_
        exact V_iret rfl d_Beds_fittingWithWell_69 ⟨v4, rfl, ⟨rfl, (by rw [v4E, show dZ.toNat = (v5Z - 1).toNat by (first | decide +kernel | omega)]; assumption)⟩⟩
      ·
        refine V_iconst 0 d_Beds_fittingWithWell_11 (by decide) ?_
        refine V_istore 5 [some (.ref 104), some (.int c), some (.int d), some (.int v4), some (.int v5), some (.int 0)] d_Beds_fittingWithWell_12 (by decide) rfl rfl ?_
        have L10 : ∀ (nn : Nat) (v12 : Int32) (v12Z : Int) (v13 : Int32) (v13Z : Int), v12.toInt = v12Z → v13.toInt = v13Z → 0 ≤ v13Z ∧ v13Z ≤ (L.length : Int) → v12Z = (cd (fun x t => inB t cZ.toNat ∧ fB w b W x t) L (v5Z - 1).toNat + cl ((fun x t => inB t cZ.toNat ∧ fB w b W x t) v5Z) (L.take (v13Z).toNat) : Nat) → 48 - v13Z < (nn : Int) → V R_Beds b_Beds_fittingWithWell 6 (some .int) 1 22 (q_Beds_fittingWithWellX h L w b W c cZ d dZ q qZ) h 14 [some (.ref 104), some (.int c), some (.int d), some (.int v12), some (.int v5), some (.int v13)] [] := by
          intro nn
          induction nn with
          | zero => intro v12 v12Z v13 v13Z v12E v13E q14 q15 hm16; exact absurd hm16 (by (first | decide +kernel | omega))
          | succ nn ihL10 =>
            intro v12 v12Z v13 v13Z v12E v13E q14 q15 hm16
            refine V_iload d_Beds_fittingWithWell_14 rfl ?_
            refine V_aload_n 0 d_Beds_fittingWithWell_16 rfl rfl ?_
            refine N_getK fa_Beds_51 sk_104 rfl d_Beds_fittingWithWell_17 qK ?_
            have hsz : qZ = (L.length : Int) := by rw [← qE, show q = h.1 104 1 from (qK).symm]; exact hy0.2
            refine V_icmp_ge 62 v13E qE d_Beds_fittingWithWell_20 (by decide) (fun c17 => ?_) (fun c17 => ?_)
            ·
              obtain ⟨z18, z18E, z18e⟩ : ∃ y : Int32, y.toInt = v5Z + 1 ∧ y = v5 + Int32.ofInt 1 := ⟨_, ti_add v5E (by decide) (by (first | decide +kernel | omega)), rfl⟩
              refine V_iinc 4 [some (.ref 104), some (.int c), some (.int d), some (.int v12), some (.int z18), some (.int v13)] d_Beds_fittingWithWell_62 rfl z18e.symm (by decide) rfl rfl ?_
              refine V_goto 5 d_Beds_fittingWithWell_65 (by decide) ?_
              refine V_drop 5 [some (.ref 104), some (.int c), some (.int d), some (.int v12), some (.int z18), none] rfl ?_
              exact ihL2 v12 v12Z z18 ((v5Z + 1)) v12E z18E (by (first | decide +kernel | omega)) (by have q9 := cnt_Cd (f := (fun x t => inB t cZ.toNat ∧ fB w b W x t)) (L := L) (A := v12Z) (D := v5Z) (n := (v13Z).toNat) (by (first | decide +kernel | omega)) (by assumption) (by (first | decide +kernel | omega)); rw [List.take_zero] at q9; exact q9) (by (first | decide +kernel | omega))
            ·
              obtain ⟨t0, ht0⟩ : ∃ t0 : Bd, L[(v13Z).toNat]? = some t0 := ⟨_, List.getElem?_eq_getElem (by (first | decide +kernel | omega))⟩
              have hcn : v12Z = (cd (fun x t => inB t cZ.toNat ∧ fB w b W x t) L (v5Z - 1).toNat + cl ((fun x t => inB t cZ.toNat ∧ fB w b W x t) v5Z) (L.take (v13Z).toNat) : Nat) := by assumption
              have hcb := cl_le ((fun x t => inB t cZ.toNat ∧ fB w b W x t) v5Z) (L.take (v13Z).toNat)
              have hcb2 := cd_le (fun x t => inB t cZ.toNat ∧ fB w b W x t) L (v5Z - 1).toNat
              have hcb3 : (v5Z - 1).toNat * L.length ≤ 9 * 48 ∧ (L.take (v13Z).toNat).length ≤ 48 := ⟨Nat.mul_le_mul (by (first | decide +kernel | omega)) hy1, by rw [List.length_take]; omega⟩
              refine V_aload_n 0 d_Beds_fittingWithWell_23 rfl rfl ?_
              refine V_getR fa_Beds_9 sk_104 rfl d_Beds_fittingWithWell_24 ?_
              refine V_iload d_Beds_fittingWithWell_27 rfl ?_
              refine N_iald sk_105 v13E (by (first | decide +kernel | omega)) d_Beds_fittingWithWell_29 (fun z19 z19Z z19E z19e => ?_)
              have hb1 : BP z19 (inB t0) := by rw [z19e]; exact hy0.1 _ t0 ht0
              refine V_iload_n 1 d_Beds_fittingWithWell_30 rfl rfl ?_
              refine N_ishr d_Beds_fittingWithWell_31 (fun z20 z20Z z20E z20e => ?_)
              refine V_iconst 1 d_Beds_fittingWithWell_32 (by decide) ?_
              refine N_iand d_Beds_fittingWithWell_33 (fun z21 z21Z z21E z21e => ?_)
              have hbit := BP_sh hb1 cE (by (first | decide +kernel | omega)) z20e z21e z21E
              refine V_if_eq 56 z21E d_Beds_fittingWithWell_34 (by decide) (fun c22 => ?_) (fun c22 => ?_)
              ·
                have hp9 : ¬ ((fun x t => inB t cZ.toNat ∧ fB w b W x t) v5Z t0) := fun q => (hbit.resolve_left (fun q => absurd q.1 (by (first | decide +kernel | omega)))).2 q.1
                obtain ⟨z23, z23E, z23e⟩ : ∃ y : Int32, y.toInt = v13Z + 1 ∧ y = v13 + Int32.ofInt 1 := ⟨_, ti_add v13E (by decide) (by (first | decide +kernel | omega)), rfl⟩
                refine V_iinc 5 [some (.ref 104), some (.int c), some (.int d), some (.int v12), some (.int v5), some (.int z23)] d_Beds_fittingWithWell_56 rfl z23e.symm (by decide) rfl rfl ?_
                refine V_goto 14 d_Beds_fittingWithWell_59 (by decide) ?_
                exact ihL10 v12 v12Z z23 ((v13Z + 1)) v12E z23E (by (first | decide +kernel | omega)) (by rw [show (v13Z + 1).toNat = (v13Z).toNat + 1 by (first | decide +kernel | omega)]; exact (cnt_C (f := (fun x t => inB t cZ.toNat ∧ fB w b W x t)) hcn ht0).2 hp9) (by (first | decide +kernel | omega))
              ·
                refine V_aload_n 0 d_Beds_fittingWithWell_37 rfl rfl ?_
                refine V_aload_n 0 d_Beds_fittingWithWell_38 rfl rfl ?_
                refine V_getR fa_Beds_9 sk_104 rfl d_Beds_fittingWithWell_39 ?_
                refine V_iload d_Beds_fittingWithWell_42 rfl ?_
                refine N_iald sk_105 v13E (by (first | decide +kernel | omega)) d_Beds_fittingWithWell_44 (fun z24 z24Z z24E z24e => ?_)
                have hb2 : BP z24 (inB t0) := by rw [z24e]; exact hy0.1 _ t0 ht0
                refine V_iload d_Beds_fittingWithWell_45 rfl ?_
                obtain ⟨z25, z25Z, z25E, z25e⟩ : ∃ (y : Int32) (Y : Int), y.toInt = Y ∧ y = h.1 104 3 := ⟨_, _, rfl, rfl⟩
                refine N_callVI [.int z24, .int v5] [] cv_Beds_54 sk_104 rfl d_Beds_fittingWithWell_47 rfl (Nat.le_of_ble_eq_true rfl) (by decide) (by decide) (c_Beds_isFittingX h t0 w b W hI z24 z24Z z24E v5 v5Z v5E z25 z25Z z25E z25e.symm (by (first | decide +kernel | omega)) hb2 (hy4 _ (by (first | decide +kernel | omega)) (by (first | decide +kernel | omega))) hy5) (fun z26 h27 z26Z z26E p28 => ?_)
                obtain ⟨eh27, p28⟩ := p28
                subst eh27
                have := twR_01 p28
                refine V_if_eq 56 z26E d_Beds_fittingWithWell_50 (by decide) (fun c29 => ?_) (fun c29 => ?_)
                ·
                  have hp9 : ¬ ((fun x t => inB t cZ.toNat ∧ fB w b W x t) v5Z t0) := fun q => (p28.resolve_left (fun q => absurd q.1 (by (first | decide +kernel | omega)))).2 q.2
                  obtain ⟨z30, z30E, z30e⟩ : ∃ y : Int32, y.toInt = v13Z + 1 ∧ y = v13 + Int32.ofInt 1 := ⟨_, ti_add v13E (by decide) (by (first | decide +kernel | omega)), rfl⟩
                  refine V_iinc 5 [some (.ref 104), some (.int c), some (.int d), some (.int v12), some (.int v5), some (.int z30)] d_Beds_fittingWithWell_56 rfl z30e.symm (by decide) rfl rfl ?_
                  refine V_goto 14 d_Beds_fittingWithWell_59 (by decide) ?_
                  exact ihL10 v12 v12Z z30 ((v13Z + 1)) v12E z30E (by (first | decide +kernel | omega)) (by rw [show (v13Z + 1).toNat = (v13Z).toNat + 1 by (first | decide +kernel | omega)]; exact (cnt_C (f := (fun x t => inB t cZ.toNat ∧ fB w b W x t)) hcn ht0).2 hp9) (by (first | decide +kernel | omega))
                ·
                  obtain ⟨z31, z31E, z31e⟩ : ∃ y : Int32, y.toInt = v12Z + 1 ∧ y = v12 + Int32.ofInt 1 := ⟨_, ti_add v12E (by decide) (by (first | decide +kernel | omega)), rfl⟩
                  refine V_iinc 3 [some (.ref 104), some (.int c), some (.int d), some (.int z31), some (.int v5), some (.int v13)] d_Beds_fittingWithWell_53 rfl z31e.symm (by decide) rfl rfl ?_
                  have hp9 : (fun x t => inB t cZ.toNat ∧ fB w b W x t) v5Z t0 := ⟨(hbit.resolve_right (fun q => absurd q.1 (by (first | decide +kernel | omega)))).2, (p28.resolve_right (fun q => absurd q.1 (by (first | decide +kernel | omega)))).2⟩
                  obtain ⟨z32, z32E, z32e⟩ : ∃ y : Int32, y.toInt = v13Z + 1 ∧ y = v13 + Int32.ofInt 1 := ⟨_, ti_add v13E (by decide) (by (first | decide +kernel | omega)), rfl⟩
                  refine V_iinc 5 [some (.ref 104), some (.int c), some (.int d), some (.int z31), some (.int v5), some (.int z32)] d_Beds_fittingWithWell_56 rfl z32e.symm (by decide) rfl rfl ?_
                  refine V_goto 14 d_Beds_fittingWithWell_59 (by decide) ?_
                  exact ihL10 z31 ((v12Z + 1)) z32 ((v13Z + 1)) z31E z32E (by (first | decide +kernel | omega)) (by rw [show (v13Z + 1).toNat = (v13Z).toNat + 1 by (first | decide +kernel | omega)]; exact (cnt_C (f := (fun x t => inB t cZ.toNat ∧ fB w b W x t)) hcn ht0).1 hp9) (by (first | decide +kernel | omega))
        exact L10 (Int.toNat ((48 - 0 : Int) + 1)) v4 v4Z 0 0 v4E tc_0 (by (first | decide +kernel | omega)) (show v4Z = (cd (fun x t => inB t cZ.toNat ∧ fB w b W x t) L (v5Z - 1).toNat + 0 : Nat) from by assumption) (by (first | decide +kernel | omega))
  exact L2 (Int.toNat ((10 - 1 : Int) + 1)) 0 0 1 1 tc_0 tc_1 (by (first | decide +kernel | omega)) rfl (by (first | decide +kernel | omega))
def S_Rod_nextX : List (Nat × Option Nat) := [(105, none), (106, none), (104, none)]
abbrev q_Rod_nextX (h : Hp) (d : Int32) (dZ : Int) (a : Int32) (aZ : Int) (w : Int32) (wZ : Int) (g : Int32) (gZ : Int) : Option Value → Hp → Prop := pInt (fun r h' => Inv h' ∧ fr S_Rod_nextX h h' ∧ (TSa ((1 ≤ dZ ∧ dZ ≤ 9) ∧ (aZ = 0 ∨ aZ = 1)) r (tsr (nx (fun i => (h.1 6 i).toInt) dZ (wC (fB (h.1 2) (h.1 6) (wZ * gZ)) (clL wZ.toNat gZ.toNat) dZ) (cd (fB (h.1 2) (h.1 6) (wZ * gZ)) (clL wZ.toNat gZ.toNat) 9 : Nat) (wZ * gZ).toNat) aZ)))
set_option maxRecDepth 100000 in
theorem c_Rod_nextX (h : Hp) (hI : Inv h) (d : Int32) (dZ : Int) (dE : d.toInt = dZ) (a : Int32) (aZ : Int) (aE : a.toInt = aZ) (w : Int32) (wZ : Int) (wE : w.toInt = wZ) (wK : h.1 1 0 = w) (g : Int32) (gZ : Int) (gE : g.toInt = gZ) (gK : h.1 1 1 = g) : Ct y_Rod_next b_Rod_next 9 (some .int) 3 71 [.ref 85, .int d, .int a] h (q_Rod_nextX h d dZ a aZ w wZ g gZ) := by
  refine ct_ow R_Rod [some (.ref 85), some (.int d), some (.int a), none, none, none, none, none, none] rfl (by decide) rfl (Nat.le_of_ble_eq_true rfl) ?_
  have f0 : fr S_Rod_nextX h h := fr_rf
  have g1 : 2 ≤ wZ ∧ wZ ≤ 4 := inv_at hI wE wK.symm rfl
  have g2 : 2 ≤ gZ ∧ gZ ≤ 4 := inv_at hI gE gK.symm rfl
  have m24 := mul24 (A := wZ) (B := gZ) (by (first | decide +kernel | omega)) (by (first | decide +kernel | omega))
  have hl48 := (bd_perm wZ.toNat (by (first | decide +kernel | omega)) (by (first | decide +kernel | omega)) gZ.toNat (by (first | decide +kernel | omega)) (by (first | decide +kernel | omega))).2.1
  refine V_iload_n 1 d_Rod_next_0 rfl rfl ?_
  refine N_callSI [.int d] [] cs_Rod_230 d_Rod_next_1 rfl (Nat.le_of_ble_eq_true rfl) (by decide) (by decide) (c_Rod_isDepth h d dZ dE) (fun z3 h4 z3Z z3E p5 => ?_)
  obtain ⟨eh4, p5⟩ := p5
  subst eh4
  refine V_if_eq 16 z3E d_Rod_next_4 (by decide) (fun c6 => ?_) (fun c6 => ?_)
  ·
    refine V_iconst (-1) d_Rod_next_16 (by decide) ?_
    exact V_iret rfl d_Rod_next_17 ⟨(-1), rfl, ⟨hI, f0, (Or.inr ⟨by (first | decide +kernel | omega), tc_m1⟩)⟩⟩
  ·
    refine V_iload_n 2 d_Rod_next_7 rfl rfl ?_
    refine V_if_eq 18 aE d_Rod_next_8 (by decide) (fun c7 => ?_) (fun c7 => ?_)
    ·
      refine V_aload_n 0 d_Rod_next_18 rfl rfl ?_
      refine V_getR fa_Rod_56 sk_85 rfl d_Rod_next_19 ?_
      refine V_aload_n 0 d_Rod_next_22 rfl rfl ?_
      refine V_getR fa_Rod_12 sk_85 rfl d_Rod_next_23 ?_
      refine V_getR fa_Rod_91 sk_0 rfl d_Rod_next_26 ?_
      refine N_callVV [.ref 1] [] cv_Rod_250 sk_104 rfl d_Rod_next_29 rfl (Nat.le_of_ble_eq_true rfl) (by decide) (by decide) (c_Beds_findX h hI w wZ wE wK g gZ gE gK) (fun h9 p10 => ?_)
      obtain ⟨hI11, fh9, p10⟩ := p10
      have f12 : fr S_Rod_nextX h h9 := fr_call f0 fh9 rfl
      refine V_aload_n 0 d_Rod_next_32 rfl rfl ?_
      refine V_getR fa_Rod_56 sk_85 rfl d_Rod_next_33 ?_
      refine N_getI fa_Rod_253 sk_104 rfl d_Rod_next_36 (fun z13 z13Z z13E z13e => ?_)
      have hnow : z13Z = (cd (fB (h.1 2) (h.1 6) (wZ * gZ)) (clL wZ.toNat gZ.toNat) 9 : Nat) := by rw [← z13E, show z13 = h9.1 104 4 from (z13e.symm).symm]; exact p10.2.1
      have hnb := cd_le (fB (h.1 2) (h.1 6) (wZ * gZ)) (clL wZ.toNat gZ.toNat) 9
      refine V_istore_n 3 [some (.ref 85), some (.int d), some (.int a), some (.int z13), none, none, none, none, none] d_Rod_next_39 rfl (by decide) rfl rfl ?_
      refine V_iload_n 3 d_Rod_next_40 rfl rfl ?_
      refine V_istore 4 [some (.ref 85), some (.int d), some (.int a), some (.int z13), some (.int z13), none, none, none, none] d_Rod_next_41 (by decide) rfl rfl ?_
      refine V_bipush (-4) d_Rod_next_43 (by decide) ?_
      refine V_istore 5 [some (.ref 85), some (.int d), some (.int a), some (.int z13), some (.int z13), some (.int (-4)), none, none, none] d_Rod_next_45 (by decide) rfl rfl ?_
      refine V_iconst 0 d_Rod_next_47 (by decide) ?_
      refine V_istore 6 [some (.ref 85), some (.int d), some (.int a), some (.int z13), some (.int z13), some (.int (-4)), some (.int 0), none, none] d_Rod_next_48 (by decide) rfl rfl ?_
      have L14 : ∀ (nn : Nat) (v16 : Int32) (v16Z : Int) (v17 : Int32) (v17Z : Int) (v18 : Int32) (v18Z : Int), v16.toInt = v16Z → v17.toInt = v17Z → v18.toInt = v18Z → 0 ≤ v18Z ∧ v18Z ≤ wZ * gZ → v16Z = (nx (fun i => (h.1 6 i).toInt) dZ (wC (fB (h.1 2) (h.1 6) (wZ * gZ)) (clL wZ.toNat gZ.toNat) dZ) (cd (fB (h.1 2) (h.1 6) (wZ * gZ)) (clL wZ.toNat gZ.toNat) 9 : Nat) (v18Z).toNat).1 → v17Z = (nx (fun i => (h.1 6 i).toInt) dZ (wC (fB (h.1 2) (h.1 6) (wZ * gZ)) (clL wZ.toNat gZ.toNat) dZ) (cd (fB (h.1 2) (h.1 6) (wZ * gZ)) (clL wZ.toNat gZ.toNat) 9 : Nat) (v18Z).toNat).2 → 16 - v18Z < (nn : Int) → V R_Rod b_Rod_next 9 (some .int) 3 71 (q_Rod_nextX h d dZ a aZ w wZ g gZ) h9 50 [some (.ref 85), some (.int d), some (.int a), some (.int z13), some (.int v16), some (.int v17), some (.int v18), none, none] [] := by
        intro nn
        induction nn with
        | zero => intro v16 v16Z v17 v17Z v18 v18Z v16E v17E v18E q19 q20 q21 hm22; exact absurd hm22 (by (first | decide +kernel | omega))
        | succ nn ihL14 =>
          intro v16 v16Z v17 v17Z v18 v18Z v16E v17E v18E q19 q20 q21 hm22
          refine V_iload d_Rod_next_50 rfl ?_
          refine V_aload_n 0 d_Rod_next_52 rfl rfl ?_
          refine V_getR fa_Rod_12 sk_85 rfl d_Rod_next_53 ?_
          refine V_getR fa_Rod_91 sk_0 rfl d_Rod_next_56 ?_
          refine N_callVI [] [.int v18] cv_Rod_204 sk_1 rfl d_Rod_next_59 rfl (Nat.le_of_ble_eq_true rfl) (by decide) (by decide) (c_Land_cells_0 h9 hI11 w wZ wE (kn_call fh9 wK rfl) g gZ gE (kn_call fh9 gK rfl)) (fun z23 h24 z23Z z23E p25 => ?_)
          obtain ⟨eh24, p25⟩ := p25
          subst eh24
          refine V_icmp_ge 126 v18E z23E d_Rod_next_62 (by decide) (fun c26 => ?_) (fun c26 => ?_)
          ·
            refine V_iload d_Rod_next_126 rfl ?_
            refine V_bipush (-4) d_Rod_next_128 (by decide) ?_
            refine V_icmp_eq 137 v17E tc_m4 d_Rod_next_130 (by decide) (fun c27 => ?_) (fun c27 => ?_)
            ·
              refine V_iload d_Rod_next_137 rfl ?_
              refine V_goto 144 d_Rod_next_139 (by decide) ?_
              exact V_iret rfl d_Rod_next_144 ⟨v17, rfl, ⟨hI11, f12, (Or.inl ⟨by (first | decide +kernel | omega), tsr_1 (A := v16Z) (B := v17Z) (by have q9 : v16Z = (nx (fun i => (h.1 6 i).toInt) dZ (wC (fB (h.1 2) (h.1 6) (wZ * gZ)) (clL wZ.toNat gZ.toNat) dZ) (cd (fB (h.1 2) (h.1 6) (wZ * gZ)) (clL wZ.toNat gZ.toNat) 9 : Nat) (v18Z).toNat).1 := (by assumption); rw [show (v18Z).toNat = (wZ * gZ).toNat by (first | decide +kernel | omega)] at q9; exact q9) (by have q9 : v17Z = (nx (fun i => (h.1 6 i).toInt) dZ (wC (fB (h.1 2) (h.1 6) (wZ * gZ)) (clL wZ.toNat gZ.toNat) dZ) (cd (fB (h.1 2) (h.1 6) (wZ * gZ)) (clL wZ.toNat gZ.toNat) 9 : Nat) (v18Z).toNat).2 := (by assumption); rw [show (v18Z).toNat = (wZ * gZ).toNat by (first | decide +kernel | omega)] at q9; exact q9) (by (try rw [v17E]); omega)⟩)⟩⟩
            ·
              refine V_iload_n 2 d_Rod_next_133 rfl rfl ?_
              refine V_if_ne 142 aE d_Rod_next_134 (by decide) (fun c28 => ?_) (fun c28 => ?_)
              ·
                refine V_iload d_Rod_next_142 rfl ?_
                exact V_iret rfl d_Rod_next_144 ⟨v16, rfl, ⟨hI11, f12, (Or.inl ⟨by (first | decide +kernel | omega), tsr_1 (A := v16Z) (B := v17Z) (by have q9 : v16Z = (nx (fun i => (h.1 6 i).toInt) dZ (wC (fB (h.1 2) (h.1 6) (wZ * gZ)) (clL wZ.toNat gZ.toNat) dZ) (cd (fB (h.1 2) (h.1 6) (wZ * gZ)) (clL wZ.toNat gZ.toNat) 9 : Nat) (v18Z).toNat).1 := (by assumption); rw [show (v18Z).toNat = (wZ * gZ).toNat by (first | decide +kernel | omega)] at q9; exact q9) (by have q9 : v17Z = (nx (fun i => (h.1 6 i).toInt) dZ (wC (fB (h.1 2) (h.1 6) (wZ * gZ)) (clL wZ.toNat gZ.toNat) dZ) (cd (fB (h.1 2) (h.1 6) (wZ * gZ)) (clL wZ.toNat gZ.toNat) 9 : Nat) (v18Z).toNat).2 := (by assumption); rw [show (v18Z).toNat = (wZ * gZ).toNat by (first | decide +kernel | omega)] at q9; exact q9) (by (try rw [v16E]); omega)⟩)⟩⟩
              ·
                refine V_iload d_Rod_next_137 rfl ?_
                refine V_goto 144 d_Rod_next_139 (by decide) ?_
                exact V_iret rfl d_Rod_next_144 ⟨v17, rfl, ⟨hI11, f12, (Or.inl ⟨by (first | decide +kernel | omega), tsr_1 (A := v16Z) (B := v17Z) (by have q9 : v16Z = (nx (fun i => (h.1 6 i).toInt) dZ (wC (fB (h.1 2) (h.1 6) (wZ * gZ)) (clL wZ.toNat gZ.toNat) dZ) (cd (fB (h.1 2) (h.1 6) (wZ * gZ)) (clL wZ.toNat gZ.toNat) 9 : Nat) (v18Z).toNat).1 := (by assumption); rw [show (v18Z).toNat = (wZ * gZ).toNat by (first | decide +kernel | omega)] at q9; exact q9) (by have q9 : v17Z = (nx (fun i => (h.1 6 i).toInt) dZ (wC (fB (h.1 2) (h.1 6) (wZ * gZ)) (clL wZ.toNat gZ.toNat) dZ) (cd (fB (h.1 2) (h.1 6) (wZ * gZ)) (clL wZ.toNat gZ.toNat) 9 : Nat) (v18Z).toNat).2 := (by assumption); rw [show (v18Z).toNat = (wZ * gZ).toNat by (first | decide +kernel | omega)] at q9; exact q9) (by (try rw [v17E]); omega)⟩)⟩⟩
          ·
            refine V_aload_n 0 d_Rod_next_65 rfl rfl ?_
            refine V_getR fa_Rod_12 sk_85 rfl d_Rod_next_66 ?_
            refine V_getR fa_Rod_91 sk_0 rfl d_Rod_next_69 ?_
            refine V_getR fa_Rod_141 sk_1 rfl d_Rod_next_72 ?_
            refine V_iload d_Rod_next_75 rfl ?_
            refine N_iald sk_6 v18E (by (first | decide +kernel | omega)) d_Rod_next_77 (fun z29 z29Z z29E z29e => ?_)
            have hbo : z29Z = (h.1 6 (v18Z).toNat).toInt := by rw [← z29E, z29e, f12.1 6 _ rfl]
            refine V_iload_n 1 d_Rod_next_78 rfl rfl ?_
            refine V_icmp_ge 120 z29E dE d_Rod_next_79 (by decide) (fun c30 => ?_) (fun c30 => ?_)
            ·
              have hs9 := nx_n (b := fun i => (h.1 6 i).toInt) (d := dZ) (w := wC (fB (h.1 2) (h.1 6) (wZ * gZ)) (clL wZ.toNat gZ.toNat) dZ) (f0 := (cd (fB (h.1 2) (h.1 6) (wZ * gZ)) (clL wZ.toNat gZ.toNat) 9 : Nat)) (C := v18Z) (by (first | decide +kernel | omega)) (by assumption) (by assumption) (by show ¬ ((h.1 6 (v18Z).toNat).toInt < dZ ∧ _); omega)
              obtain ⟨z31, z31E, z31e⟩ : ∃ y : Int32, y.toInt = v18Z + 1 ∧ y = v18 + Int32.ofInt 1 := ⟨_, ti_add v18E (by decide) (by (first | decide +kernel | omega)), rfl⟩
              refine V_iinc 6 [some (.ref 85), some (.int d), some (.int a), some (.int z13), some (.int v16), some (.int v17), some (.int z31), none, none] d_Rod_next_120 rfl z31e.symm (by decide) rfl rfl ?_
              refine V_goto 50 d_Rod_next_123 (by decide) ?_
              exact ihL14 v16 v16Z v17 v17Z z31 ((v18Z + 1)) v16E v17E z31E (by (first | decide +kernel | omega)) hs9.1 hs9.2 (by (first | decide +kernel | omega))
            ·
              refine V_aload_n 0 d_Rod_next_82 rfl rfl ?_
              refine V_getR fa_Rod_56 sk_85 rfl d_Rod_next_83 ?_
              refine V_iload d_Rod_next_86 rfl ?_
              refine V_iload_n 1 d_Rod_next_88 rfl rfl ?_
              obtain ⟨z32, z32Z, z32E, z32e⟩ : ∃ (y : Int32) (Y : Int), y.toInt = Y ∧ y = h9.1 104 1 := ⟨_, _, rfl, rfl⟩
              have g33 : 0 ≤ z32Z ∧ z32Z ≤ 48 := inv_at hI11 z32E z32e rfl
              refine N_callVI [.int v18, .int d] [] cv_Rod_268 sk_104 rfl d_Rod_next_89 rfl (Nat.le_of_ble_eq_true rfl) (by decide) (by decide) (c_Beds_fittingWithWellX h9 (clL wZ.toNat gZ.toNat) (h.1 2) (h.1 6) (wZ * gZ) hI11 v18 v18Z v18E d dZ dE z32 z32Z z32E z32e.symm p10.1.1 hl48 (by (first | decide +kernel | omega)) (by (first | decide +kernel | omega)) p10.1.2.1 p10.1.2.2) (fun z34 h35 z34Z z34E p36 => ?_)
              obtain ⟨eh35, p36⟩ := p36
              subst eh35
              have hw9 : z34Z = (cd (fun x t => inB t (v18Z).toNat ∧ (fB (h.1 2) (h.1 6) (wZ * gZ)) x t) (clL wZ.toNat gZ.toNat) dZ.toNat : Nat) := z34E.symm.trans p36
              have hwb := cd_le (fun x t => inB t (v18Z).toNat ∧ (fB (h.1 2) (h.1 6) (wZ * gZ)) x t) (clL wZ.toNat gZ.toNat) dZ.toNat
              have hwb2 : dZ.toNat * (clL wZ.toNat gZ.toNat).length ≤ 9 * 48 := Nat.mul_le_mul (by (first | decide +kernel | omega)) hl48
              refine V_istore 7 [some (.ref 85), some (.int d), some (.int a), some (.int z13), some (.int v16), some (.int v17), some (.int v18), some (.int z34), none] d_Rod_next_92 (by decide) rfl rfl ?_
              refine V_iload d_Rod_next_94 rfl ?_
              refine V_iload_n 3 d_Rod_next_96 rfl rfl ?_
              refine V_iload d_Rod_next_97 rfl ?_
              refine V_isub z13E z34E (by (first | decide +kernel | omega)) d_Rod_next_99 (fun z37 z37e z37E => ?_)
              refine N_max z34E z37E wm_Rod_211 d_Rod_next_100 (Nat.le_of_ble_eq_true rfl) (by decide) wmax1 wM2 wmax3 (fun z38 z38Z z38E z38e z38g => ?_)
              have hx9 : z38Z = wC (fB (h.1 2) (h.1 6) (wZ * gZ)) (clL wZ.toNat gZ.toNat) dZ (v18Z).toNat := by unfold wC; rw [← hw9, ← hnow]; exact mx2_1 (by (first | decide +kernel | omega))
              refine V_istore 8 [some (.ref 85), some (.int d), some (.int a), some (.int z13), some (.int v16), some (.int v17), some (.int v18), some (.int z34), some (.int z38)] d_Rod_next_103 (by decide) rfl rfl ?_
              refine V_iload d_Rod_next_105 rfl ?_
              refine V_iload d_Rod_next_107 rfl ?_
              refine V_icmp_ge 120 z38E v16E d_Rod_next_109 (by decide) (fun c39 => ?_) (fun c39 => ?_)
              ·
                have hs9 := nx_n (b := fun i => (h.1 6 i).toInt) (d := dZ) (w := wC (fB (h.1 2) (h.1 6) (wZ * gZ)) (clL wZ.toNat gZ.toNat) dZ) (f0 := (cd (fB (h.1 2) (h.1 6) (wZ * gZ)) (clL wZ.toNat gZ.toNat) 9 : Nat)) (C := v18Z) (by (first | decide +kernel | omega)) (by assumption) (by assumption) (by rw [← hx9]; omega)
                obtain ⟨z40, z40E, z40e⟩ : ∃ y : Int32, y.toInt = v18Z + 1 ∧ y = v18 + Int32.ofInt 1 := ⟨_, ti_add v18E (by decide) (by (first | decide +kernel | omega)), rfl⟩
                refine V_iinc 6 [some (.ref 85), some (.int d), some (.int a), some (.int z13), some (.int v16), some (.int v17), some (.int z40), some (.int z34), some (.int z38)] d_Rod_next_120 rfl z40e.symm (by decide) rfl rfl ?_
                refine V_goto 50 d_Rod_next_123 (by decide) ?_
                refine V_drop 7 [some (.ref 85), some (.int d), some (.int a), some (.int z13), some (.int v16), some (.int v17), some (.int z40), none, some (.int z38)] rfl ?_
                refine V_drop 8 [some (.ref 85), some (.int d), some (.int a), some (.int z13), some (.int v16), some (.int v17), some (.int z40), none, none] rfl ?_
                exact ihL14 v16 v16Z v17 v17Z z40 ((v18Z + 1)) v16E v17E z40E (by (first | decide +kernel | omega)) hs9.1 hs9.2 (by (first | decide +kernel | omega))
              ·
                have hs9 := nx_y (b := fun i => (h.1 6 i).toInt) (d := dZ) (w := wC (fB (h.1 2) (h.1 6) (wZ * gZ)) (clL wZ.toNat gZ.toNat) dZ) (f0 := (cd (fB (h.1 2) (h.1 6) (wZ * gZ)) (clL wZ.toNat gZ.toNat) 9 : Nat)) (C := v18Z) (by (first | decide +kernel | omega)) (by show (h.1 6 (v18Z).toNat).toInt < dZ; omega) (by assumption) hx9 (by (first | decide +kernel | omega))
                refine V_iload d_Rod_next_112 rfl ?_
                refine V_istore 4 [some (.ref 85), some (.int d), some (.int a), some (.int z13), some (.int z38), some (.int v17), some (.int v18), some (.int z34), some (.int z38)] d_Rod_next_114 (by decide) rfl rfl ?_
                refine V_iload d_Rod_next_116 rfl ?_
                refine V_istore 5 [some (.ref 85), some (.int d), some (.int a), some (.int z13), some (.int z38), some (.int v18), some (.int v18), some (.int z34), some (.int z38)] d_Rod_next_118 (by decide) rfl rfl ?_
                obtain ⟨z41, z41E, z41e⟩ : ∃ y : Int32, y.toInt = v18Z + 1 ∧ y = v18 + Int32.ofInt 1 := ⟨_, ti_add v18E (by decide) (by (first | decide +kernel | omega)), rfl⟩
                refine V_iinc 6 [some (.ref 85), some (.int d), some (.int a), some (.int z13), some (.int z38), some (.int v18), some (.int z41), some (.int z34), some (.int z38)] d_Rod_next_120 rfl z41e.symm (by decide) rfl rfl ?_
                refine V_goto 50 d_Rod_next_123 (by decide) ?_
                refine V_drop 7 [some (.ref 85), some (.int d), some (.int a), some (.int z13), some (.int z38), some (.int v18), some (.int z41), none, some (.int z38)] rfl ?_
                refine V_drop 8 [some (.ref 85), some (.int d), some (.int a), some (.int z13), some (.int z38), some (.int v18), some (.int z41), none, none] rfl ?_
                exact ihL14 z38 z38Z v18 v18Z z41 ((v18Z + 1)) z38E v18E z41E (by (first | decide +kernel | omega)) hs9.1 hs9.2 (by (first | decide +kernel | omega))
      exact L14 (Int.toNat ((16 - 0 : Int) + 1)) z13 z13Z (-4) ((-4)) 0 0 z13E tc_m4 tc_0 (by (first | decide +kernel | omega)) hnow rfl (by (first | decide +kernel | omega))
    ·
      refine V_iload_n 2 d_Rod_next_11 rfl rfl ?_
      refine V_iconst 1 d_Rod_next_12 (by decide) ?_
      refine V_icmp_eq 18 aE tc_1 d_Rod_next_13 (by decide) (fun c42 => ?_) (fun c42 => ?_)
      ·
        refine V_aload_n 0 d_Rod_next_18 rfl rfl ?_
        refine V_getR fa_Rod_56 sk_85 rfl d_Rod_next_19 ?_
        refine V_aload_n 0 d_Rod_next_22 rfl rfl ?_
        refine V_getR fa_Rod_12 sk_85 rfl d_Rod_next_23 ?_
        refine V_getR fa_Rod_91 sk_0 rfl d_Rod_next_26 ?_
        refine N_callVV [.ref 1] [] cv_Rod_250 sk_104 rfl d_Rod_next_29 rfl (Nat.le_of_ble_eq_true rfl) (by decide) (by decide) (c_Beds_findX h hI w wZ wE wK g gZ gE gK) (fun h44 p45 => ?_)
        obtain ⟨hI46, fh44, p45⟩ := p45
        have f47 : fr S_Rod_nextX h h44 := fr_call f0 fh44 rfl
        refine V_aload_n 0 d_Rod_next_32 rfl rfl ?_
        refine V_getR fa_Rod_56 sk_85 rfl d_Rod_next_33 ?_
        refine N_getI fa_Rod_253 sk_104 rfl d_Rod_next_36 (fun z48 z48Z z48E z48e => ?_)
        have hnow : z48Z = (cd (fB (h.1 2) (h.1 6) (wZ * gZ)) (clL wZ.toNat gZ.toNat) 9 : Nat) := by rw [← z48E, show z48 = h44.1 104 4 from (z48e.symm).symm]; exact p45.2.1
        have hnb := cd_le (fB (h.1 2) (h.1 6) (wZ * gZ)) (clL wZ.toNat gZ.toNat) 9
        refine V_istore_n 3 [some (.ref 85), some (.int d), some (.int a), some (.int z48), none, none, none, none, none] d_Rod_next_39 rfl (by decide) rfl rfl ?_
        refine V_iload_n 3 d_Rod_next_40 rfl rfl ?_
        refine V_istore 4 [some (.ref 85), some (.int d), some (.int a), some (.int z48), some (.int z48), none, none, none, none] d_Rod_next_41 (by decide) rfl rfl ?_
        refine V_bipush (-4) d_Rod_next_43 (by decide) ?_
        refine V_istore 5 [some (.ref 85), some (.int d), some (.int a), some (.int z48), some (.int z48), some (.int (-4)), none, none, none] d_Rod_next_45 (by decide) rfl rfl ?_
        refine V_iconst 0 d_Rod_next_47 (by decide) ?_
        refine V_istore 6 [some (.ref 85), some (.int d), some (.int a), some (.int z48), some (.int z48), some (.int (-4)), some (.int 0), none, none] d_Rod_next_48 (by decide) rfl rfl ?_
        have L49 : ∀ (nn : Nat) (v51 : Int32) (v51Z : Int) (v52 : Int32) (v52Z : Int) (v53 : Int32) (v53Z : Int), v51.toInt = v51Z → v52.toInt = v52Z → v53.toInt = v53Z → 0 ≤ v53Z ∧ v53Z ≤ wZ * gZ → v51Z = (nx (fun i => (h.1 6 i).toInt) dZ (wC (fB (h.1 2) (h.1 6) (wZ * gZ)) (clL wZ.toNat gZ.toNat) dZ) (cd (fB (h.1 2) (h.1 6) (wZ * gZ)) (clL wZ.toNat gZ.toNat) 9 : Nat) (v53Z).toNat).1 → v52Z = (nx (fun i => (h.1 6 i).toInt) dZ (wC (fB (h.1 2) (h.1 6) (wZ * gZ)) (clL wZ.toNat gZ.toNat) dZ) (cd (fB (h.1 2) (h.1 6) (wZ * gZ)) (clL wZ.toNat gZ.toNat) 9 : Nat) (v53Z).toNat).2 → 16 - v53Z < (nn : Int) → V R_Rod b_Rod_next 9 (some .int) 3 71 (q_Rod_nextX h d dZ a aZ w wZ g gZ) h44 50 [some (.ref 85), some (.int d), some (.int a), some (.int z48), some (.int v51), some (.int v52), some (.int v53), none, none] [] := by
          intro nn
          induction nn with
          | zero => intro v51 v51Z v52 v52Z v53 v53Z v51E v52E v53E q54 q55 q56 hm57; exact absurd hm57 (by (first | decide +kernel | omega))
          | succ nn ihL49 =>
            intro v51 v51Z v52 v52Z v53 v53Z v51E v52E v53E q54 q55 q56 hm57
            refine V_iload d_Rod_next_50 rfl ?_
            refine V_aload_n 0 d_Rod_next_52 rfl rfl ?_
            refine V_getR fa_Rod_12 sk_85 rfl d_Rod_next_53 ?_
            refine V_getR fa_Rod_91 sk_0 rfl d_Rod_next_56 ?_
            refine N_callVI [] [.int v53] cv_Rod_204 sk_1 rfl d_Rod_next_59 rfl (Nat.le_of_ble_eq_true rfl) (by decide) (by decide) (c_Land_cells_0 h44 hI46 w wZ wE (kn_call fh44 wK rfl) g gZ gE (kn_call fh44 gK rfl)) (fun z58 h59 z58Z z58E p60 => ?_)
            obtain ⟨eh59, p60⟩ := p60
            subst eh59
            refine V_icmp_ge 126 v53E z58E d_Rod_next_62 (by decide) (fun c61 => ?_) (fun c61 => ?_)
            ·
              refine V_iload d_Rod_next_126 rfl ?_
              refine V_bipush (-4) d_Rod_next_128 (by decide) ?_
              refine V_icmp_eq 137 v52E tc_m4 d_Rod_next_130 (by decide) (fun c62 => ?_) (fun c62 => ?_)
              ·
                refine V_iload d_Rod_next_137 rfl ?_
                refine V_goto 144 d_Rod_next_139 (by decide) ?_
                exact V_iret rfl d_Rod_next_144 ⟨v52, rfl, ⟨hI46, f47, (Or.inl ⟨by (first | decide +kernel | omega), tsr_1 (A := v51Z) (B := v52Z) (by have q9 : v51Z = (nx (fun i => (h.1 6 i).toInt) dZ (wC (fB (h.1 2) (h.1 6) (wZ * gZ)) (clL wZ.toNat gZ.toNat) dZ) (cd (fB (h.1 2) (h.1 6) (wZ * gZ)) (clL wZ.toNat gZ.toNat) 9 : Nat) (v53Z).toNat).1 := (by assumption); rw [show (v53Z).toNat = (wZ * gZ).toNat by (first | decide +kernel | omega)] at q9; exact q9) (by have q9 : v52Z = (nx (fun i => (h.1 6 i).toInt) dZ (wC (fB (h.1 2) (h.1 6) (wZ * gZ)) (clL wZ.toNat gZ.toNat) dZ) (cd (fB (h.1 2) (h.1 6) (wZ * gZ)) (clL wZ.toNat gZ.toNat) 9 : Nat) (v53Z).toNat).2 := (by assumption); rw [show (v53Z).toNat = (wZ * gZ).toNat by (first | decide +kernel | omega)] at q9; exact q9) (by (try rw [v52E]); omega)⟩)⟩⟩
              ·
                refine V_iload_n 2 d_Rod_next_133 rfl rfl ?_
                refine V_if_ne 142 aE d_Rod_next_134 (by decide) (fun c63 => ?_) (fun c63 => ?_)
                ·
                  refine V_iload d_Rod_next_142 rfl ?_
                  exact V_iret rfl d_Rod_next_144 ⟨v51, rfl, ⟨hI46, f47, (Or.inl ⟨by (first | decide +kernel | omega), tsr_1 (A := v51Z) (B := v52Z) (by have q9 : v51Z = (nx (fun i => (h.1 6 i).toInt) dZ (wC (fB (h.1 2) (h.1 6) (wZ * gZ)) (clL wZ.toNat gZ.toNat) dZ) (cd (fB (h.1 2) (h.1 6) (wZ * gZ)) (clL wZ.toNat gZ.toNat) 9 : Nat) (v53Z).toNat).1 := (by assumption); rw [show (v53Z).toNat = (wZ * gZ).toNat by (first | decide +kernel | omega)] at q9; exact q9) (by have q9 : v52Z = (nx (fun i => (h.1 6 i).toInt) dZ (wC (fB (h.1 2) (h.1 6) (wZ * gZ)) (clL wZ.toNat gZ.toNat) dZ) (cd (fB (h.1 2) (h.1 6) (wZ * gZ)) (clL wZ.toNat gZ.toNat) 9 : Nat) (v53Z).toNat).2 := (by assumption); rw [show (v53Z).toNat = (wZ * gZ).toNat by (first | decide +kernel | omega)] at q9; exact q9) (by (try rw [v51E]); omega)⟩)⟩⟩
                ·
                  refine V_iload d_Rod_next_137 rfl ?_
                  refine V_goto 144 d_Rod_next_139 (by decide) ?_
                  exact V_iret rfl d_Rod_next_144 ⟨v52, rfl, ⟨hI46, f47, (Or.inl ⟨by (first | decide +kernel | omega), tsr_1 (A := v51Z) (B := v52Z) (by have q9 : v51Z = (nx (fun i => (h.1 6 i).toInt) dZ (wC (fB (h.1 2) (h.1 6) (wZ * gZ)) (clL wZ.toNat gZ.toNat) dZ) (cd (fB (h.1 2) (h.1 6) (wZ * gZ)) (clL wZ.toNat gZ.toNat) 9 : Nat) (v53Z).toNat).1 := (by assumption); rw [show (v53Z).toNat = (wZ * gZ).toNat by (first | decide +kernel | omega)] at q9; exact q9) (by have q9 : v52Z = (nx (fun i => (h.1 6 i).toInt) dZ (wC (fB (h.1 2) (h.1 6) (wZ * gZ)) (clL wZ.toNat gZ.toNat) dZ) (cd (fB (h.1 2) (h.1 6) (wZ * gZ)) (clL wZ.toNat gZ.toNat) 9 : Nat) (v53Z).toNat).2 := (by assumption); rw [show (v53Z).toNat = (wZ * gZ).toNat by (first | decide +kernel | omega)] at q9; exact q9) (by (try rw [v52E]); omega)⟩)⟩⟩
            ·
              refine V_aload_n 0 d_Rod_next_65 rfl rfl ?_
              refine V_getR fa_Rod_12 sk_85 rfl d_Rod_next_66 ?_
              refine V_getR fa_Rod_91 sk_0 rfl d_Rod_next_69 ?_
              refine V_getR fa_Rod_141 sk_1 rfl d_Rod_next_72 ?_
              refine V_iload d_Rod_next_75 rfl ?_
              refine N_iald sk_6 v53E (by (first | decide +kernel | omega)) d_Rod_next_77 (fun z64 z64Z z64E z64e => ?_)
              have hbo : z64Z = (h.1 6 (v53Z).toNat).toInt := by rw [← z64E, z64e, f47.1 6 _ rfl]
              refine V_iload_n 1 d_Rod_next_78 rfl rfl ?_
              refine V_icmp_ge 120 z64E dE d_Rod_next_79 (by decide) (fun c65 => ?_) (fun c65 => ?_)
              ·
                have hs9 := nx_n (b := fun i => (h.1 6 i).toInt) (d := dZ) (w := wC (fB (h.1 2) (h.1 6) (wZ * gZ)) (clL wZ.toNat gZ.toNat) dZ) (f0 := (cd (fB (h.1 2) (h.1 6) (wZ * gZ)) (clL wZ.toNat gZ.toNat) 9 : Nat)) (C := v53Z) (by (first | decide +kernel | omega)) (by assumption) (by assumption) (by show ¬ ((h.1 6 (v53Z).toNat).toInt < dZ ∧ _); omega)
                obtain ⟨z66, z66E, z66e⟩ : ∃ y : Int32, y.toInt = v53Z + 1 ∧ y = v53 + Int32.ofInt 1 := ⟨_, ti_add v53E (by decide) (by (first | decide +kernel | omega)), rfl⟩
                refine V_iinc 6 [some (.ref 85), some (.int d), some (.int a), some (.int z48), some (.int v51), some (.int v52), some (.int z66), none, none] d_Rod_next_120 rfl z66e.symm (by decide) rfl rfl ?_
                refine V_goto 50 d_Rod_next_123 (by decide) ?_
                exact ihL49 v51 v51Z v52 v52Z z66 ((v53Z + 1)) v51E v52E z66E (by (first | decide +kernel | omega)) hs9.1 hs9.2 (by (first | decide +kernel | omega))
              ·
                refine V_aload_n 0 d_Rod_next_82 rfl rfl ?_
                refine V_getR fa_Rod_56 sk_85 rfl d_Rod_next_83 ?_
                refine V_iload d_Rod_next_86 rfl ?_
                refine V_iload_n 1 d_Rod_next_88 rfl rfl ?_
                obtain ⟨z67, z67Z, z67E, z67e⟩ : ∃ (y : Int32) (Y : Int), y.toInt = Y ∧ y = h44.1 104 1 := ⟨_, _, rfl, rfl⟩
                have g68 : 0 ≤ z67Z ∧ z67Z ≤ 48 := inv_at hI46 z67E z67e rfl
                refine N_callVI [.int v53, .int d] [] cv_Rod_268 sk_104 rfl d_Rod_next_89 rfl (Nat.le_of_ble_eq_true rfl) (by decide) (by decide) (c_Beds_fittingWithWellX h44 (clL wZ.toNat gZ.toNat) (h.1 2) (h.1 6) (wZ * gZ) hI46 v53 v53Z v53E d dZ dE z67 z67Z z67E z67e.symm p45.1.1 hl48 (by (first | decide +kernel | omega)) (by (first | decide +kernel | omega)) p45.1.2.1 p45.1.2.2) (fun z69 h70 z69Z z69E p71 => ?_)
                obtain ⟨eh70, p71⟩ := p71
                subst eh70
                have hw9 : z69Z = (cd (fun x t => inB t (v53Z).toNat ∧ (fB (h.1 2) (h.1 6) (wZ * gZ)) x t) (clL wZ.toNat gZ.toNat) dZ.toNat : Nat) := z69E.symm.trans p71
                have hwb := cd_le (fun x t => inB t (v53Z).toNat ∧ (fB (h.1 2) (h.1 6) (wZ * gZ)) x t) (clL wZ.toNat gZ.toNat) dZ.toNat
                have hwb2 : dZ.toNat * (clL wZ.toNat gZ.toNat).length ≤ 9 * 48 := Nat.mul_le_mul (by (first | decide +kernel | omega)) hl48
                refine V_istore 7 [some (.ref 85), some (.int d), some (.int a), some (.int z48), some (.int v51), some (.int v52), some (.int v53), some (.int z69), none] d_Rod_next_92 (by decide) rfl rfl ?_
                refine V_iload d_Rod_next_94 rfl ?_
                refine V_iload_n 3 d_Rod_next_96 rfl rfl ?_
                refine V_iload d_Rod_next_97 rfl ?_
                refine V_isub z48E z69E (by (first | decide +kernel | omega)) d_Rod_next_99 (fun z72 z72e z72E => ?_)
                refine N_max z69E z72E wm_Rod_211 d_Rod_next_100 (Nat.le_of_ble_eq_true rfl) (by decide) wmax1 wM2 wmax3 (fun z73 z73Z z73E z73e z73g => ?_)
                have hx9 : z73Z = wC (fB (h.1 2) (h.1 6) (wZ * gZ)) (clL wZ.toNat gZ.toNat) dZ (v53Z).toNat := by unfold wC; rw [← hw9, ← hnow]; exact mx2_1 (by (first | decide +kernel | omega))
                refine V_istore 8 [some (.ref 85), some (.int d), some (.int a), some (.int z48), some (.int v51), some (.int v52), some (.int v53), some (.int z69), some (.int z73)] d_Rod_next_103 (by decide) rfl rfl ?_
                refine V_iload d_Rod_next_105 rfl ?_
                refine V_iload d_Rod_next_107 rfl ?_
                refine V_icmp_ge 120 z73E v51E d_Rod_next_109 (by decide) (fun c74 => ?_) (fun c74 => ?_)
                ·
                  have hs9 := nx_n (b := fun i => (h.1 6 i).toInt) (d := dZ) (w := wC (fB (h.1 2) (h.1 6) (wZ * gZ)) (clL wZ.toNat gZ.toNat) dZ) (f0 := (cd (fB (h.1 2) (h.1 6) (wZ * gZ)) (clL wZ.toNat gZ.toNat) 9 : Nat)) (C := v53Z) (by (first | decide +kernel | omega)) (by assumption) (by assumption) (by rw [← hx9]; omega)
                  obtain ⟨z75, z75E, z75e⟩ : ∃ y : Int32, y.toInt = v53Z + 1 ∧ y = v53 + Int32.ofInt 1 := ⟨_, ti_add v53E (by decide) (by (first | decide +kernel | omega)), rfl⟩
                  refine V_iinc 6 [some (.ref 85), some (.int d), some (.int a), some (.int z48), some (.int v51), some (.int v52), some (.int z75), some (.int z69), some (.int z73)] d_Rod_next_120 rfl z75e.symm (by decide) rfl rfl ?_
                  refine V_goto 50 d_Rod_next_123 (by decide) ?_
                  refine V_drop 7 [some (.ref 85), some (.int d), some (.int a), some (.int z48), some (.int v51), some (.int v52), some (.int z75), none, some (.int z73)] rfl ?_
                  refine V_drop 8 [some (.ref 85), some (.int d), some (.int a), some (.int z48), some (.int v51), some (.int v52), some (.int z75), none, none] rfl ?_
                  exact ihL49 v51 v51Z v52 v52Z z75 ((v53Z + 1)) v51E v52E z75E (by (first | decide +kernel | omega)) hs9.1 hs9.2 (by (first | decide +kernel | omega))
                ·
                  have hs9 := nx_y (b := fun i => (h.1 6 i).toInt) (d := dZ) (w := wC (fB (h.1 2) (h.1 6) (wZ * gZ)) (clL wZ.toNat gZ.toNat) dZ) (f0 := (cd (fB (h.1 2) (h.1 6) (wZ * gZ)) (clL wZ.toNat gZ.toNat) 9 : Nat)) (C := v53Z) (by (first | decide +kernel | omega)) (by show (h.1 6 (v53Z).toNat).toInt < dZ; omega) (by assumption) hx9 (by (first | decide +kernel | omega))
                  refine V_iload d_Rod_next_112 rfl ?_
                  refine V_istore 4 [some (.ref 85), some (.int d), some (.int a), some (.int z48), some (.int z73), some (.int v52), some (.int v53), some (.int z69), some (.int z73)] d_Rod_next_114 (by decide) rfl rfl ?_
                  refine V_iload d_Rod_next_116 rfl ?_
                  refine V_istore 5 [some (.ref 85), some (.int d), some (.int a), some (.int z48), some (.int z73), some (.int v53), some (.int v53), some (.int z69), some (.int z73)] d_Rod_next_118 (by decide) rfl rfl ?_
                  obtain ⟨z76, z76E, z76e⟩ : ∃ y : Int32, y.toInt = v53Z + 1 ∧ y = v53 + Int32.ofInt 1 := ⟨_, ti_add v53E (by decide) (by (first | decide +kernel | omega)), rfl⟩
                  refine V_iinc 6 [some (.ref 85), some (.int d), some (.int a), some (.int z48), some (.int z73), some (.int v53), some (.int z76), some (.int z69), some (.int z73)] d_Rod_next_120 rfl z76e.symm (by decide) rfl rfl ?_
                  refine V_goto 50 d_Rod_next_123 (by decide) ?_
                  refine V_drop 7 [some (.ref 85), some (.int d), some (.int a), some (.int z48), some (.int z73), some (.int v53), some (.int z76), none, some (.int z73)] rfl ?_
                  refine V_drop 8 [some (.ref 85), some (.int d), some (.int a), some (.int z48), some (.int z73), some (.int v53), some (.int z76), none, none] rfl ?_
                  exact ihL49 z73 z73Z v53 v53Z z76 ((v53Z + 1)) z73E v53E z76E (by (first | decide +kernel | omega)) hs9.1 hs9.2 (by (first | decide +kernel | omega))
        exact L49 (Int.toNat ((16 - 0 : Int) + 1)) z48 z48Z (-4) ((-4)) 0 0 z48E tc_m4 tc_0 (by (first | decide +kernel | omega)) hnow rfl (by (first | decide +kernel | omega))
      ·
        refine V_iconst (-1) d_Rod_next_16 (by decide) ?_
        exact V_iret rfl d_Rod_next_17 ⟨(-1), rfl, ⟨hI, f0, (Or.inr ⟨by (first | decide +kernel | omega), tc_m1⟩)⟩⟩
end
section
theorem ml_48 {w g : Int} (hw : 2 ≤ w ∧ w ≤ 4) (hg : 2 ≤ g ∧ g ≤ 4) : (clL w.toNat g.toNat).Perm (mlL w.toNat g.toNat (w * g).toNat) ∧ (mlL w.toNat g.toNat (w * g).toNat).length ≤ 48 := by
  have k := bd_perm w.toNat (by (first | decide +kernel | omega)) (by (first | decide +kernel | omega)) g.toNat (by (first | decide +kernel | omega)) (by (first | decide +kernel | omega))
  have hwg : ((w.toNat * g.toNat : Nat) : Int) = w * g := by rw [Int.natCast_mul, show ((w.toNat : Nat) : Int) = w by (first | decide +kernel | omega), show ((g.toNat : Nat) : Int) = g by (first | decide +kernel | omega)]
  have e : (w * g).toNat = w.toNat * g.toNat := by rw [← hwg]; rfl
  rw [e]
  have p := List.isPerm_iff.mp k.1
  refine ⟨p, ?_⟩
  rw [← p.length_eq]
  exact k.2.1
theorem by_1 {f : Int → Bd → Prop} {L : List Bd} {c : Nat} {d b : Int} (hb : b = 1) : cd (fun x t => f x t ∧ ((inB t c ∧ x ≤ d) ↔ b = 1)) L 9 = cd (fun x t => f x t ∧ (inB t c ∧ x ≤ d)) L 9 := cd_cg L 9 (fun x t _ _ => ⟨fun q => ⟨q.1, q.2.mpr hb⟩, fun q => ⟨q.1, fun _ => hb, fun _ => q.2⟩⟩)
theorem by_0 {f : Int → Bd → Prop} {L : List Bd} {c : Nat} {d b : Int} (hb : b = 0) : cd (fun x t => f x t ∧ ((inB t c ∧ x ≤ d) ↔ b = 1)) L 9 = cd (fun x t => f x t ∧ ¬ (inB t c ∧ x ≤ d)) L 9 := cd_cg L 9 (fun x t _ _ => ⟨fun q => ⟨q.1, fun w => by have := q.2.mp w; omega⟩, fun q => ⟨q.1, fun w => absurd w q.2, fun w => by (first | decide +kernel | omega)⟩⟩)
/-- what is found when all CELLS are looked at -/
theorem G_e {f : Int → Bd → Prop} {L : List Bd} {k : Nat} {W A : Int} (hk : L.length ≤ k) (h : A = (cd f (L.take k) 9 : Nat)) : A = (cd f L 9 : Nat) := by
  rw [List.take_of_length_le hk] at h
  exact h
theorem BDM_2 {f : Int → Bd → Prop} {L : List Bd} {W : Int} {a n y z r : Int32} (ha : BP a (fun j => (j : Int) < W)) (hn : BP n (anyG f (PrA L))) (hW : W ≤ 16) (e1 : y = n ^^^ -1) (e2 : r = a &&& y) : BP r (fun j => (j : Int) < W ∧ ¬ anyG f (PrA L) j) := by
  rw [e2, e1]
  exact BP_cg (BP_and ha (BP_not hn)) (fun j => ⟨fun q => ⟨q.1, q.2.2⟩, fun q => ⟨q.1, by (first | decide +kernel | omega), q.2⟩⟩)
end
