section
abbrev q_Mod_failsX (h : Hp) (P : Nat → Prop) (o : Int32) (oZ : Int) (m : Int32) (mZ : Int) (q : Int32) (qZ : Int) (t : Int32) (tZ : Int) : Option Value → Hp → Prop := pInt (fun r h' => h = h' ∧ (twR r (0 < LM h P oZ tZ.toNat - mZ)))
set_option maxRecDepth 100000 in
theorem c_Mod_failsX (h : Hp) (P : Nat → Prop) (hI : Inv h) (o : Int32) (oZ : Int) (oE : o.toInt = oZ) (m : Int32) (mZ : Int) (mE : m.toInt = mZ) (q : Int32) (qZ : Int) (qE : q.toInt = qZ) (qK : h.1 116 30 = q) (t : Int32) (tZ : Int) (tE : t.toInt = tZ) (tK : h.1 117 86 = t) (hy0 : 0 ≤ oZ ∧ oZ ≤ 3) (hy1 : 0 ≤ mZ ∧ mZ ≤ 999) (hy2 : ∀ x : Nat, x < 4 → (P x ↔ (h.1 126 x).toInt ≠ 0 ∧ (h.1 126 x).toInt ≤ qZ)) (hy3 : ∀ i : Nat, i < 8 → (i : Int) < (h.1 117 86).toInt → 0 ≤ (h.1 117 (89 + 3 * i)).toInt ∧ (h.1 117 (89 + 3 * i)).toInt ≤ 99) (hy4 : ∀ i : Nat, i < 4 → 0 ≤ (h.1 117 (80 + i)).toInt ∧ (h.1 117 (80 + i)).toInt ≤ 999) : Ct y_Mod_fails b_Mod_fails 7 (some .boolean) 0 0 [.ref 116, .int o, .int m] h (q_Mod_failsX h P o oZ m mZ q qZ t tZ) := by
  refine ct_ow R_Mod [some (.ref 116), some (.int o), some (.int m), none, none, none, none] rfl (by decide) rfl (Nat.le_of_ble_eq_true rfl) ?_
  have f0 : fr [] h h := fr_rf
  have tB : 0 ≤ tZ ∧ tZ ≤ 8 := inv_at hI tE tK.symm rfl
  obtain ⟨pv, pvZ, pvE, pvK⟩ : ∃ (y : Int32) (Y : Int), y.toInt = Y ∧ h.1 117 ((80 + oZ)).toNat = y := ⟨_, _, rfl, rfl⟩
  have hp9 := hy4 oZ.toNat (by (first | decide +kernel | omega))
  rw [show 80 + oZ.toNat = (80 + oZ).toNat by (first | decide +kernel | omega), pvK, pvE] at hp9
  refine V_aload_n 0 d_Mod_fails_0 rfl rfl ?_
  refine V_getR fa_Mod_7 sk_116 rfl d_Mod_fails_1 ?_
  refine V_bipush 80 d_Mod_fails_4 (by decide) ?_
  refine V_iload_n 1 d_Mod_fails_6 rfl rfl ?_
  refine V_iadd tc_80 oE (by (first | decide +kernel | omega)) d_Mod_fails_7 (fun z1 z1e z1E => ?_)
  refine N_ialdK sk_117 z1E (by (first | decide +kernel | omega)) d_Mod_fails_8 pvK ?_
  refine V_iload_n 2 d_Mod_fails_9 rfl rfl ?_
  refine V_iadd pvE mE (by (first | decide +kernel | omega)) d_Mod_fails_10 (fun z3 z3e z3E => ?_)
  refine V_istore_n 3 [some (.ref 116), some (.int o), some (.int m), some (.int z3), none, none, none] d_Mod_fails_11 rfl (by decide) rfl rfl ?_
  refine V_iconst 0 d_Mod_fails_12 (by decide) ?_
  refine V_istore 4 [some (.ref 116), some (.int o), some (.int m), some (.int z3), some (.int 0), none, none] d_Mod_fails_13 (by decide) rfl rfl ?_
  refine V_iconst 0 d_Mod_fails_15 (by decide) ?_
  refine V_istore 5 [some (.ref 116), some (.int o), some (.int m), some (.int z3), some (.int 0), some (.int 0), none] d_Mod_fails_16 (by decide) rfl rfl ?_
  have L4 : ∀ (nn : Nat) (v6 : Int32) (v6Z : Int) (v7 : Int32) (v7Z : Int) (v8 : Int32) (v8Z : Int), v6.toInt = v6Z → v7.toInt = v7Z → v8.toInt = v8Z → 0 ≤ v8Z ∧ v8Z ≤ tZ → v7Z - v6Z + mZ = LM h P oZ (v8Z).toNat → 0 ≤ v6Z ∧ v6Z ≤ 1998 + 99 * v8Z → 0 ≤ v7Z ∧ v7Z ≤ 99 * v8Z → 8 - v8Z < (nn : Int) → V R_Mod b_Mod_fails 7 (some .boolean) 0 0 (q_Mod_failsX h P o oZ m mZ q qZ t tZ) h 18 [some (.ref 116), some (.int o), some (.int m), some (.int v6), some (.int v7), some (.int v8), none] [] := by
    intro nn
    induction nn with
    | zero => intro v6 v6Z v7 v7Z v8 v8Z v6E v7E v8E q9 q10 q11 q12 hm13; exact absurd hm13 (by (first | decide +kernel | omega))
    | succ nn ihL4 =>
      intro v6 v6Z v7 v7Z v8 v8Z v6E v7E v8E q9 q10 q11 q12 hm13
      refine V_iload d_Mod_fails_18 rfl ?_
      refine V_aload_n 0 d_Mod_fails_20 rfl rfl ?_
      refine V_getR fa_Mod_7 sk_116 rfl d_Mod_fails_21 ?_
      refine V_bipush 86 d_Mod_fails_24 (by decide) ?_
      refine N_ialdK sk_117 tc_86 (by (first | decide +kernel | omega)) d_Mod_fails_26 tK ?_
      refine V_icmp_ge 137 v8E tE d_Mod_fails_27 (by decide) (fun c15 => ?_) (fun c15 => ?_)
      ·
        refine V_iload_n 3 d_Mod_fails_137 rfl rfl ?_
        refine V_iload d_Mod_fails_138 rfl ?_
        refine V_icmp_ge 147 v6E v7E d_Mod_fails_140 (by decide) (fun c16 => ?_) (fun c16 => ?_)
        ·
          refine V_iconst 0 d_Mod_fails_147 (by decide) ?_
          exact V_zret rfl (by decide) d_Mod_fails_148 ⟨0, rfl, ⟨rfl, (by rw [show tZ.toNat = (v8Z).toNat by (first | decide +kernel | omega)]; have q9 : v7Z - v6Z + mZ = LM h P oZ (v8Z).toNat := (by assumption); exact Or.inr ⟨tc_0, by (first | decide +kernel | omega)⟩)⟩⟩
        ·
          refine V_iconst 1 d_Mod_fails_143 (by decide) ?_
          refine V_goto 148 d_Mod_fails_144 (by decide) ?_
          exact V_zret rfl (by decide) d_Mod_fails_148 ⟨1, rfl, ⟨rfl, (by rw [show tZ.toNat = (v8Z).toNat by (first | decide +kernel | omega)]; have q9 : v7Z - v6Z + mZ = LM h P oZ (v8Z).toNat := (by assumption); exact Or.inl ⟨tc_1, by (first | decide +kernel | omega)⟩)⟩⟩
      ·
        have hd9 := hy3 (v8Z).toNat (by (first | decide +kernel | omega)) (by rw [tK, tE]; omega)
        have hL9 : v7Z - v6Z + mZ = LM h P oZ (v8Z).toNat := by assumption
        refine V_bipush 87 d_Mod_fails_30 (by decide) ?_
        refine V_iconst 3 d_Mod_fails_32 (by decide) ?_
        refine V_iload d_Mod_fails_33 rfl ?_
        refine V_imul tc_3 v8E (by (first | decide +kernel | omega)) d_Mod_fails_35 (fun z17 z17e z17E => ?_)
        refine V_iadd tc_87 z17E (by (first | decide +kernel | omega)) d_Mod_fails_36 (fun z18 z18e z18E => ?_)
        refine V_istore 6 [some (.ref 116), some (.int o), some (.int m), some (.int v6), some (.int v7), some (.int v8), some (.int z18)] d_Mod_fails_37 (by decide) rfl rfl ?_
        refine V_iload_n 3 d_Mod_fails_39 rfl rfl ?_
        refine V_aload_n 0 d_Mod_fails_40 rfl rfl ?_
        refine V_getR fa_Mod_7 sk_116 rfl d_Mod_fails_41 ?_
        refine V_iload d_Mod_fails_44 rfl ?_
        refine V_iconst 1 d_Mod_fails_46 (by decide) ?_
        refine V_iadd z18E tc_1 (by (first | decide +kernel | omega)) d_Mod_fails_47 (fun z19 z19e z19E => ?_)
        refine N_iald sk_117 z19E (by (first | decide +kernel | omega)) d_Mod_fails_48 (fun z20 z20Z z20E z20e => ?_)
        have b21 : z20Z = (h.1 117 (88 + 3 * (v8Z).toNat)).toInt := by rw [← z20E, z20e, show (87 + 3 * v8Z + 1).toNat = 88 + 3 * (v8Z).toNat by (first | decide +kernel | omega)]
        refine V_iload_n 1 d_Mod_fails_49 rfl rfl ?_
        refine V_icmp_ne 99 z20E oE d_Mod_fails_50 (by decide) (fun c22 => ?_) (fun c22 => ?_)
        ·
          refine V_iconst 0 d_Mod_fails_99 (by decide) ?_
          refine V_iadd v6E tc_0 (by (first | decide +kernel | omega)) d_Mod_fails_100 (fun z23 z23e z23E => ?_)
          refine V_istore_n 3 [some (.ref 116), some (.int o), some (.int m), some (.int z23), some (.int v7), some (.int v8), some (.int z18)] d_Mod_fails_101 rfl (by decide) rfl rfl ?_
          refine V_iload d_Mod_fails_102 rfl ?_
          refine V_aload_n 0 d_Mod_fails_104 rfl rfl ?_
          refine V_getR fa_Mod_7 sk_116 rfl d_Mod_fails_105 ?_
          refine V_iload d_Mod_fails_108 rfl ?_
          refine N_iald sk_117 z18E (by (first | decide +kernel | omega)) d_Mod_fails_110 (fun z24 z24Z z24E z24e => ?_)
          have c25 : z24Z = (h.1 117 (87 + 3 * (v8Z).toNat)).toInt := by rw [← z24E, z24e, show (87 + 3 * v8Z).toNat = 87 + 3 * (v8Z).toNat by (first | decide +kernel | omega)]
          refine V_iload_n 1 d_Mod_fails_111 rfl rfl ?_
          refine V_icmp_ne 127 z24E oE d_Mod_fails_112 (by decide) (fun c26 => ?_) (fun c26 => ?_)
          ·
            refine V_iconst 0 d_Mod_fails_127 (by decide) ?_
            refine V_iadd v7E tc_0 (by (first | decide +kernel | omega)) d_Mod_fails_128 (fun z27 z27e z27E => ?_)
            refine V_istore 4 [some (.ref 116), some (.int o), some (.int m), some (.int z23), some (.int z27), some (.int v8), some (.int z18)] d_Mod_fails_129 (by decide) rfl rfl ?_
            have hl9 : (v7Z + 0) - (v6Z + 0) + mZ = LM h P oZ (v8Z + 1).toNat := lk9_s (A := (h.1 117 (87 + 3 * (v8Z).toNat)).toInt) (B := (h.1 117 (88 + 3 * (v8Z).toNat)).toInt) (V := (h.1 117 (89 + 3 * (v8Z).toNat)).toInt) (L := v7Z - v6Z + mZ) (X := (v7Z + 0) - v6Z + mZ) (by (first | decide +kernel | omega)) rfl rfl rfl hL9 (Or.inr ⟨by (first | decide +kernel | omega), by (first | decide +kernel | omega)⟩) (Or.inr ⟨fun q => absurd q.1 (by (first | decide +kernel | omega)), by (first | decide +kernel | omega)⟩)
            obtain ⟨z28, z28E, z28e⟩ : ∃ y : Int32, y.toInt = v8Z + 1 ∧ y = v8 + Int32.ofInt 1 := ⟨_, ti_add v8E (by decide) (by (first | decide +kernel | omega)), rfl⟩
            refine V_iinc 5 [some (.ref 116), some (.int o), some (.int m), some (.int z23), some (.int z27), some (.int z28), some (.int z18)] d_Mod_fails_131 rfl z28e.symm (by decide) rfl rfl ?_
            refine V_goto 18 d_Mod_fails_134 (by decide) ?_
            refine V_drop 6 [some (.ref 116), some (.int o), some (.int m), some (.int z23), some (.int z27), some (.int z28), none] rfl ?_
            exact ihL4 z23 ((v6Z + 0)) z27 ((v7Z + 0)) z28 ((v8Z + 1)) z23E z27E z28E (by (first | decide +kernel | omega)) hl9 (by (first | decide +kernel | omega)) (by (first | decide +kernel | omega)) (by (first | decide +kernel | omega))
          ·
            refine V_aload_n 0 d_Mod_fails_115 rfl rfl ?_
            refine V_getR fa_Mod_7 sk_116 rfl d_Mod_fails_116 ?_
            refine V_iload d_Mod_fails_119 rfl ?_
            refine V_iconst 2 d_Mod_fails_121 (by decide) ?_
            refine V_iadd z18E tc_2 (by (first | decide +kernel | omega)) d_Mod_fails_122 (fun z29 z29e z29E => ?_)
            refine N_iald sk_117 z29E (by (first | decide +kernel | omega)) d_Mod_fails_123 (fun z30 z30Z z30E z30e => ?_)
            have w31 : z30Z = (h.1 117 (89 + 3 * (v8Z).toNat)).toInt := by rw [← z30E, z30e, show (87 + 3 * v8Z + 2).toNat = 89 + 3 * (v8Z).toNat by (first | decide +kernel | omega)]
            refine V_goto 128 d_Mod_fails_124 (by decide) ?_
            refine V_iadd v7E z30E (by (first | decide +kernel | omega)) d_Mod_fails_128 (fun z32 z32e z32E => ?_)
            refine V_istore 4 [some (.ref 116), some (.int o), some (.int m), some (.int z23), some (.int z32), some (.int v8), some (.int z18)] d_Mod_fails_129 (by decide) rfl rfl ?_
            have hl9 : (v7Z + z30Z) - (v6Z + 0) + mZ = LM h P oZ (v8Z + 1).toNat := lk9_s (A := (h.1 117 (87 + 3 * (v8Z).toNat)).toInt) (B := (h.1 117 (88 + 3 * (v8Z).toNat)).toInt) (V := (h.1 117 (89 + 3 * (v8Z).toNat)).toInt) (L := v7Z - v6Z + mZ) (X := (v7Z + z30Z) - v6Z + mZ) (by (first | decide +kernel | omega)) rfl rfl rfl hL9 (Or.inl ⟨by (first | decide +kernel | omega), by (first | decide +kernel | omega)⟩) (Or.inr ⟨fun q => absurd q.1 (by (first | decide +kernel | omega)), by (first | decide +kernel | omega)⟩)
            obtain ⟨z33, z33E, z33e⟩ : ∃ y : Int32, y.toInt = v8Z + 1 ∧ y = v8 + Int32.ofInt 1 := ⟨_, ti_add v8E (by decide) (by (first | decide +kernel | omega)), rfl⟩
            refine V_iinc 5 [some (.ref 116), some (.int o), some (.int m), some (.int z23), some (.int z32), some (.int z33), some (.int z18)] d_Mod_fails_131 rfl z33e.symm (by decide) rfl rfl ?_
            refine V_goto 18 d_Mod_fails_134 (by decide) ?_
            refine V_drop 6 [some (.ref 116), some (.int o), some (.int m), some (.int z23), some (.int z32), some (.int z33), none] rfl ?_
            exact ihL4 z23 ((v6Z + 0)) z32 ((v7Z + z30Z)) z33 ((v8Z + 1)) z23E z32E z33E (by (first | decide +kernel | omega)) hl9 (by (first | decide +kernel | omega)) (by (first | decide +kernel | omega)) (by (first | decide +kernel | omega))
        ·
          refine V_aload_n 0 d_Mod_fails_53 rfl rfl ?_
          refine V_getR fa_Mod_38 sk_116 rfl d_Mod_fails_54 ?_
          refine V_aload_n 0 d_Mod_fails_57 rfl rfl ?_
          refine V_getR fa_Mod_7 sk_116 rfl d_Mod_fails_58 ?_
          refine V_iload d_Mod_fails_61 rfl ?_
          refine N_iald sk_117 z18E (by (first | decide +kernel | omega)) d_Mod_fails_63 (fun z34 z34Z z34E z34e => ?_)
          have g35 : 0 ≤ z34Z ∧ z34Z ≤ 3 := inv_at hI z34E z34e (st_a (by (first | decide +kernel | omega)))
          have a36 : z34Z = (h.1 117 (87 + 3 * (v8Z).toNat)).toInt := by rw [← z34E, z34e, show (87 + 3 * v8Z).toNat = 87 + 3 * (v8Z).toNat by (first | decide +kernel | omega)]
          refine N_iald sk_126 z34E (by (first | decide +kernel | omega)) d_Mod_fails_64 (fun z37 z37Z z37E z37e => ?_)
          have hf9 := hy2 (z34Z).toNat (by (first | decide +kernel | omega))
          rw [← z37e, z37E, a36] at hf9
          refine V_if_eq 87 z37E d_Mod_fails_65 (by decide) (fun c38 => ?_) (fun c38 => ?_)
          ·
            refine V_aload_n 0 d_Mod_fails_87 rfl rfl ?_
            refine V_getR fa_Mod_7 sk_116 rfl d_Mod_fails_88 ?_
            refine V_iload d_Mod_fails_91 rfl ?_
            refine V_iconst 2 d_Mod_fails_93 (by decide) ?_
            refine V_iadd z18E tc_2 (by (first | decide +kernel | omega)) d_Mod_fails_94 (fun z39 z39e z39E => ?_)
            refine N_iald sk_117 z39E (by (first | decide +kernel | omega)) d_Mod_fails_95 (fun z40 z40Z z40E z40e => ?_)
            have v41 : z40Z = (h.1 117 (89 + 3 * (v8Z).toNat)).toInt := by rw [← z40E, z40e, show (87 + 3 * v8Z + 2).toNat = 89 + 3 * (v8Z).toNat by (first | decide +kernel | omega)]
            refine V_goto 100 d_Mod_fails_96 (by decide) ?_
            refine V_iadd v6E z40E (by (first | decide +kernel | omega)) d_Mod_fails_100 (fun z42 z42e z42E => ?_)
            refine V_istore_n 3 [some (.ref 116), some (.int o), some (.int m), some (.int z42), some (.int v7), some (.int v8), some (.int z18)] d_Mod_fails_101 rfl (by decide) rfl rfl ?_
            refine V_iload d_Mod_fails_102 rfl ?_
            refine V_aload_n 0 d_Mod_fails_104 rfl rfl ?_
            refine V_getR fa_Mod_7 sk_116 rfl d_Mod_fails_105 ?_
            refine V_iload d_Mod_fails_108 rfl ?_
            refine N_iald sk_117 z18E (by (first | decide +kernel | omega)) d_Mod_fails_110 (fun z43 z43Z z43E z43e => ?_)
            have c44 : z43Z = (h.1 117 (87 + 3 * (v8Z).toNat)).toInt := by rw [← z43E, z43e, show (87 + 3 * v8Z).toNat = 87 + 3 * (v8Z).toNat by (first | decide +kernel | omega)]
            refine V_iload_n 1 d_Mod_fails_111 rfl rfl ?_
            refine V_icmp_ne 127 z43E oE d_Mod_fails_112 (by decide) (fun c45 => ?_) (fun c45 => ?_)
            ·
              refine V_iconst 0 d_Mod_fails_127 (by decide) ?_
              refine V_iadd v7E tc_0 (by (first | decide +kernel | omega)) d_Mod_fails_128 (fun z46 z46e z46E => ?_)
              refine V_istore 4 [some (.ref 116), some (.int o), some (.int m), some (.int z42), some (.int z46), some (.int v8), some (.int z18)] d_Mod_fails_129 (by decide) rfl rfl ?_
              have hl9 : (v7Z + 0) - (v6Z + z40Z) + mZ = LM h P oZ (v8Z + 1).toNat := lk9_s (A := (h.1 117 (87 + 3 * (v8Z).toNat)).toInt) (B := (h.1 117 (88 + 3 * (v8Z).toNat)).toInt) (V := (h.1 117 (89 + 3 * (v8Z).toNat)).toInt) (L := v7Z - v6Z + mZ) (X := (v7Z + 0) - v6Z + mZ) (by (first | decide +kernel | omega)) rfl rfl rfl hL9 (Or.inr ⟨by (first | decide +kernel | omega), by (first | decide +kernel | omega)⟩) (Or.inl ⟨⟨by (first | decide +kernel | omega), fun q => by have := hf9.mp q; omega⟩, by (first | decide +kernel | omega)⟩)
              obtain ⟨z47, z47E, z47e⟩ : ∃ y : Int32, y.toInt = v8Z + 1 ∧ y = v8 + Int32.ofInt 1 := ⟨_, ti_add v8E (by decide) (by (first | decide +kernel | omega)), rfl⟩
              refine V_iinc 5 [some (.ref 116), some (.int o), some (.int m), some (.int z42), some (.int z46), some (.int z47), some (.int z18)] d_Mod_fails_131 rfl z47e.symm (by decide) rfl rfl ?_
              refine V_goto 18 d_Mod_fails_134 (by decide) ?_
              refine V_drop 6 [some (.ref 116), some (.int o), some (.int m), some (.int z42), some (.int z46), some (.int z47), none] rfl ?_
              exact ihL4 z42 ((v6Z + z40Z)) z46 ((v7Z + 0)) z47 ((v8Z + 1)) z42E z46E z47E (by (first | decide +kernel | omega)) hl9 (by (first | decide +kernel | omega)) (by (first | decide +kernel | omega)) (by (first | decide +kernel | omega))
            ·
              refine V_aload_n 0 d_Mod_fails_115 rfl rfl ?_
              refine V_getR fa_Mod_7 sk_116 rfl d_Mod_fails_116 ?_
              refine V_iload d_Mod_fails_119 rfl ?_
              refine V_iconst 2 d_Mod_fails_121 (by decide) ?_
              refine V_iadd z18E tc_2 (by (first | decide +kernel | omega)) d_Mod_fails_122 (fun z48 z48e z48E => ?_)
              refine N_iald sk_117 z48E (by (first | decide +kernel | omega)) d_Mod_fails_123 (fun z49 z49Z z49E z49e => ?_)
              have w50 : z49Z = (h.1 117 (89 + 3 * (v8Z).toNat)).toInt := by rw [← z49E, z49e, show (87 + 3 * v8Z + 2).toNat = 89 + 3 * (v8Z).toNat by (first | decide +kernel | omega)]
              refine V_goto 128 d_Mod_fails_124 (by decide) ?_
              refine V_iadd v7E z49E (by (first | decide +kernel | omega)) d_Mod_fails_128 (fun z51 z51e z51E => ?_)
              refine V_istore 4 [some (.ref 116), some (.int o), some (.int m), some (.int z42), some (.int z51), some (.int v8), some (.int z18)] d_Mod_fails_129 (by decide) rfl rfl ?_
              have hl9 : (v7Z + z49Z) - (v6Z + z40Z) + mZ = LM h P oZ (v8Z + 1).toNat := lk9_s (A := (h.1 117 (87 + 3 * (v8Z).toNat)).toInt) (B := (h.1 117 (88 + 3 * (v8Z).toNat)).toInt) (V := (h.1 117 (89 + 3 * (v8Z).toNat)).toInt) (L := v7Z - v6Z + mZ) (X := (v7Z + z49Z) - v6Z + mZ) (by (first | decide +kernel | omega)) rfl rfl rfl hL9 (Or.inl ⟨by (first | decide +kernel | omega), by (first | decide +kernel | omega)⟩) (Or.inl ⟨⟨by (first | decide +kernel | omega), fun q => by have := hf9.mp q; omega⟩, by (first | decide +kernel | omega)⟩)
              obtain ⟨z52, z52E, z52e⟩ : ∃ y : Int32, y.toInt = v8Z + 1 ∧ y = v8 + Int32.ofInt 1 := ⟨_, ti_add v8E (by decide) (by (first | decide +kernel | omega)), rfl⟩
              refine V_iinc 5 [some (.ref 116), some (.int o), some (.int m), some (.int z42), some (.int z51), some (.int z52), some (.int z18)] d_Mod_fails_131 rfl z52e.symm (by decide) rfl rfl ?_
              refine V_goto 18 d_Mod_fails_134 (by decide) ?_
              refine V_drop 6 [some (.ref 116), some (.int o), some (.int m), some (.int z42), some (.int z51), some (.int z52), none] rfl ?_
              exact ihL4 z42 ((v6Z + z40Z)) z51 ((v7Z + z49Z)) z52 ((v8Z + 1)) z42E z51E z52E (by (first | decide +kernel | omega)) hl9 (by (first | decide +kernel | omega)) (by (first | decide +kernel | omega)) (by (first | decide +kernel | omega))
          ·
            refine V_aload_n 0 d_Mod_fails_68 rfl rfl ?_
            refine V_getR fa_Mod_38 sk_116 rfl d_Mod_fails_69 ?_
            refine V_aload_n 0 d_Mod_fails_72 rfl rfl ?_
            refine V_getR fa_Mod_7 sk_116 rfl d_Mod_fails_73 ?_
            refine V_iload d_Mod_fails_76 rfl ?_
            refine N_iald sk_117 z18E (by (first | decide +kernel | omega)) d_Mod_fails_78 (fun z53 z53Z z53E z53e => ?_)
            have g54 : 0 ≤ z53Z ∧ z53Z ≤ 3 := inv_at hI z53E z53e (st_a (by (first | decide +kernel | omega)))
            have a55 : z53Z = (h.1 117 (87 + 3 * (v8Z).toNat)).toInt := by rw [← z53E, z53e, show (87 + 3 * v8Z).toNat = 87 + 3 * (v8Z).toNat by (first | decide +kernel | omega)]
            refine N_iald sk_126 z53E (by (first | decide +kernel | omega)) d_Mod_fails_79 (fun z56 z56Z z56E z56e => ?_)
            have g57 : z56Z = z37Z := by rw [← z56E, ← z37E, z56e, z37e, show z53Z = z34Z from by rw [a55, a36]]
            refine V_aload_n 0 d_Mod_fails_80 rfl rfl ?_
            refine N_getK fa_Mod_305 sk_116 rfl d_Mod_fails_81 qK ?_
            refine V_icmp_le 99 z56E qE d_Mod_fails_84 (by decide) (fun c58 => ?_) (fun c58 => ?_)
            ·
              refine V_iconst 0 d_Mod_fails_99 (by decide) ?_
              refine V_iadd v6E tc_0 (by (first | decide +kernel | omega)) d_Mod_fails_100 (fun z59 z59e z59E => ?_)
              refine V_istore_n 3 [some (.ref 116), some (.int o), some (.int m), some (.int z59), some (.int v7), some (.int v8), some (.int z18)] d_Mod_fails_101 rfl (by decide) rfl rfl ?_
              refine V_iload d_Mod_fails_102 rfl ?_
              refine V_aload_n 0 d_Mod_fails_104 rfl rfl ?_
              refine V_getR fa_Mod_7 sk_116 rfl d_Mod_fails_105 ?_
              refine V_iload d_Mod_fails_108 rfl ?_
              refine N_iald sk_117 z18E (by (first | decide +kernel | omega)) d_Mod_fails_110 (fun z60 z60Z z60E z60e => ?_)
              have c61 : z60Z = (h.1 117 (87 + 3 * (v8Z).toNat)).toInt := by rw [← z60E, z60e, show (87 + 3 * v8Z).toNat = 87 + 3 * (v8Z).toNat by (first | decide +kernel | omega)]
              refine V_iload_n 1 d_Mod_fails_111 rfl rfl ?_
              refine V_icmp_ne 127 z60E oE d_Mod_fails_112 (by decide) (fun c62 => ?_) (fun c62 => ?_)
              ·
                refine V_iconst 0 d_Mod_fails_127 (by decide) ?_
                refine V_iadd v7E tc_0 (by (first | decide +kernel | omega)) d_Mod_fails_128 (fun z63 z63e z63E => ?_)
                refine V_istore 4 [some (.ref 116), some (.int o), some (.int m), some (.int z59), some (.int z63), some (.int v8), some (.int z18)] d_Mod_fails_129 (by decide) rfl rfl ?_
                have hl9 : (v7Z + 0) - (v6Z + 0) + mZ = LM h P oZ (v8Z + 1).toNat := lk9_s (A := (h.1 117 (87 + 3 * (v8Z).toNat)).toInt) (B := (h.1 117 (88 + 3 * (v8Z).toNat)).toInt) (V := (h.1 117 (89 + 3 * (v8Z).toNat)).toInt) (L := v7Z - v6Z + mZ) (X := (v7Z + 0) - v6Z + mZ) (by (first | decide +kernel | omega)) rfl rfl rfl hL9 (Or.inr ⟨by (first | decide +kernel | omega), by (first | decide +kernel | omega)⟩) (Or.inr ⟨fun q => q.2 (hf9.mpr ⟨by (first | decide +kernel | omega), by (first | decide +kernel | omega)⟩), by (first | decide +kernel | omega)⟩)
                obtain ⟨z64, z64E, z64e⟩ : ∃ y : Int32, y.toInt = v8Z + 1 ∧ y = v8 + Int32.ofInt 1 := ⟨_, ti_add v8E (by decide) (by (first | decide +kernel | omega)), rfl⟩
                refine V_iinc 5 [some (.ref 116), some (.int o), some (.int m), some (.int z59), some (.int z63), some (.int z64), some (.int z18)] d_Mod_fails_131 rfl z64e.symm (by decide) rfl rfl ?_
                refine V_goto 18 d_Mod_fails_134 (by decide) ?_
                refine V_drop 6 [some (.ref 116), some (.int o), some (.int m), some (.int z59), some (.int z63), some (.int z64), none] rfl ?_
                exact ihL4 z59 ((v6Z + 0)) z63 ((v7Z + 0)) z64 ((v8Z + 1)) z59E z63E z64E (by (first | decide +kernel | omega)) hl9 (by (first | decide +kernel | omega)) (by (first | decide +kernel | omega)) (by (first | decide +kernel | omega))
              ·
                refine V_aload_n 0 d_Mod_fails_115 rfl rfl ?_
                refine V_getR fa_Mod_7 sk_116 rfl d_Mod_fails_116 ?_
                refine V_iload d_Mod_fails_119 rfl ?_
                refine V_iconst 2 d_Mod_fails_121 (by decide) ?_
                refine V_iadd z18E tc_2 (by (first | decide +kernel | omega)) d_Mod_fails_122 (fun z65 z65e z65E => ?_)
                refine N_iald sk_117 z65E (by (first | decide +kernel | omega)) d_Mod_fails_123 (fun z66 z66Z z66E z66e => ?_)
                have w67 : z66Z = (h.1 117 (89 + 3 * (v8Z).toNat)).toInt := by rw [← z66E, z66e, show (87 + 3 * v8Z + 2).toNat = 89 + 3 * (v8Z).toNat by (first | decide +kernel | omega)]
                refine V_goto 128 d_Mod_fails_124 (by decide) ?_
                refine V_iadd v7E z66E (by (first | decide +kernel | omega)) d_Mod_fails_128 (fun z68 z68e z68E => ?_)
                refine V_istore 4 [some (.ref 116), some (.int o), some (.int m), some (.int z59), some (.int z68), some (.int v8), some (.int z18)] d_Mod_fails_129 (by decide) rfl rfl ?_
                have hl9 : (v7Z + z66Z) - (v6Z + 0) + mZ = LM h P oZ (v8Z + 1).toNat := lk9_s (A := (h.1 117 (87 + 3 * (v8Z).toNat)).toInt) (B := (h.1 117 (88 + 3 * (v8Z).toNat)).toInt) (V := (h.1 117 (89 + 3 * (v8Z).toNat)).toInt) (L := v7Z - v6Z + mZ) (X := (v7Z + z66Z) - v6Z + mZ) (by (first | decide +kernel | omega)) rfl rfl rfl hL9 (Or.inl ⟨by (first | decide +kernel | omega), by (first | decide +kernel | omega)⟩) (Or.inr ⟨fun q => q.2 (hf9.mpr ⟨by (first | decide +kernel | omega), by (first | decide +kernel | omega)⟩), by (first | decide +kernel | omega)⟩)
                obtain ⟨z69, z69E, z69e⟩ : ∃ y : Int32, y.toInt = v8Z + 1 ∧ y = v8 + Int32.ofInt 1 := ⟨_, ti_add v8E (by decide) (by (first | decide +kernel | omega)), rfl⟩
                refine V_iinc 5 [some (.ref 116), some (.int o), some (.int m), some (.int z59), some (.int z68), some (.int z69), some (.int z18)] d_Mod_fails_131 rfl z69e.symm (by decide) rfl rfl ?_
                refine V_goto 18 d_Mod_fails_134 (by decide) ?_
                refine V_drop 6 [some (.ref 116), some (.int o), some (.int m), some (.int z59), some (.int z68), some (.int z69), none] rfl ?_
                exact ihL4 z59 ((v6Z + 0)) z68 ((v7Z + z66Z)) z69 ((v8Z + 1)) z59E z68E z69E (by (first | decide +kernel | omega)) hl9 (by (first | decide +kernel | omega)) (by (first | decide +kernel | omega)) (by (first | decide +kernel | omega))
            ·
              refine V_aload_n 0 d_Mod_fails_87 rfl rfl ?_
              refine V_getR fa_Mod_7 sk_116 rfl d_Mod_fails_88 ?_
              refine V_iload d_Mod_fails_91 rfl ?_
              refine V_iconst 2 d_Mod_fails_93 (by decide) ?_
              refine V_iadd z18E tc_2 (by (first | decide +kernel | omega)) d_Mod_fails_94 (fun z70 z70e z70E => ?_)
              refine N_iald sk_117 z70E (by (first | decide +kernel | omega)) d_Mod_fails_95 (fun z71 z71Z z71E z71e => ?_)
              have v72 : z71Z = (h.1 117 (89 + 3 * (v8Z).toNat)).toInt := by rw [← z71E, z71e, show (87 + 3 * v8Z + 2).toNat = 89 + 3 * (v8Z).toNat by (first | decide +kernel | omega)]
              refine V_goto 100 d_Mod_fails_96 (by decide) ?_
              refine V_iadd v6E z71E (by (first | decide +kernel | omega)) d_Mod_fails_100 (fun z73 z73e z73E => ?_)
              refine V_istore_n 3 [some (.ref 116), some (.int o), some (.int m), some (.int z73), some (.int v7), some (.int v8), some (.int z18)] d_Mod_fails_101 rfl (by decide) rfl rfl ?_
              refine V_iload d_Mod_fails_102 rfl ?_
              refine V_aload_n 0 d_Mod_fails_104 rfl rfl ?_
              refine V_getR fa_Mod_7 sk_116 rfl d_Mod_fails_105 ?_
              refine V_iload d_Mod_fails_108 rfl ?_
              refine N_iald sk_117 z18E (by (first | decide +kernel | omega)) d_Mod_fails_110 (fun z74 z74Z z74E z74e => ?_)
              have c75 : z74Z = (h.1 117 (87 + 3 * (v8Z).toNat)).toInt := by rw [← z74E, z74e, show (87 + 3 * v8Z).toNat = 87 + 3 * (v8Z).toNat by (first | decide +kernel | omega)]
              refine V_iload_n 1 d_Mod_fails_111 rfl rfl ?_
              refine V_icmp_ne 127 z74E oE d_Mod_fails_112 (by decide) (fun c76 => ?_) (fun c76 => ?_)
              ·
                refine V_iconst 0 d_Mod_fails_127 (by decide) ?_
                refine V_iadd v7E tc_0 (by (first | decide +kernel | omega)) d_Mod_fails_128 (fun z77 z77e z77E => ?_)
                refine V_istore 4 [some (.ref 116), some (.int o), some (.int m), some (.int z73), some (.int z77), some (.int v8), some (.int z18)] d_Mod_fails_129 (by decide) rfl rfl ?_
                have hl9 : (v7Z + 0) - (v6Z + z71Z) + mZ = LM h P oZ (v8Z + 1).toNat := lk9_s (A := (h.1 117 (87 + 3 * (v8Z).toNat)).toInt) (B := (h.1 117 (88 + 3 * (v8Z).toNat)).toInt) (V := (h.1 117 (89 + 3 * (v8Z).toNat)).toInt) (L := v7Z - v6Z + mZ) (X := (v7Z + 0) - v6Z + mZ) (by (first | decide +kernel | omega)) rfl rfl rfl hL9 (Or.inr ⟨by (first | decide +kernel | omega), by (first | decide +kernel | omega)⟩) (Or.inl ⟨⟨by (first | decide +kernel | omega), fun q => by have := hf9.mp q; omega⟩, by (first | decide +kernel | omega)⟩)
                obtain ⟨z78, z78E, z78e⟩ : ∃ y : Int32, y.toInt = v8Z + 1 ∧ y = v8 + Int32.ofInt 1 := ⟨_, ti_add v8E (by decide) (by (first | decide +kernel | omega)), rfl⟩
                refine V_iinc 5 [some (.ref 116), some (.int o), some (.int m), some (.int z73), some (.int z77), some (.int z78), some (.int z18)] d_Mod_fails_131 rfl z78e.symm (by decide) rfl rfl ?_
                refine V_goto 18 d_Mod_fails_134 (by decide) ?_
                refine V_drop 6 [some (.ref 116), some (.int o), some (.int m), some (.int z73), some (.int z77), some (.int z78), none] rfl ?_
                exact ihL4 z73 ((v6Z + z71Z)) z77 ((v7Z + 0)) z78 ((v8Z + 1)) z73E z77E z78E (by (first | decide +kernel | omega)) hl9 (by (first | decide +kernel | omega)) (by (first | decide +kernel | omega)) (by (first | decide +kernel | omega))
              ·
                refine V_aload_n 0 d_Mod_fails_115 rfl rfl ?_
                refine V_getR fa_Mod_7 sk_116 rfl d_Mod_fails_116 ?_
                refine V_iload d_Mod_fails_119 rfl ?_
                refine V_iconst 2 d_Mod_fails_121 (by decide) ?_
                refine V_iadd z18E tc_2 (by (first | decide +kernel | omega)) d_Mod_fails_122 (fun z79 z79e z79E => ?_)
                refine N_iald sk_117 z79E (by (first | decide +kernel | omega)) d_Mod_fails_123 (fun z80 z80Z z80E z80e => ?_)
                have w81 : z80Z = (h.1 117 (89 + 3 * (v8Z).toNat)).toInt := by rw [← z80E, z80e, show (87 + 3 * v8Z + 2).toNat = 89 + 3 * (v8Z).toNat by (first | decide +kernel | omega)]
                refine V_goto 128 d_Mod_fails_124 (by decide) ?_
                refine V_iadd v7E z80E (by (first | decide +kernel | omega)) d_Mod_fails_128 (fun z82 z82e z82E => ?_)
                refine V_istore 4 [some (.ref 116), some (.int o), some (.int m), some (.int z73), some (.int z82), some (.int v8), some (.int z18)] d_Mod_fails_129 (by decide) rfl rfl ?_
                have hl9 : (v7Z + z80Z) - (v6Z + z71Z) + mZ = LM h P oZ (v8Z + 1).toNat := lk9_s (A := (h.1 117 (87 + 3 * (v8Z).toNat)).toInt) (B := (h.1 117 (88 + 3 * (v8Z).toNat)).toInt) (V := (h.1 117 (89 + 3 * (v8Z).toNat)).toInt) (L := v7Z - v6Z + mZ) (X := (v7Z + z80Z) - v6Z + mZ) (by (first | decide +kernel | omega)) rfl rfl rfl hL9 (Or.inl ⟨by (first | decide +kernel | omega), by (first | decide +kernel | omega)⟩) (Or.inl ⟨⟨by (first | decide +kernel | omega), fun q => by have := hf9.mp q; omega⟩, by (first | decide +kernel | omega)⟩)
                obtain ⟨z83, z83E, z83e⟩ : ∃ y : Int32, y.toInt = v8Z + 1 ∧ y = v8 + Int32.ofInt 1 := ⟨_, ti_add v8E (by decide) (by (first | decide +kernel | omega)), rfl⟩
                refine V_iinc 5 [some (.ref 116), some (.int o), some (.int m), some (.int z73), some (.int z82), some (.int z83), some (.int z18)] d_Mod_fails_131 rfl z83e.symm (by decide) rfl rfl ?_
                refine V_goto 18 d_Mod_fails_134 (by decide) ?_
                refine V_drop 6 [some (.ref 116), some (.int o), some (.int m), some (.int z73), some (.int z82), some (.int z83), none] rfl ?_
                exact ihL4 z73 ((v6Z + z71Z)) z82 ((v7Z + z80Z)) z83 ((v8Z + 1)) z73E z82E z83E (by (first | decide +kernel | omega)) hl9 (by (first | decide +kernel | omega)) (by (first | decide +kernel | omega)) (by (first | decide +kernel | omega))
  exact L4 (Int.toNat ((8 - 0 : Int) + 1)) z3 ((pvZ + mZ)) 0 0 0 0 z3E tc_0 tc_0 (by (first | decide +kernel | omega)) (show _ = -(h.1 117 (80 + oZ).toNat).toInt from by rw [pvK, pvE]; omega) (by (first | decide +kernel | omega)) (by (first | decide +kernel | omega)) (by (first | decide +kernel | omega))
def S_Mod_findCrashX : List (Nat × Option Nat) := [(126, none), (116, some 30)]
abbrev q_Mod_findCrashX (h : Hp) (v : Int32) (vZ : Int) (m : Int32) (mZ : Int) (t : Int32) (tZ : Int) : Option Value → Hp → Prop := pInt (fun r h' => Inv h' ∧ fr S_Mod_findCrashX h h' ∧ (FC (FLV h vZ mZ tZ.toNat) h' r))
set_option maxRecDepth 100000 in
theorem c_Mod_findCrashX (h : Hp) (hI : Inv h) (v : Int32) (vZ : Int) (vE : v.toInt = vZ) (m : Int32) (mZ : Int) (mE : m.toInt = mZ) (t : Int32) (tZ : Int) (tE : t.toInt = tZ) (tK : h.1 117 86 = t) (hy0 : 0 ≤ mZ ∧ mZ ≤ 999) (hy1 : ∀ i : Nat, i < 8 → (i : Int) < (h.1 117 86).toInt → 0 ≤ (h.1 117 (89 + 3 * i)).toInt ∧ (h.1 117 (89 + 3 * i)).toInt ≤ 99) (hy2 : ∀ i : Nat, i < 4 → 0 ≤ (h.1 117 (80 + i)).toInt ∧ (h.1 117 (80 + i)).toInt ≤ 999) : Ct y_Mod_findCrash b_Mod_findCrash 6 (some .int) 1 26 [.ref 116, .int v, .int m] h (q_Mod_findCrashX h v vZ m mZ t tZ) := by
  refine ct_ow R_Mod [some (.ref 116), some (.int v), some (.int m), none, none, none] rfl (by decide) rfl (Nat.le_of_ble_eq_true rfl) ?_
  have f0 : fr S_Mod_findCrashX h h := fr_rf
  refine V_iconst 0 d_Mod_findCrash_0 (by decide) ?_
  refine V_istore_n 3 [some (.ref 116), some (.int v), some (.int m), some (.int 0), none, none] d_Mod_findCrash_1 rfl (by decide) rfl rfl ?_
  refine V_iconst 1 d_Mod_findCrash_2 (by decide) ?_
  refine V_istore 4 [some (.ref 116), some (.int v), some (.int m), some (.int 0), some (.int 1), none] d_Mod_findCrash_3 (by decide) rfl rfl ?_
  refine V_aload_n 0 d_Mod_findCrash_5 rfl rfl ?_
  refine V_iconst 0 d_Mod_findCrash_6 (by decide) ?_
  refine N_putI fp_Mod_305 sk_116 rfl d_Mod_findCrash_7 (fun h1 eh1 => ?_)
  have hI2 : Inv h1 := inv_full hI eh1 rfl
  have f3 : fr S_Mod_findCrashX h h1 := fr_put f0 eh1 rfl
  refine V_iconst 0 d_Mod_findCrash_10 (by decide) ?_
  refine V_istore 5 [some (.ref 116), some (.int v), some (.int m), some (.int 0), some (.int 1), some (.int 0)] d_Mod_findCrash_11 (by decide) rfl rfl ?_
  refine V_iload d_Mod_findCrash_13 rfl ?_
  refine V_iconst 4 d_Mod_findCrash_15 (by decide) ?_
  refine V_icmp_ge 33 tc_0 tc_4 d_Mod_findCrash_16 (by decide) (fun c4 => ?_) (fun c4 => ?_)
  ·
    exact absurd c4 (by decide)
  ·
    refine V_aload_n 0 d_Mod_findCrash_19 rfl rfl ?_
    refine V_getR fa_Mod_38 sk_116 rfl d_Mod_findCrash_20 ?_
    refine V_iload d_Mod_findCrash_23 rfl ?_
    refine V_iconst 0 d_Mod_findCrash_25 (by decide) ?_
    refine N_iast sk_126 tc_0 (by (first | decide +kernel | omega)) d_Mod_findCrash_26 (fun h5 eh5 => ?_)
    have hI6 : Inv h5 := inv_full hI2 eh5 rfl
    have f7 : fr S_Mod_findCrashX h h5 := fr_put f3 eh5 rfl
    refine V_iinc (v := 1) 5 [some (.ref 116), some (.int v), some (.int m), some (.int 0), some (.int 1), some (.int 1)] d_Mod_findCrash_27 rfl (by decide) (by decide) rfl rfl ?_
    refine V_goto 13 d_Mod_findCrash_30 (by decide) ?_
    refine V_iload d_Mod_findCrash_13 rfl ?_
    refine V_iconst 4 d_Mod_findCrash_15 (by decide) ?_
    refine V_icmp_ge 33 tc_1 tc_4 d_Mod_findCrash_16 (by decide) (fun c9 => ?_) (fun c9 => ?_)
    ·
      exact absurd c9 (by decide)
    ·
      refine V_aload_n 0 d_Mod_findCrash_19 rfl rfl ?_
      refine V_getR fa_Mod_38 sk_116 rfl d_Mod_findCrash_20 ?_
      refine V_iload d_Mod_findCrash_23 rfl ?_
      refine V_iconst 0 d_Mod_findCrash_25 (by decide) ?_
      refine N_iast sk_126 tc_1 (by (first | decide +kernel | omega)) d_Mod_findCrash_26 (fun h10 eh10 => ?_)
      have hI11 : Inv h10 := inv_full hI6 eh10 rfl
      have f12 : fr S_Mod_findCrashX h h10 := fr_put f7 eh10 rfl
      refine V_iinc (v := 2) 5 [some (.ref 116), some (.int v), some (.int m), some (.int 0), some (.int 1), some (.int 2)] d_Mod_findCrash_27 rfl (by decide) (by decide) rfl rfl ?_
      refine V_goto 13 d_Mod_findCrash_30 (by decide) ?_
      refine V_iload d_Mod_findCrash_13 rfl ?_
      refine V_iconst 4 d_Mod_findCrash_15 (by decide) ?_
      refine V_icmp_ge 33 tc_2 tc_4 d_Mod_findCrash_16 (by decide) (fun c14 => ?_) (fun c14 => ?_)
      ·
        exact absurd c14 (by decide)
      ·
        refine V_aload_n 0 d_Mod_findCrash_19 rfl rfl ?_
        refine V_getR fa_Mod_38 sk_116 rfl d_Mod_findCrash_20 ?_
        refine V_iload d_Mod_findCrash_23 rfl ?_
        refine V_iconst 0 d_Mod_findCrash_25 (by decide) ?_
        refine N_iast sk_126 tc_2 (by (first | decide +kernel | omega)) d_Mod_findCrash_26 (fun h15 eh15 => ?_)
        have hI16 : Inv h15 := inv_full hI11 eh15 rfl
        have f17 : fr S_Mod_findCrashX h h15 := fr_put f12 eh15 rfl
        refine V_iinc (v := 3) 5 [some (.ref 116), some (.int v), some (.int m), some (.int 0), some (.int 1), some (.int 3)] d_Mod_findCrash_27 rfl (by decide) (by decide) rfl rfl ?_
        refine V_goto 13 d_Mod_findCrash_30 (by decide) ?_
        refine V_iload d_Mod_findCrash_13 rfl ?_
        refine V_iconst 4 d_Mod_findCrash_15 (by decide) ?_
        refine V_icmp_ge 33 tc_3 tc_4 d_Mod_findCrash_16 (by decide) (fun c19 => ?_) (fun c19 => ?_)
        ·
          exact absurd c19 (by decide)
        ·
          refine V_aload_n 0 d_Mod_findCrash_19 rfl rfl ?_
          refine V_getR fa_Mod_38 sk_116 rfl d_Mod_findCrash_20 ?_
          refine V_iload d_Mod_findCrash_23 rfl ?_
          refine V_iconst 0 d_Mod_findCrash_25 (by decide) ?_
          refine N_iast sk_126 tc_3 (by (first | decide +kernel | omega)) d_Mod_findCrash_26 (fun h20 eh20 => ?_)
          have hI21 : Inv h20 := inv_full hI16 eh20 rfl
          have f22 : fr S_Mod_findCrashX h h20 := fr_put f17 eh20 rfl
          refine V_iinc (v := 4) 5 [some (.ref 116), some (.int v), some (.int m), some (.int 0), some (.int 1), some (.int 4)] d_Mod_findCrash_27 rfl (by decide) (by decide) rfl rfl ?_
          refine V_goto 13 d_Mod_findCrash_30 (by decide) ?_
          refine V_iload d_Mod_findCrash_13 rfl ?_
          refine V_iconst 4 d_Mod_findCrash_15 (by decide) ?_
          refine V_icmp_ge 33 tc_4 tc_4 d_Mod_findCrash_16 (by decide) (fun c24 => ?_) (fun c24 => ?_)
          ·
            have L25 : ∀ (nn : Nat) (v27 : Int32) (v27Z : Int) (v28 : Int32) (v28Z : Int) (h29 : Hp) (v31 : Int32) (v31Z : Int) (v33 : Int32) (v33Z : Int) (v35 : Int32) (v35Z : Int) (v37 : Int32) (v37Z : Int) (v39 : Int32) (v39Z : Int), v27.toInt = v27Z → v28.toInt = v28Z → Inv h29 → fr S_Mod_findCrashX h h29 → h29.1 117 86 = t → v31.toInt = v31Z → h29.1 126 0 = v31 → v33.toInt = v33Z → h29.1 126 1 = v33 → v35.toInt = v35Z → h29.1 126 2 = v35 → v37.toInt = v37Z → h29.1 126 3 = v37 → v39.toInt = v39Z → h29.1 116 30 = v39 → 0 ≤ v28Z ∧ v28Z ≤ 1 → 0 ≤ zc v31Z ∧ zc v31Z ≤ 1 → 0 ≤ zc v33Z ∧ zc v33Z ≤ 1 → 0 ≤ zc v35Z ∧ zc v35Z ≤ 1 → 0 ≤ zc v37Z ∧ zc v37Z ≤ 1 → 0 ≤ v39Z ∧ v39Z + zc v31Z + zc v33Z + zc v35Z + zc v37Z ≤ 4 → FW (SR (FLV h vZ mZ tZ.toNat)) (v39Z).toNat 0 v31Z v33Z v35Z v37Z → BP v27 ((SR (FLV h vZ mZ tZ.toNat)) (v39Z).toNat) → RDs (SR (FLV h vZ mZ tZ.toNat)) (v39Z).toNat v39Z → (v28Z = 1 ∨ (SR (FLV h vZ mZ tZ.toNat)) ((v39Z).toNat + 1) = (SR (FLV h vZ mZ tZ.toNat)) (v39Z).toNat) → zc v31Z + zc v33Z + zc v35Z + zc v37Z + v28Z < (nn : Int) → V R_Mod b_Mod_findCrash 6 (some .int) 1 26 (q_Mod_findCrashX h v vZ m mZ t tZ) h29 33 [some (.ref 116), some (.int v), some (.int m), some (.int v27), some (.int v28), none] [] := by
              intro nn
              induction nn with
              | zero => intro v27 v27Z v28 v28Z h29 v31 v31Z v33 v33Z v35 v35Z v37 v37Z v39 v39Z v27E v28E Ih29 Fh29 K30 v31E K32 v33E K34 v35E K36 v37E K38 v39E K40 q41 q42 q43 q44 q45 q46 q47 q48 q49 q50 hm51; exact absurd hm51 (by (first | decide +kernel | omega))
              | succ nn ihL25 =>
                intro v27 v27Z v28 v28Z h29 v31 v31Z v33 v33Z v35 v35Z v37 v37Z v39 v39Z v27E v28E Ih29 Fh29 K30 v31E K32 v33E K34 v35E K36 v37E K38 v39E K40 q41 q42 q43 q44 q45 q46 q47 q48 q49 q50 hm51
                refine V_iload d_Mod_findCrash_33 rfl ?_
                refine V_if_eq 126 v28E d_Mod_findCrash_35 (by decide) (fun c52 => ?_) (fun c52 => ?_)
                ·
                  refine V_iload_n 3 d_Mod_findCrash_126 rfl rfl ?_
                  exact V_iret rfl d_Mod_findCrash_127 ⟨v27, rfl, ⟨Ih29, Fh29, (FC_of (by (first | decide +kernel | omega)) (by assumption) (by assumption) ((show v28Z = 1 ∨ _ from by assumption).resolve_left (by (first | decide +kernel | omega))) K40 v39E (by assumption) K32 K34 K36 K38 v31E v33E v35E v37E)⟩⟩
                ·
                  refine V_iconst 0 d_Mod_findCrash_38 (by decide) ?_
                  refine V_istore 4 [some (.ref 116), some (.int v), some (.int m), some (.int v27), some (.int 0), none] d_Mod_findCrash_39 (by decide) rfl rfl ?_
                  refine V_iconst 0 d_Mod_findCrash_41 (by decide) ?_
                  refine V_istore 5 [some (.ref 116), some (.int v), some (.int m), some (.int v27), some (.int 0), some (.int 0)] d_Mod_findCrash_42 (by decide) rfl rfl ?_
                  have L53 : ∀ (nn : Nat) (v55 : Int32) (v55Z : Int) (v56 : Int32) (v56Z : Int) (v57 : Int32) (v57Z : Int) (h58 : Hp) (v61 : Int32) (v61Z : Int) (v63 : Int32) (v63Z : Int) (v65 : Int32) (v65Z : Int) (v67 : Int32) (v67Z : Int), v55.toInt = v55Z → v56.toInt = v56Z → v57.toInt = v57Z → Inv h58 → fr S_Mod_findCrashX h h58 → h58.1 116 30 = v39 → h58.1 117 86 = t → v61.toInt = v61Z → h58.1 126 0 = v61 → v63.toInt = v63Z → h58.1 126 1 = v63 → v65.toInt = v65Z → h58.1 126 2 = v65 → v67.toInt = v67Z → h58.1 126 3 = v67 → 0 ≤ v56Z ∧ v56Z ≤ 1 → 0 ≤ v57Z ∧ v57Z ≤ 4 → 0 ≤ zc v61Z ∧ zc v61Z ≤ 1 → 0 ≤ zc v63Z ∧ zc v63Z ≤ 1 → 0 ≤ zc v65Z ∧ zc v65Z ≤ 1 → 0 ≤ zc v67Z ∧ zc v67Z ≤ 1 → zc v61Z + zc v63Z + zc v65Z + zc v67Z + v56Z ≤ zc v31Z + zc v33Z + zc v35Z + zc v37Z → FW (SR (FLV h vZ mZ tZ.toNat)) (v39Z).toNat v57Z v61Z v63Z v65Z v67Z → BP v55 (SB (SR (FLV h vZ mZ tZ.toNat)) (v39Z).toNat v57Z) → ON (SR (FLV h vZ mZ tZ.toNat)) (v39Z).toNat v57Z v56Z → 4 - v57Z < (nn : Int) → V R_Mod b_Mod_findCrash 6 (some .int) 1 26 (q_Mod_findCrashX h v vZ m mZ t tZ) h58 44 [some (.ref 116), some (.int v), some (.int m), some (.int v55), some (.int v56), some (.int v57)] [] := by
                    intro nn
                    induction nn with
                    | zero => intro v55 v55Z v56 v56Z v57 v57Z h58 v61 v61Z v63 v63Z v65 v65Z v67 v67Z v55E v56E v57E Ih58 Fh58 K59 K60 v61E K62 v63E K64 v65E K66 v67E K68 q69 q70 q71 q72 q73 q74 q75 q76 q77 q78 hm79; exact absurd hm79 (by (first | decide +kernel | omega))
                    | succ nn ihL53 =>
                      intro v55 v55Z v56 v56Z v57 v57Z h58 v61 v61Z v63 v63Z v65 v65Z v67 v67Z v55E v56E v57E Ih58 Fh58 K59 K60 v61E K62 v63E K64 v65E K66 v67E K68 q69 q70 q71 q72 q73 q74 q75 q76 q77 q78 hm79
                      refine V_iload d_Mod_findCrash_44 rfl ?_
                      refine V_iconst 4 d_Mod_findCrash_46 (by decide) ?_
                      refine V_icmp_ge 109 v57E tc_4 d_Mod_findCrash_47 (by decide) (fun c80 => ?_) (fun c80 => ?_)
                      ·
                        rcases (by (first | decide +kernel | omega) : v56Z = 0 ∨ v56Z = 1) with c81 | c81
                        ·
                          have hF9 : FW (SR (FLV h vZ mZ tZ.toNat)) (v39Z).toNat v57Z v61Z v63Z v65Z v67Z := by assumption
                          have hB9 : BP v55 ((SR (FLV h vZ mZ tZ.toNat)) ((v39Z).toNat + 1)) := SB_4 (show BP v55 (SB (SR (FLV h vZ mZ tZ.toNat)) (v39Z).toNat v57Z) from by assumption) (by (first | decide +kernel | omega))
                          have hO9 : ON (SR (FLV h vZ mZ tZ.toNat)) (v39Z).toNat v57Z v56Z := by assumption
                          have hD9 : RDs (SR (FLV h vZ mZ tZ.toNat)) (v39Z).toNat v39Z := by assumption
                          refine V_aload_n 0 d_Mod_findCrash_109 rfl rfl ?_
                          have hst : (SR (FLV h vZ mZ tZ.toNat)) ((v39Z).toNat + 1) = (SR (FLV h vZ mZ tZ.toNat)) (v39Z).toNat := ON_st hO9 (by (first | decide +kernel | omega)) (by (first | decide +kernel | omega))
                          refine V_dup d_Mod_findCrash_110 rfl ?_
                          refine N_getK fa_Mod_305 sk_116 rfl d_Mod_findCrash_111 K59 ?_
                          refine V_iload d_Mod_findCrash_114 rfl ?_
                          refine N_callSI [.int v56] [.int v39, .ref 116] cs_Mod_196 d_Mod_findCrash_116 rfl (Nat.le_of_ble_eq_true rfl) (by decide) (by decide) (c_Mod_flag h58 v56 v56Z v56E) (fun z82 h83 z82Z z82E p84 => ?_)
                          obtain ⟨eh83, p84⟩ := p84
                          subst eh83
                          refine V_iadd v39E z82E (by (first | decide +kernel | omega)) d_Mod_findCrash_119 (fun z85 z85e z85E => ?_)
                          refine N_putI fp_Mod_305 sk_116 rfl d_Mod_findCrash_120 (fun h86 eh86 => ?_)
                          have hI87 : Inv h86 := inv_full Ih58 eh86 rfl
                          have f88 : fr S_Mod_findCrashX h h86 := fr_put Fh58 eh86 rfl
                          refine V_goto 33 d_Mod_findCrash_123 (by decide) ?_
                          refine V_drop 5 [some (.ref 116), some (.int v), some (.int m), some (.int v55), some (.int v56), none] rfl ?_
                          exact ihL25 v55 v55Z v56 v56Z h86 v61 v61Z v63 v63Z v65 v65Z v67 v67Z z85 ((v39Z + z82Z)) v55E v56E hI87 f88 (kn_ne eh86 K60 (by decide)) v61E (kn_ne eh86 K62 (by decide)) v63E (kn_ne eh86 K64 (by decide)) v65E (kn_ne eh86 K66 (by decide)) v67E (kn_ne eh86 K68 (by decide)) z85E (kn_put eh86) (by (first | decide +kernel | omega)) (zc_b _) (zc_b _) (zc_b _) (zc_b _) (by have z0 := zc_0 (x := 0) rfl; omega) (by rw [show ((v39Z + z82Z)).toNat = (v39Z).toNat by (first | decide +kernel | omega)]; exact FW_st hF9 (by (first | decide +kernel | omega)) hst) (by rw [show ((v39Z + z82Z)).toNat = (v39Z).toNat by (first | decide +kernel | omega), ← hst]; exact hB9) (by rw [show ((v39Z + z82Z)).toNat = (v39Z).toNat by (first | decide +kernel | omega), show (v39Z + z82Z) = v39Z by (first | decide +kernel | omega)]; exact hD9) (Or.inr (by rw [show ((v39Z + z82Z)).toNat = (v39Z).toNat by (first | decide +kernel | omega)]; exact hst)) (by (first | decide +kernel | omega))
                        ·
                          have hF9 : FW (SR (FLV h vZ mZ tZ.toNat)) (v39Z).toNat v57Z v61Z v63Z v65Z v67Z := by assumption
                          have hB9 : BP v55 ((SR (FLV h vZ mZ tZ.toNat)) ((v39Z).toNat + 1)) := SB_4 (show BP v55 (SB (SR (FLV h vZ mZ tZ.toNat)) (v39Z).toNat v57Z) from by assumption) (by (first | decide +kernel | omega))
                          have hO9 : ON (SR (FLV h vZ mZ tZ.toNat)) (v39Z).toNat v57Z v56Z := by assumption
                          have hD9 : RDs (SR (FLV h vZ mZ tZ.toNat)) (v39Z).toNat v39Z := by assumption
                          refine V_aload_n 0 d_Mod_findCrash_109 rfl rfl ?_
                          have hex := (hO9.resolve_left (fun q => absurd q.1 (by (first | decide +kernel | omega)))).2
                          refine V_dup d_Mod_findCrash_110 rfl ?_
                          refine N_getK fa_Mod_305 sk_116 rfl d_Mod_findCrash_111 K59 ?_
                          refine V_iload d_Mod_findCrash_114 rfl ?_
                          refine N_callSI [.int v56] [.int v39, .ref 116] cs_Mod_196 d_Mod_findCrash_116 rfl (Nat.le_of_ble_eq_true rfl) (by decide) (by decide) (c_Mod_flag h58 v56 v56Z v56E) (fun z89 h90 z89Z z89E p91 => ?_)
                          obtain ⟨eh90, p91⟩ := p91
                          subst eh90
                          refine V_iadd v39E z89E (by (first | decide +kernel | omega)) d_Mod_findCrash_119 (fun z92 z92e z92E => ?_)
                          refine N_putI fp_Mod_305 sk_116 rfl d_Mod_findCrash_120 (fun h93 eh93 => ?_)
                          have hI94 : Inv h93 := inv_full Ih58 eh93 rfl
                          have f95 : fr S_Mod_findCrashX h h93 := fr_put Fh58 eh93 rfl
                          refine V_goto 33 d_Mod_findCrash_123 (by decide) ?_
                          refine V_drop 5 [some (.ref 116), some (.int v), some (.int m), some (.int v55), some (.int v56), none] rfl ?_
                          exact ihL25 v55 v55Z v56 v56Z h93 v61 v61Z v63 v63Z v65 v65Z v67 v67Z z92 ((v39Z + z89Z)) v55E v56E hI94 f95 (kn_ne eh93 K60 (by decide)) v61E (kn_ne eh93 K62 (by decide)) v63E (kn_ne eh93 K64 (by decide)) v65E (kn_ne eh93 K66 (by decide)) v67E (kn_ne eh93 K68 (by decide)) z92E (kn_put eh93) (by (first | decide +kernel | omega)) (zc_b _) (zc_b _) (zc_b _) (zc_b _) (by have z0 := zc_0 (x := 0) rfl; omega) (by rw [show ((v39Z + z89Z)).toNat = (v39Z).toNat + 1 by (first | decide +kernel | omega)]; exact FW_end hF9 (by (first | decide +kernel | omega))) (by rw [show ((v39Z + z89Z)).toNat = (v39Z).toNat + 1 by (first | decide +kernel | omega)]; exact hB9) (by have q9 := RDs_g hD9 hex; rw [show (((v39Z).toNat : Nat) : Int) + 1 = (v39Z + z89Z) by (first | decide +kernel | omega), show (v39Z).toNat + 1 = ((v39Z + z89Z)).toNat by (first | decide +kernel | omega)] at q9; exact q9) (Or.inl (by (first | decide +kernel | omega))) (by (first | decide +kernel | omega))
                      ·
                        rcases (by (first | decide +kernel | omega) : v57Z = 0 ∨ v57Z = 1 ∨ v57Z = 2 ∨ v57Z = 3) with c96 | c96 | c96 | c96
                        ·
                          obtain rfl : v57 = 0 := (ti_eq v57E tc_0).mpr c96
                          subst c96
                          have hF9 : FW (SR (FLV h vZ mZ tZ.toNat)) (v39Z).toNat 0 v61Z v63Z v65Z v67Z := by assumption
                          have hB9 : BP v55 (SB (SR (FLV h vZ mZ tZ.toNat)) (v39Z).toNat 0) := by assumption
                          have hO9 : ON (SR (FLV h vZ mZ tZ.toNat)) (v39Z).toNat 0 v56Z := by assumption
                          have hH9 : HS (SR (FLV h vZ mZ tZ.toNat)) 0 (v39Z).toNat v61Z 0 := W0_at hF9.1 (by decide)
                          refine V_aload_n 0 d_Mod_findCrash_50 rfl rfl ?_
                          refine V_getR fa_Mod_38 sk_116 rfl d_Mod_findCrash_51 ?_
                          refine V_iload d_Mod_findCrash_54 rfl ?_
                          refine N_ialdK sk_126 tc_0 (by (first | decide +kernel | omega)) d_Mod_findCrash_56 K62 ?_
                          refine V_if_ne 103 v61E d_Mod_findCrash_57 (by decide) (fun c98 => ?_) (fun c98 => ?_)
                          ·
                            have hs9 : (SR (FLV h vZ mZ tZ.toNat)) ((v39Z).toNat + 1) 0 → (SR (FLV h vZ mZ tZ.toNat)) (v39Z).toNat 0 := fun _ => HS_in hH9 (by (first | decide +kernel | omega))
                            have hq9 : HS (SR (FLV h vZ mZ tZ.toNat)) 0 ((v39Z).toNat + 1) v61Z 0 := HS_n hH9 hs9
                            refine V_iinc (v := 1) 5 [some (.ref 116), some (.int v), some (.int m), some (.int v55), some (.int v56), some (.int 1)] d_Mod_findCrash_103 rfl (by decide) (by decide) rfl rfl ?_
                            refine V_goto 44 d_Mod_findCrash_106 (by decide) ?_
                            exact ihL53 v55 v55Z v56 v56Z 1 1 h58 v61 v61Z v63 v63Z v65 v65Z v67 v67Z v55E v56E tc_1 Ih58 Fh58 K59 K60 v61E K62 v63E K64 v65E K66 v67E K68 (by (first | decide +kernel | omega)) (by (first | decide +kernel | omega)) (zc_b _) (zc_b _) (zc_b _) (zc_b _) (by (first | decide +kernel | omega)) (FW_s0 hF9 hq9) (SB_n (k := 0) hB9 (by decide) hs9) (ON_n (k := 0) hO9 (by decide) hs9) (by (first | decide +kernel | omega))
                          ·
                            have zz := zc_0 (x := v61Z) (by (first | decide +kernel | omega))
                            refine V_aload_n 0 d_Mod_findCrash_60 rfl rfl ?_
                            refine V_iload d_Mod_findCrash_61 rfl ?_
                            refine V_iload d_Mod_findCrash_63 rfl ?_
                            refine V_iload_n 1 d_Mod_findCrash_65 rfl rfl ?_
                            refine V_icmp_ne 73 tc_0 vE d_Mod_findCrash_66 (by decide) (fun c100 => ?_) (fun c100 => ?_)
                            ·
                              refine V_iconst 0 d_Mod_findCrash_73 (by decide) ?_
                              refine N_callVI [.int 0, .int 0] [] cv_Mod_308 sk_116 rfl d_Mod_findCrash_74 rfl (Nat.le_of_ble_eq_true rfl) (by decide) (by decide) (c_Mod_failsX h58 ((SR (FLV h vZ mZ tZ.toNat)) (v39Z).toNat) Ih58 0 0 tc_0 0 0 tc_0 v39 v39Z v39E K59 t tZ tE K60 (by (first | decide +kernel | omega)) (by (first | decide +kernel | omega)) (FW_F hF9 (by (first | decide +kernel | omega)) K62 K64 K66 K68 v61E v63E v65E v67E) (by rw [show h58.1 117 = h.1 117 from funext (fun i => Fh58.1 117 i rfl)]; exact hy1) (by rw [show h58.1 117 = h.1 117 from funext (fun i => Fh58.1 117 i rfl)]; exact hy2)) (fun z101 h102 z101Z z101E p103 => ?_)
                              obtain ⟨eh102, p103⟩ := p103
                              subst eh102
                              have := twR_01 p103
                              have hfl : twR z101 ((FLV h vZ mZ tZ.toNat) ((SR (FLV h vZ mZ tZ.toNat)) (v39Z).toNat) 0) := twR_cg p103 (by show (0 < LM h58 ((SR (FLV h vZ mZ tZ.toNat)) (v39Z).toNat) 0 tZ.toNat - 0) ↔ 0 < LM h ((SR (FLV h vZ mZ tZ.toNat)) (v39Z).toNat) ((0 : Nat) : Int) tZ.toNat - (if ((0 : Nat) : Int) = vZ then mZ else 0); rw [LM_fr Fh58 rfl, if_neg (by (first | decide +kernel | omega))]; first | done | exact Iff.rfl)
                              refine V_if_eq 103 z101E d_Mod_findCrash_77 (by decide) (fun c104 => ?_) (fun c104 => ?_)
                              ·
                                have hs9 : (SR (FLV h vZ mZ tZ.toNat)) ((v39Z).toNat + 1) 0 → (SR (FLV h vZ mZ tZ.toNat)) (v39Z).toNat 0 := fun q => q.elim id (fun w => absurd w.2 (hfl.resolve_left (fun q => absurd q.1 (by (first | decide +kernel | omega)))).2)
                                have hq9 : HS (SR (FLV h vZ mZ tZ.toNat)) 0 ((v39Z).toNat + 1) v61Z 0 := HS_n hH9 hs9
                                refine V_iinc (v := 1) 5 [some (.ref 116), some (.int v), some (.int m), some (.int v55), some (.int v56), some (.int 1)] d_Mod_findCrash_103 rfl (by decide) (by decide) rfl rfl ?_
                                refine V_goto 44 d_Mod_findCrash_106 (by decide) ?_
                                exact ihL53 v55 v55Z v56 v56Z 1 1 h58 v61 v61Z v63 v63Z v65 v65Z v67 v67Z v55E v56E tc_1 Ih58 Fh58 K59 K60 v61E K62 v63E K64 v65E K66 v67E K68 (by (first | decide +kernel | omega)) (by (first | decide +kernel | omega)) (zc_b _) (zc_b _) (zc_b _) (zc_b _) (by (first | decide +kernel | omega)) (FW_s0 hF9 hq9) (SB_n (k := 0) hB9 (by decide) hs9) (ON_n (k := 0) hO9 (by decide) hs9) (by (first | decide +kernel | omega))
                              ·
                                have hg9 : (SR (FLV h vZ mZ tZ.toNat)) ((v39Z).toNat + 1) 0 := Or.inr ⟨by decide, (hfl.resolve_right (fun q => absurd q.1 (by (first | decide +kernel | omega)))).2⟩
                                have hn9 : ¬ (SR (FLV h vZ mZ tZ.toNat)) (v39Z).toNat 0 := HS_out hH9 (by (first | decide +kernel | omega))
                                refine V_aload_n 0 d_Mod_findCrash_80 rfl rfl ?_
                                refine V_getR fa_Mod_38 sk_116 rfl d_Mod_findCrash_81 ?_
                                refine V_iload d_Mod_findCrash_84 rfl ?_
                                refine V_aload_n 0 d_Mod_findCrash_86 rfl rfl ?_
                                refine N_getK fa_Mod_305 sk_116 rfl d_Mod_findCrash_87 K59 ?_
                                refine V_iconst 1 d_Mod_findCrash_90 (by decide) ?_
                                refine V_iadd v39E tc_1 (by (first | decide +kernel | omega)) d_Mod_findCrash_91 (fun z106 z106e z106E => ?_)
                                refine N_iast sk_126 tc_0 (by (first | decide +kernel | omega)) d_Mod_findCrash_92 (fun h107 eh107 => ?_)
                                have hI108 : Inv h107 := inv_full Ih58 eh107 rfl
                                have f109 : fr S_Mod_findCrashX h h107 := fr_put Fh58 eh107 rfl
                                have zy := zc_n (x := (v39Z + 1)) (by (first | decide +kernel | omega))
                                refine V_iload_n 3 d_Mod_findCrash_93 rfl rfl ?_
                                refine V_iconst 1 d_Mod_findCrash_94 (by decide) ?_
                                refine V_iload d_Mod_findCrash_95 rfl ?_
                                refine N_ishl d_Mod_findCrash_97 (fun z110 z110Z z110E z110e => ?_)
                                refine N_ior d_Mod_findCrash_98 (fun z111 z111Z z111E z111e => ?_)
                                refine V_istore_n 3 [some (.ref 116), some (.int v), some (.int m), some (.int z111), some (.int v56), some (.int 0)] d_Mod_findCrash_99 rfl (by decide) rfl rfl ?_
                                refine V_iconst 1 d_Mod_findCrash_100 (by decide) ?_
                                refine V_istore 4 [some (.ref 116), some (.int v), some (.int m), some (.int z111), some (.int 1), some (.int 0)] d_Mod_findCrash_101 (by decide) rfl rfl ?_
                                have hq9 : HS (SR (FLV h vZ mZ tZ.toNat)) 0 ((v39Z).toNat + 1) ((v39Z + 1)) 0 := by have q9 := HS_g (fl := (FLV h vZ mZ tZ.toNat)) (none := 0) hg9 hn9; rw [show (((v39Z).toNat : Nat) : Int) + 1 = (v39Z + 1) by (first | decide +kernel | omega)] at q9; exact q9
                                refine V_iinc (v := 1) 5 [some (.ref 116), some (.int v), some (.int m), some (.int z111), some (.int 1), some (.int 1)] d_Mod_findCrash_103 rfl (by decide) (by decide) rfl rfl ?_
                                refine V_goto 44 d_Mod_findCrash_106 (by decide) ?_
                                exact ihL53 z111 z111Z 1 1 1 1 h107 z106 ((v39Z + 1)) v63 v63Z v65 v65Z v67 v67Z z111E tc_1 tc_1 hI108 f109 (kn_ne eh107 K59 (by decide)) (kn_ne eh107 K60 (by decide)) z106E (kn_put eh107) v63E (kn_nei eh107 K64 (by decide)) v65E (kn_nei eh107 K66 (by decide)) v67E (kn_nei eh107 K68 (by decide)) (by (first | decide +kernel | omega)) (by (first | decide +kernel | omega)) (zc_b _) (zc_b _) (zc_b _) (zc_b _) (by (first | decide +kernel | omega)) (FW_s0 hF9 hq9) (SB_g (k := 0) hB9 rfl (by decide) hg9 z110e z111e) (ON_g (k := 0) hg9 hn9) (by (first | decide +kernel | omega))
                            ·
                              refine V_iload_n 2 d_Mod_findCrash_69 rfl rfl ?_
                              refine V_goto 74 d_Mod_findCrash_70 (by decide) ?_
                              refine N_callVI [.int 0, .int m] [] cv_Mod_308 sk_116 rfl d_Mod_findCrash_74 rfl (Nat.le_of_ble_eq_true rfl) (by decide) (by decide) (c_Mod_failsX h58 ((SR (FLV h vZ mZ tZ.toNat)) (v39Z).toNat) Ih58 0 0 tc_0 m mZ mE v39 v39Z v39E K59 t tZ tE K60 (by (first | decide +kernel | omega)) (by (first | decide +kernel | omega)) (FW_F hF9 (by (first | decide +kernel | omega)) K62 K64 K66 K68 v61E v63E v65E v67E) (by rw [show h58.1 117 = h.1 117 from funext (fun i => Fh58.1 117 i rfl)]; exact hy1) (by rw [show h58.1 117 = h.1 117 from funext (fun i => Fh58.1 117 i rfl)]; exact hy2)) (fun z113 h114 z113Z z113E p115 => ?_)
                              obtain ⟨eh114, p115⟩ := p115
                              subst eh114
                              have := twR_01 p115
                              have hfl : twR z113 ((FLV h vZ mZ tZ.toNat) ((SR (FLV h vZ mZ tZ.toNat)) (v39Z).toNat) 0) := twR_cg p115 (by show (0 < LM h58 ((SR (FLV h vZ mZ tZ.toNat)) (v39Z).toNat) 0 tZ.toNat - mZ) ↔ 0 < LM h ((SR (FLV h vZ mZ tZ.toNat)) (v39Z).toNat) ((0 : Nat) : Int) tZ.toNat - (if ((0 : Nat) : Int) = vZ then mZ else 0); rw [LM_fr Fh58 rfl, if_pos (by (first | decide +kernel | omega))]; first | done | exact Iff.rfl)
                              refine V_if_eq 103 z113E d_Mod_findCrash_77 (by decide) (fun c116 => ?_) (fun c116 => ?_)
                              ·
                                have hs9 : (SR (FLV h vZ mZ tZ.toNat)) ((v39Z).toNat + 1) 0 → (SR (FLV h vZ mZ tZ.toNat)) (v39Z).toNat 0 := fun q => q.elim id (fun w => absurd w.2 (hfl.resolve_left (fun q => absurd q.1 (by (first | decide +kernel | omega)))).2)
                                have hq9 : HS (SR (FLV h vZ mZ tZ.toNat)) 0 ((v39Z).toNat + 1) v61Z 0 := HS_n hH9 hs9
                                refine V_iinc (v := 1) 5 [some (.ref 116), some (.int v), some (.int m), some (.int v55), some (.int v56), some (.int 1)] d_Mod_findCrash_103 rfl (by decide) (by decide) rfl rfl ?_
                                refine V_goto 44 d_Mod_findCrash_106 (by decide) ?_
                                exact ihL53 v55 v55Z v56 v56Z 1 1 h58 v61 v61Z v63 v63Z v65 v65Z v67 v67Z v55E v56E tc_1 Ih58 Fh58 K59 K60 v61E K62 v63E K64 v65E K66 v67E K68 (by (first | decide +kernel | omega)) (by (first | decide +kernel | omega)) (zc_b _) (zc_b _) (zc_b _) (zc_b _) (by (first | decide +kernel | omega)) (FW_s0 hF9 hq9) (SB_n (k := 0) hB9 (by decide) hs9) (ON_n (k := 0) hO9 (by decide) hs9) (by (first | decide +kernel | omega))
                              ·
                                have hg9 : (SR (FLV h vZ mZ tZ.toNat)) ((v39Z).toNat + 1) 0 := Or.inr ⟨by decide, (hfl.resolve_right (fun q => absurd q.1 (by (first | decide +kernel | omega)))).2⟩
                                have hn9 : ¬ (SR (FLV h vZ mZ tZ.toNat)) (v39Z).toNat 0 := HS_out hH9 (by (first | decide +kernel | omega))
                                refine V_aload_n 0 d_Mod_findCrash_80 rfl rfl ?_
                                refine V_getR fa_Mod_38 sk_116 rfl d_Mod_findCrash_81 ?_
                                refine V_iload d_Mod_findCrash_84 rfl ?_
                                refine V_aload_n 0 d_Mod_findCrash_86 rfl rfl ?_
                                refine N_getK fa_Mod_305 sk_116 rfl d_Mod_findCrash_87 K59 ?_
                                refine V_iconst 1 d_Mod_findCrash_90 (by decide) ?_
                                refine V_iadd v39E tc_1 (by (first | decide +kernel | omega)) d_Mod_findCrash_91 (fun z118 z118e z118E => ?_)
                                refine N_iast sk_126 tc_0 (by (first | decide +kernel | omega)) d_Mod_findCrash_92 (fun h119 eh119 => ?_)
                                have hI120 : Inv h119 := inv_full Ih58 eh119 rfl
                                have f121 : fr S_Mod_findCrashX h h119 := fr_put Fh58 eh119 rfl
                                have zy := zc_n (x := (v39Z + 1)) (by (first | decide +kernel | omega))
                                refine V_iload_n 3 d_Mod_findCrash_93 rfl rfl ?_
                                refine V_iconst 1 d_Mod_findCrash_94 (by decide) ?_
                                refine V_iload d_Mod_findCrash_95 rfl ?_
                                refine N_ishl d_Mod_findCrash_97 (fun z122 z122Z z122E z122e => ?_)
                                refine N_ior d_Mod_findCrash_98 (fun z123 z123Z z123E z123e => ?_)
                                refine V_istore_n 3 [some (.ref 116), some (.int v), some (.int m), some (.int z123), some (.int v56), some (.int 0)] d_Mod_findCrash_99 rfl (by decide) rfl rfl ?_
                                refine V_iconst 1 d_Mod_findCrash_100 (by decide) ?_
                                refine V_istore 4 [some (.ref 116), some (.int v), some (.int m), some (.int z123), some (.int 1), some (.int 0)] d_Mod_findCrash_101 (by decide) rfl rfl ?_
                                have hq9 : HS (SR (FLV h vZ mZ tZ.toNat)) 0 ((v39Z).toNat + 1) ((v39Z + 1)) 0 := by have q9 := HS_g (fl := (FLV h vZ mZ tZ.toNat)) (none := 0) hg9 hn9; rw [show (((v39Z).toNat : Nat) : Int) + 1 = (v39Z + 1) by (first | decide +kernel | omega)] at q9; exact q9
                                refine V_iinc (v := 1) 5 [some (.ref 116), some (.int v), some (.int m), some (.int z123), some (.int 1), some (.int 1)] d_Mod_findCrash_103 rfl (by decide) (by decide) rfl rfl ?_
                                refine V_goto 44 d_Mod_findCrash_106 (by decide) ?_
                                exact ihL53 z123 z123Z 1 1 1 1 h119 z118 ((v39Z + 1)) v63 v63Z v65 v65Z v67 v67Z z123E tc_1 tc_1 hI120 f121 (kn_ne eh119 K59 (by decide)) (kn_ne eh119 K60 (by decide)) z118E (kn_put eh119) v63E (kn_nei eh119 K64 (by decide)) v65E (kn_nei eh119 K66 (by decide)) v67E (kn_nei eh119 K68 (by decide)) (by (first | decide +kernel | omega)) (by (first | decide +kernel | omega)) (zc_b _) (zc_b _) (zc_b _) (zc_b _) (by (first | decide +kernel | omega)) (FW_s0 hF9 hq9) (SB_g (k := 0) hB9 rfl (by decide) hg9 z122e z123e) (ON_g (k := 0) hg9 hn9) (by (first | decide +kernel | omega))
                        ·
                          obtain rfl : v57 = 1 := (ti_eq v57E tc_1).mpr c96
                          subst c96
                          have hF9 : FW (SR (FLV h vZ mZ tZ.toNat)) (v39Z).toNat 1 v61Z v63Z v65Z v67Z := by assumption
                          have hB9 : BP v55 (SB (SR (FLV h vZ mZ tZ.toNat)) (v39Z).toNat 1) := by assumption
                          have hO9 : ON (SR (FLV h vZ mZ tZ.toNat)) (v39Z).toNat 1 v56Z := by assumption
                          have hH9 : HS (SR (FLV h vZ mZ tZ.toNat)) 1 (v39Z).toNat v63Z 0 := W0_at hF9.2.1 (by decide)
                          refine V_aload_n 0 d_Mod_findCrash_50 rfl rfl ?_
                          refine V_getR fa_Mod_38 sk_116 rfl d_Mod_findCrash_51 ?_
                          refine V_iload d_Mod_findCrash_54 rfl ?_
                          refine N_ialdK sk_126 tc_1 (by (first | decide +kernel | omega)) d_Mod_findCrash_56 K64 ?_
                          refine V_if_ne 103 v63E d_Mod_findCrash_57 (by decide) (fun c126 => ?_) (fun c126 => ?_)
                          ·
                            have hs9 : (SR (FLV h vZ mZ tZ.toNat)) ((v39Z).toNat + 1) 1 → (SR (FLV h vZ mZ tZ.toNat)) (v39Z).toNat 1 := fun _ => HS_in hH9 (by (first | decide +kernel | omega))
                            have hq9 : HS (SR (FLV h vZ mZ tZ.toNat)) 1 ((v39Z).toNat + 1) v63Z 0 := HS_n hH9 hs9
                            refine V_iinc (v := 2) 5 [some (.ref 116), some (.int v), some (.int m), some (.int v55), some (.int v56), some (.int 2)] d_Mod_findCrash_103 rfl (by decide) (by decide) rfl rfl ?_
                            refine V_goto 44 d_Mod_findCrash_106 (by decide) ?_
                            exact ihL53 v55 v55Z v56 v56Z 2 2 h58 v61 v61Z v63 v63Z v65 v65Z v67 v67Z v55E v56E tc_2 Ih58 Fh58 K59 K60 v61E K62 v63E K64 v65E K66 v67E K68 (by (first | decide +kernel | omega)) (by (first | decide +kernel | omega)) (zc_b _) (zc_b _) (zc_b _) (zc_b _) (by (first | decide +kernel | omega)) (FW_s1 hF9 hq9) (SB_n (k := 1) hB9 (by decide) hs9) (ON_n (k := 1) hO9 (by decide) hs9) (by (first | decide +kernel | omega))
                          ·
                            have zz := zc_0 (x := v63Z) (by (first | decide +kernel | omega))
                            refine V_aload_n 0 d_Mod_findCrash_60 rfl rfl ?_
                            refine V_iload d_Mod_findCrash_61 rfl ?_
                            refine V_iload d_Mod_findCrash_63 rfl ?_
                            refine V_iload_n 1 d_Mod_findCrash_65 rfl rfl ?_
                            refine V_icmp_ne 73 tc_1 vE d_Mod_findCrash_66 (by decide) (fun c128 => ?_) (fun c128 => ?_)
                            ·
                              refine V_iconst 0 d_Mod_findCrash_73 (by decide) ?_
                              refine N_callVI [.int 1, .int 0] [] cv_Mod_308 sk_116 rfl d_Mod_findCrash_74 rfl (Nat.le_of_ble_eq_true rfl) (by decide) (by decide) (c_Mod_failsX h58 ((SR (FLV h vZ mZ tZ.toNat)) (v39Z).toNat) Ih58 1 1 tc_1 0 0 tc_0 v39 v39Z v39E K59 t tZ tE K60 (by (first | decide +kernel | omega)) (by (first | decide +kernel | omega)) (FW_F hF9 (by (first | decide +kernel | omega)) K62 K64 K66 K68 v61E v63E v65E v67E) (by rw [show h58.1 117 = h.1 117 from funext (fun i => Fh58.1 117 i rfl)]; exact hy1) (by rw [show h58.1 117 = h.1 117 from funext (fun i => Fh58.1 117 i rfl)]; exact hy2)) (fun z129 h130 z129Z z129E p131 => ?_)
                              obtain ⟨eh130, p131⟩ := p131
                              subst eh130
                              have := twR_01 p131
                              have hfl : twR z129 ((FLV h vZ mZ tZ.toNat) ((SR (FLV h vZ mZ tZ.toNat)) (v39Z).toNat) 1) := twR_cg p131 (by show (0 < LM h58 ((SR (FLV h vZ mZ tZ.toNat)) (v39Z).toNat) 1 tZ.toNat - 0) ↔ 0 < LM h ((SR (FLV h vZ mZ tZ.toNat)) (v39Z).toNat) ((1 : Nat) : Int) tZ.toNat - (if ((1 : Nat) : Int) = vZ then mZ else 0); rw [LM_fr Fh58 rfl, if_neg (by (first | decide +kernel | omega))]; first | done | exact Iff.rfl)
                              refine V_if_eq 103 z129E d_Mod_findCrash_77 (by decide) (fun c132 => ?_) (fun c132 => ?_)
                              ·
                                have hs9 : (SR (FLV h vZ mZ tZ.toNat)) ((v39Z).toNat + 1) 1 → (SR (FLV h vZ mZ tZ.toNat)) (v39Z).toNat 1 := fun q => q.elim id (fun w => absurd w.2 (hfl.resolve_left (fun q => absurd q.1 (by (first | decide +kernel | omega)))).2)
                                have hq9 : HS (SR (FLV h vZ mZ tZ.toNat)) 1 ((v39Z).toNat + 1) v63Z 0 := HS_n hH9 hs9
                                refine V_iinc (v := 2) 5 [some (.ref 116), some (.int v), some (.int m), some (.int v55), some (.int v56), some (.int 2)] d_Mod_findCrash_103 rfl (by decide) (by decide) rfl rfl ?_
                                refine V_goto 44 d_Mod_findCrash_106 (by decide) ?_
                                exact ihL53 v55 v55Z v56 v56Z 2 2 h58 v61 v61Z v63 v63Z v65 v65Z v67 v67Z v55E v56E tc_2 Ih58 Fh58 K59 K60 v61E K62 v63E K64 v65E K66 v67E K68 (by (first | decide +kernel | omega)) (by (first | decide +kernel | omega)) (zc_b _) (zc_b _) (zc_b _) (zc_b _) (by (first | decide +kernel | omega)) (FW_s1 hF9 hq9) (SB_n (k := 1) hB9 (by decide) hs9) (ON_n (k := 1) hO9 (by decide) hs9) (by (first | decide +kernel | omega))
                              ·
                                have hg9 : (SR (FLV h vZ mZ tZ.toNat)) ((v39Z).toNat + 1) 1 := Or.inr ⟨by decide, (hfl.resolve_right (fun q => absurd q.1 (by (first | decide +kernel | omega)))).2⟩
                                have hn9 : ¬ (SR (FLV h vZ mZ tZ.toNat)) (v39Z).toNat 1 := HS_out hH9 (by (first | decide +kernel | omega))
                                refine V_aload_n 0 d_Mod_findCrash_80 rfl rfl ?_
                                refine V_getR fa_Mod_38 sk_116 rfl d_Mod_findCrash_81 ?_
                                refine V_iload d_Mod_findCrash_84 rfl ?_
                                refine V_aload_n 0 d_Mod_findCrash_86 rfl rfl ?_
                                refine N_getK fa_Mod_305 sk_116 rfl d_Mod_findCrash_87 K59 ?_
                                refine V_iconst 1 d_Mod_findCrash_90 (by decide) ?_
                                refine V_iadd v39E tc_1 (by (first | decide +kernel | omega)) d_Mod_findCrash_91 (fun z134 z134e z134E => ?_)
                                refine N_iast sk_126 tc_1 (by (first | decide +kernel | omega)) d_Mod_findCrash_92 (fun h135 eh135 => ?_)
                                have hI136 : Inv h135 := inv_full Ih58 eh135 rfl
                                have f137 : fr S_Mod_findCrashX h h135 := fr_put Fh58 eh135 rfl
                                have zy := zc_n (x := (v39Z + 1)) (by (first | decide +kernel | omega))
                                refine V_iload_n 3 d_Mod_findCrash_93 rfl rfl ?_
                                refine V_iconst 1 d_Mod_findCrash_94 (by decide) ?_
                                refine V_iload d_Mod_findCrash_95 rfl ?_
                                refine N_ishl d_Mod_findCrash_97 (fun z138 z138Z z138E z138e => ?_)
                                refine N_ior d_Mod_findCrash_98 (fun z139 z139Z z139E z139e => ?_)
                                refine V_istore_n 3 [some (.ref 116), some (.int v), some (.int m), some (.int z139), some (.int v56), some (.int 1)] d_Mod_findCrash_99 rfl (by decide) rfl rfl ?_
                                refine V_iconst 1 d_Mod_findCrash_100 (by decide) ?_
                                refine V_istore 4 [some (.ref 116), some (.int v), some (.int m), some (.int z139), some (.int 1), some (.int 1)] d_Mod_findCrash_101 (by decide) rfl rfl ?_
                                have hq9 : HS (SR (FLV h vZ mZ tZ.toNat)) 1 ((v39Z).toNat + 1) ((v39Z + 1)) 0 := by have q9 := HS_g (fl := (FLV h vZ mZ tZ.toNat)) (none := 0) hg9 hn9; rw [show (((v39Z).toNat : Nat) : Int) + 1 = (v39Z + 1) by (first | decide +kernel | omega)] at q9; exact q9
                                refine V_iinc (v := 2) 5 [some (.ref 116), some (.int v), some (.int m), some (.int z139), some (.int 1), some (.int 2)] d_Mod_findCrash_103 rfl (by decide) (by decide) rfl rfl ?_
                                refine V_goto 44 d_Mod_findCrash_106 (by decide) ?_
                                exact ihL53 z139 z139Z 1 1 2 2 h135 v61 v61Z z134 ((v39Z + 1)) v65 v65Z v67 v67Z z139E tc_1 tc_2 hI136 f137 (kn_ne eh135 K59 (by decide)) (kn_ne eh135 K60 (by decide)) v61E (kn_nei eh135 K62 (by decide)) z134E (kn_put eh135) v65E (kn_nei eh135 K66 (by decide)) v67E (kn_nei eh135 K68 (by decide)) (by (first | decide +kernel | omega)) (by (first | decide +kernel | omega)) (zc_b _) (zc_b _) (zc_b _) (zc_b _) (by (first | decide +kernel | omega)) (FW_s1 hF9 hq9) (SB_g (k := 1) hB9 rfl (by decide) hg9 z138e z139e) (ON_g (k := 1) hg9 hn9) (by (first | decide +kernel | omega))
                            ·
                              refine V_iload_n 2 d_Mod_findCrash_69 rfl rfl ?_
                              refine V_goto 74 d_Mod_findCrash_70 (by decide) ?_
                              refine N_callVI [.int 1, .int m] [] cv_Mod_308 sk_116 rfl d_Mod_findCrash_74 rfl (Nat.le_of_ble_eq_true rfl) (by decide) (by decide) (c_Mod_failsX h58 ((SR (FLV h vZ mZ tZ.toNat)) (v39Z).toNat) Ih58 1 1 tc_1 m mZ mE v39 v39Z v39E K59 t tZ tE K60 (by (first | decide +kernel | omega)) (by (first | decide +kernel | omega)) (FW_F hF9 (by (first | decide +kernel | omega)) K62 K64 K66 K68 v61E v63E v65E v67E) (by rw [show h58.1 117 = h.1 117 from funext (fun i => Fh58.1 117 i rfl)]; exact hy1) (by rw [show h58.1 117 = h.1 117 from funext (fun i => Fh58.1 117 i rfl)]; exact hy2)) (fun z141 h142 z141Z z141E p143 => ?_)
                              obtain ⟨eh142, p143⟩ := p143
                              subst eh142
                              have := twR_01 p143
                              have hfl : twR z141 ((FLV h vZ mZ tZ.toNat) ((SR (FLV h vZ mZ tZ.toNat)) (v39Z).toNat) 1) := twR_cg p143 (by show (0 < LM h58 ((SR (FLV h vZ mZ tZ.toNat)) (v39Z).toNat) 1 tZ.toNat - mZ) ↔ 0 < LM h ((SR (FLV h vZ mZ tZ.toNat)) (v39Z).toNat) ((1 : Nat) : Int) tZ.toNat - (if ((1 : Nat) : Int) = vZ then mZ else 0); rw [LM_fr Fh58 rfl, if_pos (by (first | decide +kernel | omega))]; first | done | exact Iff.rfl)
                              refine V_if_eq 103 z141E d_Mod_findCrash_77 (by decide) (fun c144 => ?_) (fun c144 => ?_)
                              ·
                                have hs9 : (SR (FLV h vZ mZ tZ.toNat)) ((v39Z).toNat + 1) 1 → (SR (FLV h vZ mZ tZ.toNat)) (v39Z).toNat 1 := fun q => q.elim id (fun w => absurd w.2 (hfl.resolve_left (fun q => absurd q.1 (by (first | decide +kernel | omega)))).2)
                                have hq9 : HS (SR (FLV h vZ mZ tZ.toNat)) 1 ((v39Z).toNat + 1) v63Z 0 := HS_n hH9 hs9
                                refine V_iinc (v := 2) 5 [some (.ref 116), some (.int v), some (.int m), some (.int v55), some (.int v56), some (.int 2)] d_Mod_findCrash_103 rfl (by decide) (by decide) rfl rfl ?_
                                refine V_goto 44 d_Mod_findCrash_106 (by decide) ?_
                                exact ihL53 v55 v55Z v56 v56Z 2 2 h58 v61 v61Z v63 v63Z v65 v65Z v67 v67Z v55E v56E tc_2 Ih58 Fh58 K59 K60 v61E K62 v63E K64 v65E K66 v67E K68 (by (first | decide +kernel | omega)) (by (first | decide +kernel | omega)) (zc_b _) (zc_b _) (zc_b _) (zc_b _) (by (first | decide +kernel | omega)) (FW_s1 hF9 hq9) (SB_n (k := 1) hB9 (by decide) hs9) (ON_n (k := 1) hO9 (by decide) hs9) (by (first | decide +kernel | omega))
                              ·
                                have hg9 : (SR (FLV h vZ mZ tZ.toNat)) ((v39Z).toNat + 1) 1 := Or.inr ⟨by decide, (hfl.resolve_right (fun q => absurd q.1 (by (first | decide +kernel | omega)))).2⟩
                                have hn9 : ¬ (SR (FLV h vZ mZ tZ.toNat)) (v39Z).toNat 1 := HS_out hH9 (by (first | decide +kernel | omega))
                                refine V_aload_n 0 d_Mod_findCrash_80 rfl rfl ?_
                                refine V_getR fa_Mod_38 sk_116 rfl d_Mod_findCrash_81 ?_
                                refine V_iload d_Mod_findCrash_84 rfl ?_
                                refine V_aload_n 0 d_Mod_findCrash_86 rfl rfl ?_
                                refine N_getK fa_Mod_305 sk_116 rfl d_Mod_findCrash_87 K59 ?_
                                refine V_iconst 1 d_Mod_findCrash_90 (by decide) ?_
                                refine V_iadd v39E tc_1 (by (first | decide +kernel | omega)) d_Mod_findCrash_91 (fun z146 z146e z146E => ?_)
                                refine N_iast sk_126 tc_1 (by (first | decide +kernel | omega)) d_Mod_findCrash_92 (fun h147 eh147 => ?_)
                                have hI148 : Inv h147 := inv_full Ih58 eh147 rfl
                                have f149 : fr S_Mod_findCrashX h h147 := fr_put Fh58 eh147 rfl
                                have zy := zc_n (x := (v39Z + 1)) (by (first | decide +kernel | omega))
                                refine V_iload_n 3 d_Mod_findCrash_93 rfl rfl ?_
                                refine V_iconst 1 d_Mod_findCrash_94 (by decide) ?_
                                refine V_iload d_Mod_findCrash_95 rfl ?_
                                refine N_ishl d_Mod_findCrash_97 (fun z150 z150Z z150E z150e => ?_)
                                refine N_ior d_Mod_findCrash_98 (fun z151 z151Z z151E z151e => ?_)
                                refine V_istore_n 3 [some (.ref 116), some (.int v), some (.int m), some (.int z151), some (.int v56), some (.int 1)] d_Mod_findCrash_99 rfl (by decide) rfl rfl ?_
                                refine V_iconst 1 d_Mod_findCrash_100 (by decide) ?_
                                refine V_istore 4 [some (.ref 116), some (.int v), some (.int m), some (.int z151), some (.int 1), some (.int 1)] d_Mod_findCrash_101 (by decide) rfl rfl ?_
                                have hq9 : HS (SR (FLV h vZ mZ tZ.toNat)) 1 ((v39Z).toNat + 1) ((v39Z + 1)) 0 := by have q9 := HS_g (fl := (FLV h vZ mZ tZ.toNat)) (none := 0) hg9 hn9; rw [show (((v39Z).toNat : Nat) : Int) + 1 = (v39Z + 1) by (first | decide +kernel | omega)] at q9; exact q9
                                refine V_iinc (v := 2) 5 [some (.ref 116), some (.int v), some (.int m), some (.int z151), some (.int 1), some (.int 2)] d_Mod_findCrash_103 rfl (by decide) (by decide) rfl rfl ?_
                                refine V_goto 44 d_Mod_findCrash_106 (by decide) ?_
                                exact ihL53 z151 z151Z 1 1 2 2 h147 v61 v61Z z146 ((v39Z + 1)) v65 v65Z v67 v67Z z151E tc_1 tc_2 hI148 f149 (kn_ne eh147 K59 (by decide)) (kn_ne eh147 K60 (by decide)) v61E (kn_nei eh147 K62 (by decide)) z146E (kn_put eh147) v65E (kn_nei eh147 K66 (by decide)) v67E (kn_nei eh147 K68 (by decide)) (by (first | decide +kernel | omega)) (by (first | decide +kernel | omega)) (zc_b _) (zc_b _) (zc_b _) (zc_b _) (by (first | decide +kernel | omega)) (FW_s1 hF9 hq9) (SB_g (k := 1) hB9 rfl (by decide) hg9 z150e z151e) (ON_g (k := 1) hg9 hn9) (by (first | decide +kernel | omega))
                        ·
                          obtain rfl : v57 = 2 := (ti_eq v57E tc_2).mpr c96
                          subst c96
                          have hF9 : FW (SR (FLV h vZ mZ tZ.toNat)) (v39Z).toNat 2 v61Z v63Z v65Z v67Z := by assumption
                          have hB9 : BP v55 (SB (SR (FLV h vZ mZ tZ.toNat)) (v39Z).toNat 2) := by assumption
                          have hO9 : ON (SR (FLV h vZ mZ tZ.toNat)) (v39Z).toNat 2 v56Z := by assumption
                          have hH9 : HS (SR (FLV h vZ mZ tZ.toNat)) 2 (v39Z).toNat v65Z 0 := W0_at hF9.2.2.1 (by decide)
                          refine V_aload_n 0 d_Mod_findCrash_50 rfl rfl ?_
                          refine V_getR fa_Mod_38 sk_116 rfl d_Mod_findCrash_51 ?_
                          refine V_iload d_Mod_findCrash_54 rfl ?_
                          refine N_ialdK sk_126 tc_2 (by (first | decide +kernel | omega)) d_Mod_findCrash_56 K66 ?_
                          refine V_if_ne 103 v65E d_Mod_findCrash_57 (by decide) (fun c154 => ?_) (fun c154 => ?_)
                          ·
                            have hs9 : (SR (FLV h vZ mZ tZ.toNat)) ((v39Z).toNat + 1) 2 → (SR (FLV h vZ mZ tZ.toNat)) (v39Z).toNat 2 := fun _ => HS_in hH9 (by (first | decide +kernel | omega))
                            have hq9 : HS (SR (FLV h vZ mZ tZ.toNat)) 2 ((v39Z).toNat + 1) v65Z 0 := HS_n hH9 hs9
                            refine V_iinc (v := 3) 5 [some (.ref 116), some (.int v), some (.int m), some (.int v55), some (.int v56), some (.int 3)] d_Mod_findCrash_103 rfl (by decide) (by decide) rfl rfl ?_
                            refine V_goto 44 d_Mod_findCrash_106 (by decide) ?_
                            exact ihL53 v55 v55Z v56 v56Z 3 3 h58 v61 v61Z v63 v63Z v65 v65Z v67 v67Z v55E v56E tc_3 Ih58 Fh58 K59 K60 v61E K62 v63E K64 v65E K66 v67E K68 (by (first | decide +kernel | omega)) (by (first | decide +kernel | omega)) (zc_b _) (zc_b _) (zc_b _) (zc_b _) (by (first | decide +kernel | omega)) (FW_s2 hF9 hq9) (SB_n (k := 2) hB9 (by decide) hs9) (ON_n (k := 2) hO9 (by decide) hs9) (by (first | decide +kernel | omega))
                          ·
                            have zz := zc_0 (x := v65Z) (by (first | decide +kernel | omega))
                            refine V_aload_n 0 d_Mod_findCrash_60 rfl rfl ?_
                            refine V_iload d_Mod_findCrash_61 rfl ?_
                            refine V_iload d_Mod_findCrash_63 rfl ?_
                            refine V_iload_n 1 d_Mod_findCrash_65 rfl rfl ?_
                            refine V_icmp_ne 73 tc_2 vE d_Mod_findCrash_66 (by decide) (fun c156 => ?_) (fun c156 => ?_)
                            ·
                              refine V_iconst 0 d_Mod_findCrash_73 (by decide) ?_
                              refine N_callVI [.int 2, .int 0] [] cv_Mod_308 sk_116 rfl d_Mod_findCrash_74 rfl (Nat.le_of_ble_eq_true rfl) (by decide) (by decide) (c_Mod_failsX h58 ((SR (FLV h vZ mZ tZ.toNat)) (v39Z).toNat) Ih58 2 2 tc_2 0 0 tc_0 v39 v39Z v39E K59 t tZ tE K60 (by (first | decide +kernel | omega)) (by (first | decide +kernel | omega)) (FW_F hF9 (by (first | decide +kernel | omega)) K62 K64 K66 K68 v61E v63E v65E v67E) (by rw [show h58.1 117 = h.1 117 from funext (fun i => Fh58.1 117 i rfl)]; exact hy1) (by rw [show h58.1 117 = h.1 117 from funext (fun i => Fh58.1 117 i rfl)]; exact hy2)) (fun z157 h158 z157Z z157E p159 => ?_)
                              obtain ⟨eh158, p159⟩ := p159
                              subst eh158
                              have := twR_01 p159
                              have hfl : twR z157 ((FLV h vZ mZ tZ.toNat) ((SR (FLV h vZ mZ tZ.toNat)) (v39Z).toNat) 2) := twR_cg p159 (by show (0 < LM h58 ((SR (FLV h vZ mZ tZ.toNat)) (v39Z).toNat) 2 tZ.toNat - 0) ↔ 0 < LM h ((SR (FLV h vZ mZ tZ.toNat)) (v39Z).toNat) ((2 : Nat) : Int) tZ.toNat - (if ((2 : Nat) : Int) = vZ then mZ else 0); rw [LM_fr Fh58 rfl, if_neg (by (first | decide +kernel | omega))]; first | done | exact Iff.rfl)
                              refine V_if_eq 103 z157E d_Mod_findCrash_77 (by decide) (fun c160 => ?_) (fun c160 => ?_)
                              ·
                                have hs9 : (SR (FLV h vZ mZ tZ.toNat)) ((v39Z).toNat + 1) 2 → (SR (FLV h vZ mZ tZ.toNat)) (v39Z).toNat 2 := fun q => q.elim id (fun w => absurd w.2 (hfl.resolve_left (fun q => absurd q.1 (by (first | decide +kernel | omega)))).2)
                                have hq9 : HS (SR (FLV h vZ mZ tZ.toNat)) 2 ((v39Z).toNat + 1) v65Z 0 := HS_n hH9 hs9
                                refine V_iinc (v := 3) 5 [some (.ref 116), some (.int v), some (.int m), some (.int v55), some (.int v56), some (.int 3)] d_Mod_findCrash_103 rfl (by decide) (by decide) rfl rfl ?_
                                refine V_goto 44 d_Mod_findCrash_106 (by decide) ?_
                                exact ihL53 v55 v55Z v56 v56Z 3 3 h58 v61 v61Z v63 v63Z v65 v65Z v67 v67Z v55E v56E tc_3 Ih58 Fh58 K59 K60 v61E K62 v63E K64 v65E K66 v67E K68 (by (first | decide +kernel | omega)) (by (first | decide +kernel | omega)) (zc_b _) (zc_b _) (zc_b _) (zc_b _) (by (first | decide +kernel | omega)) (FW_s2 hF9 hq9) (SB_n (k := 2) hB9 (by decide) hs9) (ON_n (k := 2) hO9 (by decide) hs9) (by (first | decide +kernel | omega))
                              ·
                                have hg9 : (SR (FLV h vZ mZ tZ.toNat)) ((v39Z).toNat + 1) 2 := Or.inr ⟨by decide, (hfl.resolve_right (fun q => absurd q.1 (by (first | decide +kernel | omega)))).2⟩
                                have hn9 : ¬ (SR (FLV h vZ mZ tZ.toNat)) (v39Z).toNat 2 := HS_out hH9 (by (first | decide +kernel | omega))
                                refine V_aload_n 0 d_Mod_findCrash_80 rfl rfl ?_
                                refine V_getR fa_Mod_38 sk_116 rfl d_Mod_findCrash_81 ?_
                                refine V_iload d_Mod_findCrash_84 rfl ?_
                                refine V_aload_n 0 d_Mod_findCrash_86 rfl rfl ?_
                                refine N_getK fa_Mod_305 sk_116 rfl d_Mod_findCrash_87 K59 ?_
                                refine V_iconst 1 d_Mod_findCrash_90 (by decide) ?_
                                refine V_iadd v39E tc_1 (by (first | decide +kernel | omega)) d_Mod_findCrash_91 (fun z162 z162e z162E => ?_)
                                refine N_iast sk_126 tc_2 (by (first | decide +kernel | omega)) d_Mod_findCrash_92 (fun h163 eh163 => ?_)
                                have hI164 : Inv h163 := inv_full Ih58 eh163 rfl
                                have f165 : fr S_Mod_findCrashX h h163 := fr_put Fh58 eh163 rfl
                                have zy := zc_n (x := (v39Z + 1)) (by (first | decide +kernel | omega))
                                refine V_iload_n 3 d_Mod_findCrash_93 rfl rfl ?_
                                refine V_iconst 1 d_Mod_findCrash_94 (by decide) ?_
                                refine V_iload d_Mod_findCrash_95 rfl ?_
                                refine N_ishl d_Mod_findCrash_97 (fun z166 z166Z z166E z166e => ?_)
                                refine N_ior d_Mod_findCrash_98 (fun z167 z167Z z167E z167e => ?_)
                                refine V_istore_n 3 [some (.ref 116), some (.int v), some (.int m), some (.int z167), some (.int v56), some (.int 2)] d_Mod_findCrash_99 rfl (by decide) rfl rfl ?_
                                refine V_iconst 1 d_Mod_findCrash_100 (by decide) ?_
                                refine V_istore 4 [some (.ref 116), some (.int v), some (.int m), some (.int z167), some (.int 1), some (.int 2)] d_Mod_findCrash_101 (by decide) rfl rfl ?_
                                have hq9 : HS (SR (FLV h vZ mZ tZ.toNat)) 2 ((v39Z).toNat + 1) ((v39Z + 1)) 0 := by have q9 := HS_g (fl := (FLV h vZ mZ tZ.toNat)) (none := 0) hg9 hn9; rw [show (((v39Z).toNat : Nat) : Int) + 1 = (v39Z + 1) by (first | decide +kernel | omega)] at q9; exact q9
                                refine V_iinc (v := 3) 5 [some (.ref 116), some (.int v), some (.int m), some (.int z167), some (.int 1), some (.int 3)] d_Mod_findCrash_103 rfl (by decide) (by decide) rfl rfl ?_
                                refine V_goto 44 d_Mod_findCrash_106 (by decide) ?_
                                exact ihL53 z167 z167Z 1 1 3 3 h163 v61 v61Z v63 v63Z z162 ((v39Z + 1)) v67 v67Z z167E tc_1 tc_3 hI164 f165 (kn_ne eh163 K59 (by decide)) (kn_ne eh163 K60 (by decide)) v61E (kn_nei eh163 K62 (by decide)) v63E (kn_nei eh163 K64 (by decide)) z162E (kn_put eh163) v67E (kn_nei eh163 K68 (by decide)) (by (first | decide +kernel | omega)) (by (first | decide +kernel | omega)) (zc_b _) (zc_b _) (zc_b _) (zc_b _) (by (first | decide +kernel | omega)) (FW_s2 hF9 hq9) (SB_g (k := 2) hB9 rfl (by decide) hg9 z166e z167e) (ON_g (k := 2) hg9 hn9) (by (first | decide +kernel | omega))
                            ·
                              refine V_iload_n 2 d_Mod_findCrash_69 rfl rfl ?_
                              refine V_goto 74 d_Mod_findCrash_70 (by decide) ?_
                              refine N_callVI [.int 2, .int m] [] cv_Mod_308 sk_116 rfl d_Mod_findCrash_74 rfl (Nat.le_of_ble_eq_true rfl) (by decide) (by decide) (c_Mod_failsX h58 ((SR (FLV h vZ mZ tZ.toNat)) (v39Z).toNat) Ih58 2 2 tc_2 m mZ mE v39 v39Z v39E K59 t tZ tE K60 (by (first | decide +kernel | omega)) (by (first | decide +kernel | omega)) (FW_F hF9 (by (first | decide +kernel | omega)) K62 K64 K66 K68 v61E v63E v65E v67E) (by rw [show h58.1 117 = h.1 117 from funext (fun i => Fh58.1 117 i rfl)]; exact hy1) (by rw [show h58.1 117 = h.1 117 from funext (fun i => Fh58.1 117 i rfl)]; exact hy2)) (fun z169 h170 z169Z z169E p171 => ?_)
                              obtain ⟨eh170, p171⟩ := p171
                              subst eh170
                              have := twR_01 p171
                              have hfl : twR z169 ((FLV h vZ mZ tZ.toNat) ((SR (FLV h vZ mZ tZ.toNat)) (v39Z).toNat) 2) := twR_cg p171 (by show (0 < LM h58 ((SR (FLV h vZ mZ tZ.toNat)) (v39Z).toNat) 2 tZ.toNat - mZ) ↔ 0 < LM h ((SR (FLV h vZ mZ tZ.toNat)) (v39Z).toNat) ((2 : Nat) : Int) tZ.toNat - (if ((2 : Nat) : Int) = vZ then mZ else 0); rw [LM_fr Fh58 rfl, if_pos (by (first | decide +kernel | omega))]; first | done | exact Iff.rfl)
                              refine V_if_eq 103 z169E d_Mod_findCrash_77 (by decide) (fun c172 => ?_) (fun c172 => ?_)
                              ·
                                have hs9 : (SR (FLV h vZ mZ tZ.toNat)) ((v39Z).toNat + 1) 2 → (SR (FLV h vZ mZ tZ.toNat)) (v39Z).toNat 2 := fun q => q.elim id (fun w => absurd w.2 (hfl.resolve_left (fun q => absurd q.1 (by (first | decide +kernel | omega)))).2)
                                have hq9 : HS (SR (FLV h vZ mZ tZ.toNat)) 2 ((v39Z).toNat + 1) v65Z 0 := HS_n hH9 hs9
                                refine V_iinc (v := 3) 5 [some (.ref 116), some (.int v), some (.int m), some (.int v55), some (.int v56), some (.int 3)] d_Mod_findCrash_103 rfl (by decide) (by decide) rfl rfl ?_
                                refine V_goto 44 d_Mod_findCrash_106 (by decide) ?_
                                exact ihL53 v55 v55Z v56 v56Z 3 3 h58 v61 v61Z v63 v63Z v65 v65Z v67 v67Z v55E v56E tc_3 Ih58 Fh58 K59 K60 v61E K62 v63E K64 v65E K66 v67E K68 (by (first | decide +kernel | omega)) (by (first | decide +kernel | omega)) (zc_b _) (zc_b _) (zc_b _) (zc_b _) (by (first | decide +kernel | omega)) (FW_s2 hF9 hq9) (SB_n (k := 2) hB9 (by decide) hs9) (ON_n (k := 2) hO9 (by decide) hs9) (by (first | decide +kernel | omega))
                              ·
                                have hg9 : (SR (FLV h vZ mZ tZ.toNat)) ((v39Z).toNat + 1) 2 := Or.inr ⟨by decide, (hfl.resolve_right (fun q => absurd q.1 (by (first | decide +kernel | omega)))).2⟩
                                have hn9 : ¬ (SR (FLV h vZ mZ tZ.toNat)) (v39Z).toNat 2 := HS_out hH9 (by (first | decide +kernel | omega))
                                refine V_aload_n 0 d_Mod_findCrash_80 rfl rfl ?_
                                refine V_getR fa_Mod_38 sk_116 rfl d_Mod_findCrash_81 ?_
                                refine V_iload d_Mod_findCrash_84 rfl ?_
                                refine V_aload_n 0 d_Mod_findCrash_86 rfl rfl ?_
                                refine N_getK fa_Mod_305 sk_116 rfl d_Mod_findCrash_87 K59 ?_
                                refine V_iconst 1 d_Mod_findCrash_90 (by decide) ?_
                                refine V_iadd v39E tc_1 (by (first | decide +kernel | omega)) d_Mod_findCrash_91 (fun z174 z174e z174E => ?_)
                                refine N_iast sk_126 tc_2 (by (first | decide +kernel | omega)) d_Mod_findCrash_92 (fun h175 eh175 => ?_)
                                have hI176 : Inv h175 := inv_full Ih58 eh175 rfl
                                have f177 : fr S_Mod_findCrashX h h175 := fr_put Fh58 eh175 rfl
                                have zy := zc_n (x := (v39Z + 1)) (by (first | decide +kernel | omega))
                                refine V_iload_n 3 d_Mod_findCrash_93 rfl rfl ?_
                                refine V_iconst 1 d_Mod_findCrash_94 (by decide) ?_
                                refine V_iload d_Mod_findCrash_95 rfl ?_
                                refine N_ishl d_Mod_findCrash_97 (fun z178 z178Z z178E z178e => ?_)
                                refine N_ior d_Mod_findCrash_98 (fun z179 z179Z z179E z179e => ?_)
                                refine V_istore_n 3 [some (.ref 116), some (.int v), some (.int m), some (.int z179), some (.int v56), some (.int 2)] d_Mod_findCrash_99 rfl (by decide) rfl rfl ?_
                                refine V_iconst 1 d_Mod_findCrash_100 (by decide) ?_
                                refine V_istore 4 [some (.ref 116), some (.int v), some (.int m), some (.int z179), some (.int 1), some (.int 2)] d_Mod_findCrash_101 (by decide) rfl rfl ?_
                                have hq9 : HS (SR (FLV h vZ mZ tZ.toNat)) 2 ((v39Z).toNat + 1) ((v39Z + 1)) 0 := by have q9 := HS_g (fl := (FLV h vZ mZ tZ.toNat)) (none := 0) hg9 hn9; rw [show (((v39Z).toNat : Nat) : Int) + 1 = (v39Z + 1) by (first | decide +kernel | omega)] at q9; exact q9
                                refine V_iinc (v := 3) 5 [some (.ref 116), some (.int v), some (.int m), some (.int z179), some (.int 1), some (.int 3)] d_Mod_findCrash_103 rfl (by decide) (by decide) rfl rfl ?_
                                refine V_goto 44 d_Mod_findCrash_106 (by decide) ?_
                                exact ihL53 z179 z179Z 1 1 3 3 h175 v61 v61Z v63 v63Z z174 ((v39Z + 1)) v67 v67Z z179E tc_1 tc_3 hI176 f177 (kn_ne eh175 K59 (by decide)) (kn_ne eh175 K60 (by decide)) v61E (kn_nei eh175 K62 (by decide)) v63E (kn_nei eh175 K64 (by decide)) z174E (kn_put eh175) v67E (kn_nei eh175 K68 (by decide)) (by (first | decide +kernel | omega)) (by (first | decide +kernel | omega)) (zc_b _) (zc_b _) (zc_b _) (zc_b _) (by (first | decide +kernel | omega)) (FW_s2 hF9 hq9) (SB_g (k := 2) hB9 rfl (by decide) hg9 z178e z179e) (ON_g (k := 2) hg9 hn9) (by (first | decide +kernel | omega))
                        ·
                          obtain rfl : v57 = 3 := (ti_eq v57E tc_3).mpr c96
                          subst c96
                          have hF9 : FW (SR (FLV h vZ mZ tZ.toNat)) (v39Z).toNat 3 v61Z v63Z v65Z v67Z := by assumption
                          have hB9 : BP v55 (SB (SR (FLV h vZ mZ tZ.toNat)) (v39Z).toNat 3) := by assumption
                          have hO9 : ON (SR (FLV h vZ mZ tZ.toNat)) (v39Z).toNat 3 v56Z := by assumption
                          have hH9 : HS (SR (FLV h vZ mZ tZ.toNat)) 3 (v39Z).toNat v67Z 0 := W0_at hF9.2.2.2 (by decide)
                          refine V_aload_n 0 d_Mod_findCrash_50 rfl rfl ?_
                          refine V_getR fa_Mod_38 sk_116 rfl d_Mod_findCrash_51 ?_
                          refine V_iload d_Mod_findCrash_54 rfl ?_
                          refine N_ialdK sk_126 tc_3 (by (first | decide +kernel | omega)) d_Mod_findCrash_56 K68 ?_
                          refine V_if_ne 103 v67E d_Mod_findCrash_57 (by decide) (fun c182 => ?_) (fun c182 => ?_)
                          ·
                            have hs9 : (SR (FLV h vZ mZ tZ.toNat)) ((v39Z).toNat + 1) 3 → (SR (FLV h vZ mZ tZ.toNat)) (v39Z).toNat 3 := fun _ => HS_in hH9 (by (first | decide +kernel | omega))
                            have hq9 : HS (SR (FLV h vZ mZ tZ.toNat)) 3 ((v39Z).toNat + 1) v67Z 0 := HS_n hH9 hs9
                            refine V_iinc (v := 4) 5 [some (.ref 116), some (.int v), some (.int m), some (.int v55), some (.int v56), some (.int 4)] d_Mod_findCrash_103 rfl (by decide) (by decide) rfl rfl ?_
                            refine V_goto 44 d_Mod_findCrash_106 (by decide) ?_
                            exact ihL53 v55 v55Z v56 v56Z 4 4 h58 v61 v61Z v63 v63Z v65 v65Z v67 v67Z v55E v56E tc_4 Ih58 Fh58 K59 K60 v61E K62 v63E K64 v65E K66 v67E K68 (by (first | decide +kernel | omega)) (by (first | decide +kernel | omega)) (zc_b _) (zc_b _) (zc_b _) (zc_b _) (by (first | decide +kernel | omega)) (FW_s3 hF9 hq9) (SB_n (k := 3) hB9 (by decide) hs9) (ON_n (k := 3) hO9 (by decide) hs9) (by (first | decide +kernel | omega))
                          ·
                            have zz := zc_0 (x := v67Z) (by (first | decide +kernel | omega))
                            refine V_aload_n 0 d_Mod_findCrash_60 rfl rfl ?_
                            refine V_iload d_Mod_findCrash_61 rfl ?_
                            refine V_iload d_Mod_findCrash_63 rfl ?_
                            refine V_iload_n 1 d_Mod_findCrash_65 rfl rfl ?_
                            refine V_icmp_ne 73 tc_3 vE d_Mod_findCrash_66 (by decide) (fun c184 => ?_) (fun c184 => ?_)
                            ·
                              refine V_iconst 0 d_Mod_findCrash_73 (by decide) ?_
                              refine N_callVI [.int 3, .int 0] [] cv_Mod_308 sk_116 rfl d_Mod_findCrash_74 rfl (Nat.le_of_ble_eq_true rfl) (by decide) (by decide) (c_Mod_failsX h58 ((SR (FLV h vZ mZ tZ.toNat)) (v39Z).toNat) Ih58 3 3 tc_3 0 0 tc_0 v39 v39Z v39E K59 t tZ tE K60 (by (first | decide +kernel | omega)) (by (first | decide +kernel | omega)) (FW_F hF9 (by (first | decide +kernel | omega)) K62 K64 K66 K68 v61E v63E v65E v67E) (by rw [show h58.1 117 = h.1 117 from funext (fun i => Fh58.1 117 i rfl)]; exact hy1) (by rw [show h58.1 117 = h.1 117 from funext (fun i => Fh58.1 117 i rfl)]; exact hy2)) (fun z185 h186 z185Z z185E p187 => ?_)
                              obtain ⟨eh186, p187⟩ := p187
                              subst eh186
                              have := twR_01 p187
                              have hfl : twR z185 ((FLV h vZ mZ tZ.toNat) ((SR (FLV h vZ mZ tZ.toNat)) (v39Z).toNat) 3) := twR_cg p187 (by show (0 < LM h58 ((SR (FLV h vZ mZ tZ.toNat)) (v39Z).toNat) 3 tZ.toNat - 0) ↔ 0 < LM h ((SR (FLV h vZ mZ tZ.toNat)) (v39Z).toNat) ((3 : Nat) : Int) tZ.toNat - (if ((3 : Nat) : Int) = vZ then mZ else 0); rw [LM_fr Fh58 rfl, if_neg (by (first | decide +kernel | omega))]; first | done | exact Iff.rfl)
                              refine V_if_eq 103 z185E d_Mod_findCrash_77 (by decide) (fun c188 => ?_) (fun c188 => ?_)
                              ·
                                have hs9 : (SR (FLV h vZ mZ tZ.toNat)) ((v39Z).toNat + 1) 3 → (SR (FLV h vZ mZ tZ.toNat)) (v39Z).toNat 3 := fun q => q.elim id (fun w => absurd w.2 (hfl.resolve_left (fun q => absurd q.1 (by (first | decide +kernel | omega)))).2)
                                have hq9 : HS (SR (FLV h vZ mZ tZ.toNat)) 3 ((v39Z).toNat + 1) v67Z 0 := HS_n hH9 hs9
                                refine V_iinc (v := 4) 5 [some (.ref 116), some (.int v), some (.int m), some (.int v55), some (.int v56), some (.int 4)] d_Mod_findCrash_103 rfl (by decide) (by decide) rfl rfl ?_
                                refine V_goto 44 d_Mod_findCrash_106 (by decide) ?_
                                exact ihL53 v55 v55Z v56 v56Z 4 4 h58 v61 v61Z v63 v63Z v65 v65Z v67 v67Z v55E v56E tc_4 Ih58 Fh58 K59 K60 v61E K62 v63E K64 v65E K66 v67E K68 (by (first | decide +kernel | omega)) (by (first | decide +kernel | omega)) (zc_b _) (zc_b _) (zc_b _) (zc_b _) (by (first | decide +kernel | omega)) (FW_s3 hF9 hq9) (SB_n (k := 3) hB9 (by decide) hs9) (ON_n (k := 3) hO9 (by decide) hs9) (by (first | decide +kernel | omega))
                              ·
                                have hg9 : (SR (FLV h vZ mZ tZ.toNat)) ((v39Z).toNat + 1) 3 := Or.inr ⟨by decide, (hfl.resolve_right (fun q => absurd q.1 (by (first | decide +kernel | omega)))).2⟩
                                have hn9 : ¬ (SR (FLV h vZ mZ tZ.toNat)) (v39Z).toNat 3 := HS_out hH9 (by (first | decide +kernel | omega))
                                refine V_aload_n 0 d_Mod_findCrash_80 rfl rfl ?_
                                refine V_getR fa_Mod_38 sk_116 rfl d_Mod_findCrash_81 ?_
                                refine V_iload d_Mod_findCrash_84 rfl ?_
                                refine V_aload_n 0 d_Mod_findCrash_86 rfl rfl ?_
                                refine N_getK fa_Mod_305 sk_116 rfl d_Mod_findCrash_87 K59 ?_
                                refine V_iconst 1 d_Mod_findCrash_90 (by decide) ?_
                                refine V_iadd v39E tc_1 (by (first | decide +kernel | omega)) d_Mod_findCrash_91 (fun z190 z190e z190E => ?_)
                                refine N_iast sk_126 tc_3 (by (first | decide +kernel | omega)) d_Mod_findCrash_92 (fun h191 eh191 => ?_)
                                have hI192 : Inv h191 := inv_full Ih58 eh191 rfl
                                have f193 : fr S_Mod_findCrashX h h191 := fr_put Fh58 eh191 rfl
                                have zy := zc_n (x := (v39Z + 1)) (by (first | decide +kernel | omega))
                                refine V_iload_n 3 d_Mod_findCrash_93 rfl rfl ?_
                                refine V_iconst 1 d_Mod_findCrash_94 (by decide) ?_
                                refine V_iload d_Mod_findCrash_95 rfl ?_
                                refine N_ishl d_Mod_findCrash_97 (fun z194 z194Z z194E z194e => ?_)
                                refine N_ior d_Mod_findCrash_98 (fun z195 z195Z z195E z195e => ?_)
                                refine V_istore_n 3 [some (.ref 116), some (.int v), some (.int m), some (.int z195), some (.int v56), some (.int 3)] d_Mod_findCrash_99 rfl (by decide) rfl rfl ?_
                                refine V_iconst 1 d_Mod_findCrash_100 (by decide) ?_
                                refine V_istore 4 [some (.ref 116), some (.int v), some (.int m), some (.int z195), some (.int 1), some (.int 3)] d_Mod_findCrash_101 (by decide) rfl rfl ?_
                                have hq9 : HS (SR (FLV h vZ mZ tZ.toNat)) 3 ((v39Z).toNat + 1) ((v39Z + 1)) 0 := by have q9 := HS_g (fl := (FLV h vZ mZ tZ.toNat)) (none := 0) hg9 hn9; rw [show (((v39Z).toNat : Nat) : Int) + 1 = (v39Z + 1) by (first | decide +kernel | omega)] at q9; exact q9
                                refine V_iinc (v := 4) 5 [some (.ref 116), some (.int v), some (.int m), some (.int z195), some (.int 1), some (.int 4)] d_Mod_findCrash_103 rfl (by decide) (by decide) rfl rfl ?_
                                refine V_goto 44 d_Mod_findCrash_106 (by decide) ?_
                                exact ihL53 z195 z195Z 1 1 4 4 h191 v61 v61Z v63 v63Z v65 v65Z z190 ((v39Z + 1)) z195E tc_1 tc_4 hI192 f193 (kn_ne eh191 K59 (by decide)) (kn_ne eh191 K60 (by decide)) v61E (kn_nei eh191 K62 (by decide)) v63E (kn_nei eh191 K64 (by decide)) v65E (kn_nei eh191 K66 (by decide)) z190E (kn_put eh191) (by (first | decide +kernel | omega)) (by (first | decide +kernel | omega)) (zc_b _) (zc_b _) (zc_b _) (zc_b _) (by (first | decide +kernel | omega)) (FW_s3 hF9 hq9) (SB_g (k := 3) hB9 rfl (by decide) hg9 z194e z195e) (ON_g (k := 3) hg9 hn9) (by (first | decide +kernel | omega))
                            ·
                              refine V_iload_n 2 d_Mod_findCrash_69 rfl rfl ?_
                              refine V_goto 74 d_Mod_findCrash_70 (by decide) ?_
                              refine N_callVI [.int 3, .int m] [] cv_Mod_308 sk_116 rfl d_Mod_findCrash_74 rfl (Nat.le_of_ble_eq_true rfl) (by decide) (by decide) (c_Mod_failsX h58 ((SR (FLV h vZ mZ tZ.toNat)) (v39Z).toNat) Ih58 3 3 tc_3 m mZ mE v39 v39Z v39E K59 t tZ tE K60 (by (first | decide +kernel | omega)) (by (first | decide +kernel | omega)) (FW_F hF9 (by (first | decide +kernel | omega)) K62 K64 K66 K68 v61E v63E v65E v67E) (by rw [show h58.1 117 = h.1 117 from funext (fun i => Fh58.1 117 i rfl)]; exact hy1) (by rw [show h58.1 117 = h.1 117 from funext (fun i => Fh58.1 117 i rfl)]; exact hy2)) (fun z197 h198 z197Z z197E p199 => ?_)
                              obtain ⟨eh198, p199⟩ := p199
                              subst eh198
                              have := twR_01 p199
                              have hfl : twR z197 ((FLV h vZ mZ tZ.toNat) ((SR (FLV h vZ mZ tZ.toNat)) (v39Z).toNat) 3) := twR_cg p199 (by show (0 < LM h58 ((SR (FLV h vZ mZ tZ.toNat)) (v39Z).toNat) 3 tZ.toNat - mZ) ↔ 0 < LM h ((SR (FLV h vZ mZ tZ.toNat)) (v39Z).toNat) ((3 : Nat) : Int) tZ.toNat - (if ((3 : Nat) : Int) = vZ then mZ else 0); rw [LM_fr Fh58 rfl, if_pos (by (first | decide +kernel | omega))]; first | done | exact Iff.rfl)
                              refine V_if_eq 103 z197E d_Mod_findCrash_77 (by decide) (fun c200 => ?_) (fun c200 => ?_)
                              ·
                                have hs9 : (SR (FLV h vZ mZ tZ.toNat)) ((v39Z).toNat + 1) 3 → (SR (FLV h vZ mZ tZ.toNat)) (v39Z).toNat 3 := fun q => q.elim id (fun w => absurd w.2 (hfl.resolve_left (fun q => absurd q.1 (by (first | decide +kernel | omega)))).2)
                                have hq9 : HS (SR (FLV h vZ mZ tZ.toNat)) 3 ((v39Z).toNat + 1) v67Z 0 := HS_n hH9 hs9
                                refine V_iinc (v := 4) 5 [some (.ref 116), some (.int v), some (.int m), some (.int v55), some (.int v56), some (.int 4)] d_Mod_findCrash_103 rfl (by decide) (by decide) rfl rfl ?_
                                refine V_goto 44 d_Mod_findCrash_106 (by decide) ?_
                                exact ihL53 v55 v55Z v56 v56Z 4 4 h58 v61 v61Z v63 v63Z v65 v65Z v67 v67Z v55E v56E tc_4 Ih58 Fh58 K59 K60 v61E K62 v63E K64 v65E K66 v67E K68 (by (first | decide +kernel | omega)) (by (first | decide +kernel | omega)) (zc_b _) (zc_b _) (zc_b _) (zc_b _) (by (first | decide +kernel | omega)) (FW_s3 hF9 hq9) (SB_n (k := 3) hB9 (by decide) hs9) (ON_n (k := 3) hO9 (by decide) hs9) (by (first | decide +kernel | omega))
                              ·
                                have hg9 : (SR (FLV h vZ mZ tZ.toNat)) ((v39Z).toNat + 1) 3 := Or.inr ⟨by decide, (hfl.resolve_right (fun q => absurd q.1 (by (first | decide +kernel | omega)))).2⟩
                                have hn9 : ¬ (SR (FLV h vZ mZ tZ.toNat)) (v39Z).toNat 3 := HS_out hH9 (by (first | decide +kernel | omega))
                                refine V_aload_n 0 d_Mod_findCrash_80 rfl rfl ?_
                                refine V_getR fa_Mod_38 sk_116 rfl d_Mod_findCrash_81 ?_
                                refine V_iload d_Mod_findCrash_84 rfl ?_
                                refine V_aload_n 0 d_Mod_findCrash_86 rfl rfl ?_
                                refine N_getK fa_Mod_305 sk_116 rfl d_Mod_findCrash_87 K59 ?_
                                refine V_iconst 1 d_Mod_findCrash_90 (by decide) ?_
                                refine V_iadd v39E tc_1 (by (first | decide +kernel | omega)) d_Mod_findCrash_91 (fun z202 z202e z202E => ?_)
                                refine N_iast sk_126 tc_3 (by (first | decide +kernel | omega)) d_Mod_findCrash_92 (fun h203 eh203 => ?_)
                                have hI204 : Inv h203 := inv_full Ih58 eh203 rfl
                                have f205 : fr S_Mod_findCrashX h h203 := fr_put Fh58 eh203 rfl
                                have zy := zc_n (x := (v39Z + 1)) (by (first | decide +kernel | omega))
                                refine V_iload_n 3 d_Mod_findCrash_93 rfl rfl ?_
                                refine V_iconst 1 d_Mod_findCrash_94 (by decide) ?_
                                refine V_iload d_Mod_findCrash_95 rfl ?_
                                refine N_ishl d_Mod_findCrash_97 (fun z206 z206Z z206E z206e => ?_)
                                refine N_ior d_Mod_findCrash_98 (fun z207 z207Z z207E z207e => ?_)
                                refine V_istore_n 3 [some (.ref 116), some (.int v), some (.int m), some (.int z207), some (.int v56), some (.int 3)] d_Mod_findCrash_99 rfl (by decide) rfl rfl ?_
                                refine V_iconst 1 d_Mod_findCrash_100 (by decide) ?_
                                refine V_istore 4 [some (.ref 116), some (.int v), some (.int m), some (.int z207), some (.int 1), some (.int 3)] d_Mod_findCrash_101 (by decide) rfl rfl ?_
                                have hq9 : HS (SR (FLV h vZ mZ tZ.toNat)) 3 ((v39Z).toNat + 1) ((v39Z + 1)) 0 := by have q9 := HS_g (fl := (FLV h vZ mZ tZ.toNat)) (none := 0) hg9 hn9; rw [show (((v39Z).toNat : Nat) : Int) + 1 = (v39Z + 1) by (first | decide +kernel | omega)] at q9; exact q9
                                refine V_iinc (v := 4) 5 [some (.ref 116), some (.int v), some (.int m), some (.int z207), some (.int 1), some (.int 4)] d_Mod_findCrash_103 rfl (by decide) (by decide) rfl rfl ?_
                                refine V_goto 44 d_Mod_findCrash_106 (by decide) ?_
                                exact ihL53 z207 z207Z 1 1 4 4 h203 v61 v61Z v63 v63Z v65 v65Z z202 ((v39Z + 1)) z207E tc_1 tc_4 hI204 f205 (kn_ne eh203 K59 (by decide)) (kn_ne eh203 K60 (by decide)) v61E (kn_nei eh203 K62 (by decide)) v63E (kn_nei eh203 K64 (by decide)) v65E (kn_nei eh203 K66 (by decide)) z202E (kn_put eh203) (by (first | decide +kernel | omega)) (by (first | decide +kernel | omega)) (zc_b _) (zc_b _) (zc_b _) (zc_b _) (by (first | decide +kernel | omega)) (FW_s3 hF9 hq9) (SB_g (k := 3) hB9 rfl (by decide) hg9 z206e z207e) (ON_g (k := 3) hg9 hn9) (by (first | decide +kernel | omega))
                  exact L53 (Int.toNat ((4 - 0 : Int) + 1)) v27 v27Z 0 0 0 0 h29 v31 v31Z v33 v33Z v35 v35Z v37 v37Z v27E tc_0 tc_0 Ih29 Fh29 K40 K30 v31E K32 v33E K34 v35E K36 v37E K38 (by (first | decide +kernel | omega)) (by (first | decide +kernel | omega)) (zc_b _) (zc_b _) (zc_b _) (zc_b _) (by (first | decide +kernel | omega)) (by assumption) (SB_0 (by assumption)) ON_0 (by (first | decide +kernel | omega))
            refine V_drop 5 [some (.ref 116), some (.int v), some (.int m), some (.int 0), some (.int 1), none] rfl ?_
            exact L25 (Int.toNat ((zc 0 + zc 0 + zc 0 + zc 0 + 1 : Int) + 1)) 0 0 1 1 h20 0 0 0 0 0 0 0 0 0 0 tc_0 tc_1 hI21 f22 (kn_ne eh20 (kn_ne eh15 (kn_ne eh10 (kn_ne eh5 (kn_ne eh1 tK (by decide)) (by decide)) (by decide)) (by decide)) (by decide)) tc_0 (kn_nei eh20 (kn_nei eh15 (kn_nei eh10 (kn_put eh5) (by decide)) (by decide)) (by decide)) tc_0 (kn_nei eh20 (kn_nei eh15 (kn_put eh10) (by decide)) (by decide)) tc_0 (kn_nei eh20 (kn_put eh15) (by decide)) tc_0 (kn_put eh20) tc_0 (kn_ne eh20 (kn_ne eh15 (kn_ne eh10 (kn_ne eh5 (kn_put eh1) (by decide)) (by decide)) (by decide)) (by decide)) (by (first | decide +kernel | omega)) (zc_b _) (zc_b _) (zc_b _) (zc_b _) (by have z0 := zc_0 (x := 0) rfl; omega) FW_0 (BP_cg BP_0 (fun j => Iff.rfl)) RDs_0 (Or.inl rfl) (by (first | decide +kernel | omega))
          ·
            exact absurd c24 (by decide)
def S_Mod_crashX : List (Nat × Option Nat) := [(126, none), (116, some 30)]
abbrev q_Mod_crashX (h : Hp) (a : Int32) (aZ : Int) (t : Int32) (tZ : Int) : Option Value → Hp → Prop := pInt (fun r h' => Inv h' ∧ fr S_Mod_crashX h h' ∧ (CRa (SR (FLV h (-4) 0 tZ.toNat)) aZ r))
set_option maxRecDepth 100000 in
theorem c_Mod_crashX (h : Hp) (hI : Inv h) (a : Int32) (aZ : Int) (aE : a.toInt = aZ) (t : Int32) (tZ : Int) (tE : t.toInt = tZ) (tK : h.1 117 86 = t) (hy0 : ∀ i : Nat, i < 8 → (i : Int) < (h.1 117 86).toInt → 0 ≤ (h.1 117 (89 + 3 * i)).toInt ∧ (h.1 117 (89 + 3 * i)).toInt ≤ 99) (hy1 : ∀ i : Nat, i < 4 → 0 ≤ (h.1 117 (80 + i)).toInt ∧ (h.1 117 (80 + i)).toInt ≤ 999) : Ct y_Mod_crash b_Mod_crash 3 (some .int) 2 51 [.ref 116, .int a] h (q_Mod_crashX h a aZ t tZ) := by
  refine ct_ow R_Mod [some (.ref 116), some (.int a), none] rfl (by decide) rfl (Nat.le_of_ble_eq_true rfl) ?_
  have f0 : fr S_Mod_crashX h h := fr_rf
  refine V_iload_n 1 d_Mod_crash_0 rfl rfl ?_
  refine V_i2l d_Mod_crash_1 (fun z1 z1e z1E => ?_)
  have z1F : z1.toInt = aZ := z1E.trans aE
  refine V_lconst 0 d_Mod_crash_2 (by decide) ?_
  refine V_lconst 1 d_Mod_crash_3 (by decide) ?_
  refine N_callSI [.long z1, .long 0, .long 1] [] cs_Mod_95 d_Mod_crash_4 rfl (Nat.le_of_ble_eq_true rfl) (by decide) (by decide) (c_Mod_in h z1 aZ z1F 0 0 tl_0 1 1 tl_1) (fun z2 h3 z2Z z2E p4 => ?_)
  obtain ⟨eh3, p4⟩ := p4
  subst eh3
  refine V_if_ne 26 z2E d_Mod_crash_7 (by decide) (fun c5 => ?_) (fun c5 => ?_)
  ·
    refine V_aload_n 0 d_Mod_crash_26 rfl rfl ?_
    refine V_bipush (-4) d_Mod_crash_27 (by decide) ?_
    refine V_iconst 0 d_Mod_crash_29 (by decide) ?_
    refine N_callVI [.int (-4), .int 0] [] cv_Mod_311 sk_116 rfl d_Mod_crash_30 rfl (Nat.le_of_ble_eq_true rfl) (by decide) (by decide) (c_Mod_findCrashX h hI (-4) ((-4)) tc_m4 0 0 tc_0 t tZ tE tK (by (first | decide +kernel | omega)) hy0 hy1) (fun z6 h7 z6Z z6E p8 => ?_)
    obtain ⟨hI9, fh7, p8⟩ := p8
    have f10 : fr S_Mod_crashX h h7 := fr_call f0 fh7 rfl
    obtain ⟨R, hb, hd, he, hq, hw⟩ := p8
    refine V_istore_n 2 [some (.ref 116), some (.int a), some (.int z6)] d_Mod_crash_33 rfl (by decide) rfl rfl ?_
    refine V_iload_n 1 d_Mod_crash_34 rfl rfl ?_
    refine V_if_ne 42 aE d_Mod_crash_35 (by decide) (fun c11 => ?_) (fun c11 => ?_)
    ·
      refine V_iload_n 1 d_Mod_crash_42 rfl rfl ?_
      refine V_iconst 1 d_Mod_crash_43 (by decide) ?_
      refine V_icmp_ne 54 aE tc_1 d_Mod_crash_44 (by decide) (fun c12 => ?_) (fun c12 => ?_)
      ·
        refine V_aload_n 0 d_Mod_crash_54 rfl rfl ?_
        refine V_getR fa_Mod_38 sk_116 rfl d_Mod_crash_55 ?_
        refine V_iload_n 1 d_Mod_crash_58 rfl rfl ?_
        refine V_bipush 10 d_Mod_crash_59 (by decide) ?_
        refine V_isub aE tc_10 (by (first | decide +kernel | omega)) d_Mod_crash_61 (fun z13 z13e z13E => ?_)
        refine N_iald sk_126 z13E (by (first | decide +kernel | omega)) d_Mod_crash_62 (fun z14 z14Z z14E z14e => ?_)
        refine V_if_ne 71 z14E d_Mod_crash_63 (by decide) (fun c15 => ?_) (fun c15 => ?_)
        ·
          refine V_aload_n 0 d_Mod_crash_71 rfl rfl ?_
          refine V_getR fa_Mod_38 sk_116 rfl d_Mod_crash_72 ?_
          refine V_iload_n 1 d_Mod_crash_75 rfl rfl ?_
          refine V_bipush 10 d_Mod_crash_76 (by decide) ?_
          refine V_isub aE tc_10 (by (first | decide +kernel | omega)) d_Mod_crash_78 (fun z16 z16e z16E => ?_)
          refine N_iald sk_126 z16E (by (first | decide +kernel | omega)) d_Mod_crash_79 (fun z17 z17Z z17E z17e => ?_)
          have g18 : z17Z = z14Z := by rw [← z17E, ← z14E, z17e, z14e]
          exact V_iret rfl d_Mod_crash_80 ⟨z17, rfl, ⟨hI9, f10, (Or.inl ⟨by (first | decide +kernel | omega), R, ⟨(R : Int), hd, fun q => (by (first | decide +kernel | omega))⟩, he, fun q => (by (first | decide +kernel | omega)), fun q => HS_no (hw (aZ - 10).toNat (by (first | decide +kernel | omega))) (Or.inr ⟨by rw [← z14e, z14E]; omega, by rw [z17e]⟩)⟩)⟩⟩
        ·
          refine V_bipush (-4) d_Mod_crash_66 (by decide) ?_
          refine V_goto 80 d_Mod_crash_68 (by decide) ?_
          exact V_iret rfl d_Mod_crash_80 ⟨(-4), rfl, ⟨hI9, f10, (Or.inl ⟨by (first | decide +kernel | omega), R, ⟨(R : Int), hd, fun q => (by (first | decide +kernel | omega))⟩, he, fun q => (by (first | decide +kernel | omega)), fun q => HS_no (hw (aZ - 10).toNat (by (first | decide +kernel | omega))) (Or.inl ⟨by rw [← z14e, z14E]; omega, tc_m4⟩)⟩)⟩⟩
      ·
        refine V_aload_n 0 d_Mod_crash_47 rfl rfl ?_
        refine N_getI fa_Mod_305 sk_116 rfl d_Mod_crash_48 (fun z19 z19Z z19E z19e => ?_)
        refine V_goto 80 d_Mod_crash_51 (by decide) ?_
        exact V_iret rfl d_Mod_crash_80 ⟨z19, rfl, ⟨hI9, f10, (Or.inl ⟨by (first | decide +kernel | omega), R, ⟨(R : Int), hd, fun q => (by rw [← hq, show h7.1 116 30 = z19 from z19e.symm])⟩, he, fun q => (by (first | decide +kernel | omega)), fun q => (by (first | decide +kernel | omega))⟩)⟩⟩
    ·
      refine V_iload_n 2 d_Mod_crash_38 rfl rfl ?_
      refine V_goto 80 d_Mod_crash_39 (by decide) ?_
      exact V_iret rfl d_Mod_crash_80 ⟨z6, rfl, ⟨hI9, f10, (Or.inl ⟨by (first | decide +kernel | omega), R, ⟨(R : Int), hd, fun q => (by (first | decide +kernel | omega))⟩, he, fun q => hb, fun q => (by (first | decide +kernel | omega))⟩)⟩⟩
  ·
    refine V_iload_n 1 d_Mod_crash_10 rfl rfl ?_
    refine V_i2l d_Mod_crash_11 (fun z20 z20e z20E => ?_)
    have z20F : z20.toInt = aZ := z20E.trans aE
    refine V_ldc2 d_Mod_crash_12 wl_Mod_213 ?_
    refine V_ldc2 d_Mod_crash_15 wl_Mod_275 ?_
    refine N_callSI [.long z20, .long 10, .long 13] [] cs_Mod_95 d_Mod_crash_18 rfl (Nat.le_of_ble_eq_true rfl) (by decide) (by decide) (c_Mod_in h z20 aZ z20F 10 10 tl_10 13 13 tl_13) (fun z21 h22 z21Z z21E p23 => ?_)
    obtain ⟨eh22, p23⟩ := p23
    subst eh22
    refine V_if_ne 26 z21E d_Mod_crash_21 (by decide) (fun c24 => ?_) (fun c24 => ?_)
    ·
      refine V_aload_n 0 d_Mod_crash_26 rfl rfl ?_
      refine V_bipush (-4) d_Mod_crash_27 (by decide) ?_
      refine V_iconst 0 d_Mod_crash_29 (by decide) ?_
      refine N_callVI [.int (-4), .int 0] [] cv_Mod_311 sk_116 rfl d_Mod_crash_30 rfl (Nat.le_of_ble_eq_true rfl) (by decide) (by decide) (c_Mod_findCrashX h hI (-4) ((-4)) tc_m4 0 0 tc_0 t tZ tE tK (by (first | decide +kernel | omega)) hy0 hy1) (fun z25 h26 z25Z z25E p27 => ?_)
      obtain ⟨hI28, fh26, p27⟩ := p27
      have f29 : fr S_Mod_crashX h h26 := fr_call f0 fh26 rfl
      obtain ⟨R, hb, hd, he, hq, hw⟩ := p27
      refine V_istore_n 2 [some (.ref 116), some (.int a), some (.int z25)] d_Mod_crash_33 rfl (by decide) rfl rfl ?_
      refine V_iload_n 1 d_Mod_crash_34 rfl rfl ?_
      refine V_if_ne 42 aE d_Mod_crash_35 (by decide) (fun c30 => ?_) (fun c30 => ?_)
      ·
        refine V_iload_n 1 d_Mod_crash_42 rfl rfl ?_
        refine V_iconst 1 d_Mod_crash_43 (by decide) ?_
        refine V_icmp_ne 54 aE tc_1 d_Mod_crash_44 (by decide) (fun c31 => ?_) (fun c31 => ?_)
        ·
          refine V_aload_n 0 d_Mod_crash_54 rfl rfl ?_
          refine V_getR fa_Mod_38 sk_116 rfl d_Mod_crash_55 ?_
          refine V_iload_n 1 d_Mod_crash_58 rfl rfl ?_
          refine V_bipush 10 d_Mod_crash_59 (by decide) ?_
          refine V_isub aE tc_10 (by (first | decide +kernel | omega)) d_Mod_crash_61 (fun z32 z32e z32E => ?_)
          refine N_iald sk_126 z32E (by (first | decide +kernel | omega)) d_Mod_crash_62 (fun z33 z33Z z33E z33e => ?_)
          refine V_if_ne 71 z33E d_Mod_crash_63 (by decide) (fun c34 => ?_) (fun c34 => ?_)
          ·
            refine V_aload_n 0 d_Mod_crash_71 rfl rfl ?_
            refine V_getR fa_Mod_38 sk_116 rfl d_Mod_crash_72 ?_
            refine V_iload_n 1 d_Mod_crash_75 rfl rfl ?_
            refine V_bipush 10 d_Mod_crash_76 (by decide) ?_
            refine V_isub aE tc_10 (by (first | decide +kernel | omega)) d_Mod_crash_78 (fun z35 z35e z35E => ?_)
            refine N_iald sk_126 z35E (by (first | decide +kernel | omega)) d_Mod_crash_79 (fun z36 z36Z z36E z36e => ?_)
            have g37 : z36Z = z33Z := by rw [← z36E, ← z33E, z36e, z33e]
            exact V_iret rfl d_Mod_crash_80 ⟨z36, rfl, ⟨hI28, f29, (Or.inl ⟨by (first | decide +kernel | omega), R, ⟨(R : Int), hd, fun q => (by (first | decide +kernel | omega))⟩, he, fun q => (by (first | decide +kernel | omega)), fun q => HS_no (hw (aZ - 10).toNat (by (first | decide +kernel | omega))) (Or.inr ⟨by rw [← z33e, z33E]; omega, by rw [z36e]⟩)⟩)⟩⟩
          ·
            refine V_bipush (-4) d_Mod_crash_66 (by decide) ?_
            refine V_goto 80 d_Mod_crash_68 (by decide) ?_
            exact V_iret rfl d_Mod_crash_80 ⟨(-4), rfl, ⟨hI28, f29, (Or.inl ⟨by (first | decide +kernel | omega), R, ⟨(R : Int), hd, fun q => (by (first | decide +kernel | omega))⟩, he, fun q => (by (first | decide +kernel | omega)), fun q => HS_no (hw (aZ - 10).toNat (by (first | decide +kernel | omega))) (Or.inl ⟨by rw [← z33e, z33E]; omega, tc_m4⟩)⟩)⟩⟩
        ·
          refine V_aload_n 0 d_Mod_crash_47 rfl rfl ?_
          refine N_getI fa_Mod_305 sk_116 rfl d_Mod_crash_48 (fun z38 z38Z z38E z38e => ?_)
          refine V_goto 80 d_Mod_crash_51 (by decide) ?_
          exact V_iret rfl d_Mod_crash_80 ⟨z38, rfl, ⟨hI28, f29, (Or.inl ⟨by (first | decide +kernel | omega), R, ⟨(R : Int), hd, fun q => (by rw [← hq, show h26.1 116 30 = z38 from z38e.symm])⟩, he, fun q => (by (first | decide +kernel | omega)), fun q => (by (first | decide +kernel | omega))⟩)⟩⟩
      ·
        refine V_iload_n 2 d_Mod_crash_38 rfl rfl ?_
        refine V_goto 80 d_Mod_crash_39 (by decide) ?_
        exact V_iret rfl d_Mod_crash_80 ⟨z25, rfl, ⟨hI28, f29, (Or.inl ⟨by (first | decide +kernel | omega), R, ⟨(R : Int), hd, fun q => (by (first | decide +kernel | omega))⟩, he, fun q => hb, fun q => (by (first | decide +kernel | omega))⟩)⟩⟩
    ·
      refine V_iconst (-1) d_Mod_crash_24 (by decide) ?_
      exact V_iret rfl d_Mod_crash_25 ⟨(-1), rfl, ⟨hI, f0, (Or.inr ⟨by (first | decide +kernel | omega), tc_m1⟩)⟩⟩
def S_Mod_saveX : List (Nat × Option Nat) := [(126, none), (116, some 30)]
abbrev q_Mod_saveX (h : Hp) (o : Int32) (oZ : Int) (t : Int32) (tZ : Int) : Option Value → Hp → Prop := pInt (fun r h' => Inv h' ∧ fr S_Mod_saveX h h' ∧ ((0 ≤ oZ ∧ oZ ≤ 3) ∧ SVm (fun j => LM h (fun _ => False) j tZ.toNat) oZ r ∨ ¬ (0 ≤ oZ ∧ oZ ≤ 3) ∧ r.toInt = -1))
set_option maxRecDepth 100000 in
theorem c_Mod_saveX (h : Hp) (hI : Inv h) (o : Int32) (oZ : Int) (oE : o.toInt = oZ) (t : Int32) (tZ : Int) (tE : t.toInt = tZ) (tK : h.1 117 86 = t) (hy0 : ∀ i : Nat, i < 8 → (i : Int) < (h.1 117 86).toInt → 0 ≤ (h.1 117 (89 + 3 * i)).toInt ∧ (h.1 117 (89 + 3 * i)).toInt ≤ 99) (hy1 : ∀ i : Nat, i < 4 → 0 ≤ (h.1 117 (80 + i)).toInt ∧ (h.1 117 (80 + i)).toInt ≤ 999) : Ct y_Mod_save b_Mod_save 3 (some .int) 2 51 [.ref 116, .int o] h (q_Mod_saveX h o oZ t tZ) := by
  refine ct_ow R_Mod [some (.ref 116), some (.int o), none] rfl (by decide) rfl (Nat.le_of_ble_eq_true rfl) ?_
  have f0 : fr S_Mod_saveX h h := fr_rf
  refine V_iload_n 1 d_Mod_save_0 rfl rfl ?_
  refine N_callSI [.int o] [] cs_Mod_205 d_Mod_save_1 rfl (Nat.le_of_ble_eq_true rfl) (by decide) (by decide) (c_Mod_isOwner h o oZ oE) (fun z1 h2 z1Z z1E p3 => ?_)
  obtain ⟨eh2, p3⟩ := p3
  subst eh2
  refine V_if_ne 9 z1E d_Mod_save_4 (by decide) (fun c4 => ?_) (fun c4 => ?_)
  ·
    refine V_iconst 0 d_Mod_save_9 (by decide) ?_
    refine V_istore_n 2 [some (.ref 116), some (.int o), some (.int 0)] d_Mod_save_10 rfl (by decide) rfl rfl ?_
    have L5 : ∀ (nn : Nat) (v7 : Int32) (v7Z : Int) (h8 : Hp), v7.toInt = v7Z → Inv h8 → fr S_Mod_saveX h h8 → h8.1 117 86 = t → 0 ≤ v7Z ∧ v7Z ≤ 1000 → (∀ u : Int, 0 ≤ u → u < v7Z → ¬ OKs (fun j => LM h (fun _ => False) j tZ.toNat) oZ u) → 1000 - v7Z < (nn : Int) → V R_Mod b_Mod_save 3 (some .int) 2 51 (q_Mod_saveX h o oZ t tZ) h8 11 [some (.ref 116), some (.int o), some (.int v7)] [] := by
      intro nn
      induction nn with
      | zero => intro v7 v7Z h8 v7E Ih8 Fh8 K9 q10 q11 hm12; exact absurd hm12 (by (first | decide +kernel | omega))
      | succ nn ihL5 =>
        intro v7 v7Z h8 v7E Ih8 Fh8 K9 q10 q11 hm12
        refine V_iload_n 2 d_Mod_save_11 rfl rfl ?_
        refine V_sipush 999 d_Mod_save_12 (by decide) ?_
        refine V_icmp_gt 35 v7E tc_999 d_Mod_save_15 (by decide) (fun c13 => ?_) (fun c13 => ?_)
        ·
          refine V_bipush (-4) d_Mod_save_35 (by decide) ?_
          exact V_iret rfl d_Mod_save_37 ⟨(-4), rfl, ⟨Ih8, Fh8, (Or.inl ⟨by (first | decide +kernel | omega), Or.inr ⟨fun u a b => (show ∀ u : Int, 0 ≤ u → u < v7Z → ¬ OKs (fun j => LM h (fun _ => False) j tZ.toNat) oZ u from by assumption) u a (by (first | decide +kernel | omega)), tc_m4⟩⟩)⟩⟩
        ·
          refine V_aload_n 0 d_Mod_save_18 rfl rfl ?_
          refine V_iload_n 1 d_Mod_save_19 rfl rfl ?_
          refine V_iload_n 2 d_Mod_save_20 rfl rfl ?_
          refine N_callVI [.int o, .int v7] [] cv_Mod_311 sk_116 rfl d_Mod_save_21 rfl (Nat.le_of_ble_eq_true rfl) (by decide) (by decide) (c_Mod_findCrashX h8 Ih8 o oZ oE v7 v7Z v7E t tZ tE K9 (by (first | decide +kernel | omega)) (by rw [show h8.1 117 = h.1 117 from funext (fun i => Fh8.1 117 i rfl)]; exact hy0) (by rw [show h8.1 117 = h.1 117 from funext (fun i => Fh8.1 117 i rfl)]; exact hy1)) (fun z14 h15 z14Z z14E p16 => ?_)
          obtain ⟨hI17, fh15, p16⟩ := p16
          have f18 : fr S_Mod_saveX h h15 := fr_call Fh8 fh15 rfl
          have hz9 : z14Z = 0 ↔ OKs (fun j => LM h (fun _ => False) j tZ.toNat) oZ v7Z := by rw [← z14E]; have q9 := FC_0 p16; rw [FLV_fr Fh8 rfl] at q9; exact q9
          refine V_if_ne 29 z14E d_Mod_save_24 (by decide) (fun c19 => ?_) (fun c19 => ?_)
          ·
            obtain ⟨z20, z20E, z20e⟩ : ∃ y : Int32, y.toInt = v7Z + 1 ∧ y = v7 + Int32.ofInt 1 := ⟨_, ti_add v7E (by decide) (by (first | decide +kernel | omega)), rfl⟩
            refine V_iinc 2 [some (.ref 116), some (.int o), some (.int z20)] d_Mod_save_29 rfl z20e.symm (by decide) rfl rfl ?_
            refine V_goto 11 d_Mod_save_32 (by decide) ?_
            exact ihL5 z20 ((v7Z + 1)) h15 z20E hI17 f18 (kn_call fh15 K9 rfl) (by (first | decide +kernel | omega)) (fun u a b => by by_cases w : u = v7Z; exact (by rw [w]; exact fun q => absurd (hz9.mpr q) (by (first | decide +kernel | omega))); exact (show ∀ u : Int, 0 ≤ u → u < v7Z → ¬ OKs (fun j => LM h (fun _ => False) j tZ.toNat) oZ u from by assumption) u a (by (first | decide +kernel | omega))) (by (first | decide +kernel | omega))
          ·
            refine V_iload_n 2 d_Mod_save_27 rfl rfl ?_
            exact V_iret rfl d_Mod_save_28 ⟨v7, rfl, ⟨hI17, f18, (Or.inl ⟨by (first | decide +kernel | omega), Or.inl ⟨v7Z, by (first | decide +kernel | omega), by (first | decide +kernel | omega), hz9.mp (by (first | decide +kernel | omega)), by assumption, v7E⟩⟩)⟩⟩
    exact L5 (Int.toNat ((1000 - 0 : Int) + 1)) 0 0 h tc_0 hI f0 tK (by (first | decide +kernel | omega)) (fun u a b => by (first | decide +kernel | omega)) (by (first | decide +kernel | omega))
  ·
    refine V_iconst (-1) d_Mod_save_7 (by decide) ?_
    exact V_iret rfl d_Mod_save_8 ⟨(-1), rfl, ⟨hI, f0, (Or.inr ⟨by (first | decide +kernel | omega), tc_m1⟩)⟩⟩
abbrev q_Rod_saveX (h : Hp) (o : Int32) (oZ : Int) (t : Int32) (tZ : Int) : Option Value → Hp → Prop := pInt (fun r h' => h = h' ∧ ((0 ≤ oZ ∧ oZ ≤ 3) ∧ SVc (fun j => LC h (fun _ => False) j tZ.toNat) oZ r ∨ ¬ (0 ≤ oZ ∧ oZ ≤ 3) ∧ r.toInt = -1))
set_option maxRecDepth 100000 in
theorem c_Rod_saveX (h : Hp) (hI : Inv h) (o : Int32) (oZ : Int) (oE : o.toInt = oZ) (t : Int32) (tZ : Int) (tE : t.toInt = tZ) (tK : h.1 7 4 = t) (hy0 : ∀ i : Nat, i < 8 → (i : Int) < (h.1 7 4).toInt → (0 ≤ (h.1 9 i).toInt ∧ (h.1 9 i).toInt ≤ 3) ∧ 0 ≤ (h.1 11 i).toInt ∧ (h.1 11 i).toInt ≤ 99) (hy1 : ∀ i : Nat, i < 4 → 0 ≤ (h.1 8 i).toInt ∧ (h.1 8 i).toInt ≤ 999) : Ct y_Rod_save b_Rod_save 2 (some .int) 2 47 [.ref 85, .int o] h (q_Rod_saveX h o oZ t tZ) := by
  refine ct_ow R_Rod [some (.ref 85), some (.int o)] rfl (by decide) rfl (Nat.le_of_ble_eq_true rfl) ?_
  have f0 : fr [] h h := fr_rf
  have g1 : 0 ≤ tZ ∧ tZ ≤ 8 := inv_at hI tE tK.symm rfl
  refine V_iload_n 1 d_Rod_save_0 rfl rfl ?_
  refine N_callSI [.int o] [] cs_Rod_151 d_Rod_save_1 rfl (Nat.le_of_ble_eq_true rfl) (by decide) (by decide) (c_Rod_isOwner h o oZ oE) (fun z2 h3 z2Z z2E p4 => ?_)
  obtain ⟨eh3, p4⟩ := p4
  subst eh3
  refine V_if_ne 9 z2E d_Rod_save_4 (by decide) (fun c5 => ?_) (fun c5 => ?_)
  ·
    refine V_aload_n 0 d_Rod_save_9 rfl rfl ?_
    refine V_getR fa_Rod_12 sk_85 rfl d_Rod_save_10 ?_
    refine V_getR fa_Rod_115 sk_0 rfl d_Rod_save_13 ?_
    refine V_iconst 0 d_Rod_save_16 (by decide) ?_
    refine N_callVI [.int 0] [] cv_Rod_271 sk_7 rfl d_Rod_save_17 rfl (Nat.le_of_ble_eq_true rfl) (by decide) (by decide) (c_Ledger_failingAfterX_0 h (fun _ => False) hI 0 0 tc_0 t tZ tE tK BP_0 hy0 hy1) (fun z6 h7 z6Z z6E p8 => ?_)
    obtain ⟨eh7, p8⟩ := p8
    subst eh7
    refine V_iconst 1 d_Rod_save_20 (by decide) ?_
    refine V_iload_n 1 d_Rod_save_21 rfl rfl ?_
    refine N_ishl d_Rod_save_22 (fun z9 z9Z z9E z9e => ?_)
    refine V_iconst (-1) d_Rod_save_23 (by decide) ?_
    refine N_ixor d_Rod_save_24 (fun z10 z10Z z10E z10e => ?_)
    refine N_iand d_Rod_save_25 (fun z11 z11Z z11E z11e => ?_)
    have hfl := BP_and p8 (BP_not (BP_one oE (by (first | decide +kernel | omega))))
    rw [← z9e, ← z10e, ← z11e] at hfl
    refine V_if_eq 32 z11E d_Rod_save_26 (by decide) (fun c12 => ?_) (fun c12 => ?_)
    ·
      refine V_iconst 0 d_Rod_save_32 (by decide) ?_
      refine V_aload_n 0 d_Rod_save_33 rfl rfl ?_
      refine V_getR fa_Rod_12 sk_85 rfl d_Rod_save_34 ?_
      refine V_getR fa_Rod_115 sk_0 rfl d_Rod_save_37 ?_
      refine V_iload_n 1 d_Rod_save_40 rfl rfl ?_
      refine V_iconst 0 d_Rod_save_41 (by decide) ?_
      refine N_callVI [.int o, .int 0] [.int 0] cv_Rod_274 sk_7 rfl d_Rod_save_42 rfl (Nat.le_of_ble_eq_true rfl) (by decide) (by decide) (c_Ledger_lackingX_0 h (fun _ => False) hI o oZ oE 0 0 tc_0 t tZ tE tK (by (first | decide +kernel | omega)) BP_0 hy0 hy1) (fun z13 h14 z13Z z13E p15 => ?_)
      obtain ⟨eh14, p15⟩ := p15
      subst eh14
      have hlk : z13Z = LC h (fun _ => False) oZ tZ.toNat := z13E.symm.trans p15.1
      refine N_max tc_0 z13E wm_Rod_211 d_Rod_save_45 (Nat.le_of_ble_eq_true rfl) (by decide) wmax1 wM2 wmax3 (fun z16 z16Z z16E z16e z16g => ?_)
      exact V_iret rfl d_Rod_save_48 ⟨z16, rfl, ⟨rfl, (Or.inl ⟨by (first | decide +kernel | omega), Or.inr ⟨fun j hj hn => Classical.byContradiction (fun n => BP_z hfl z11E (by (first | decide +kernel | omega)) j ⟨⟨hj, by have n2 : ¬ LC h (fun _ => False) (j : Int) tZ.toNat ≤ 0 := n; omega⟩, by (first | decide +kernel | omega), by (first | decide +kernel | omega)⟩), by show 0 < LC h (fun _ => False) oZ tZ.toNat ∧ _ = LC h (fun _ => False) oZ tZ.toNat ∨ LC h (fun _ => False) oZ tZ.toNat ≤ 0 ∧ _ = 0; rw [z16E]; omega⟩⟩)⟩⟩
    ·
      refine V_bipush (-4) d_Rod_save_29 (by decide) ?_
      exact V_iret rfl d_Rod_save_31 ⟨(-4), rfl, ⟨rfl, (Or.inl ⟨by (first | decide +kernel | omega), Or.inl ⟨(BP_nz hfl z11E (by (first | decide +kernel | omega))).elim (fun j q => ⟨j, q.1.1, fun w => q.2.2 (by (first | decide +kernel | omega)), q.1.2⟩), tc_m4⟩⟩)⟩⟩
  ·
    refine V_iconst (-1) d_Rod_save_7 (by decide) ?_
    exact V_iret rfl d_Rod_save_8 ⟨(-1), rfl, ⟨rfl, (Or.inr ⟨by (first | decide +kernel | omega), tc_m1⟩)⟩⟩
end
section
theorem sav_same {h : Hp} (hI : Inv h) (ra : JA h) (rb : JB h) (rr : JR h) {o : Int} {x y : Int32} (p : (0 ≤ o ∧ o ≤ 3) ∧ SVc (fun j => LC h (fun _ => False) j (h.1 7 4).toInt.toNat) o x ∨ ¬ (0 ≤ o ∧ o ≤ 3) ∧ x.toInt = -1) (q : (0 ≤ o ∧ o ≤ 3) ∧ SVm (fun j => LM h (fun _ => False) j (h.1 117 86).toInt.toNat) o y ∨ ¬ (0 ≤ o ∧ o ≤ 3) ∧ y.toInt = -1) : x = y := by
  have hb : 0 ≤ (h.1 7 4).toInt ∧ (h.1 7 4).toInt ≤ 8 := hI 7 4
  rw [← JA_c86 ra] at q
  rcases p with ⟨p1, p2⟩ | ⟨p1, p2⟩ <;> rcases q with ⟨q1, q2⟩ | ⟨q1, q2⟩
  · refine SV_un p1 (fun j a b => L_same ra rb (by (first | decide +kernel | omega)) (by (first | decide +kernel | omega))) ?_ p2 q2
    have := (lk9_b (p := (h.1 8 o.toNat).toInt) (dA := fun i => (h.1 9 i).toInt) (dB := fun i => (h.1 10 i).toInt) (dV := fun i => (h.1 11 i).toInt) (F := fun x => (fun _ => False) x.toNat) (o := o) (JR_p rr o.toNat (by (first | decide +kernel | omega))) (h.1 7 4).toInt.toNat (fun i hi => (JR_d hI ra rr i (by (first | decide +kernel | omega)) (by (first | decide +kernel | omega))).2)).2
    show LC h (fun _ => False) o (h.1 7 4).toInt.toNat ≤ 999
    unfold LC
    omega
  · exact absurd p1 q1
  · exact absurd q1 p1
  · exact same_of p2 q2
end
section
theorem dl_18 : decode code 18 = .ok (.iload_n 3, 1) := dc_29 (dcc (r := 18) lq_0 rfl (Nat.le_of_ble_eq_true rfl) (by decide +kernel))
theorem dl_19 : decode code 19 = .ok (.aload_n 0, 1) := dc_42 (dcc (r := 19) lq_0 rfl (Nat.le_of_ble_eq_true rfl) (by decide +kernel))
theorem dl_20 : decode code 20 = .ok (.arraylength, 1) := dc_190 (dcc (r := 20) lq_0 rfl (Nat.le_of_ble_eq_true rfl) (by decide +kernel))
theorem dl_21 : decode code 21 = .ok (.iconst 5, 1) := dc_8 (dcc (r := 21) lq_0 rfl (Nat.le_of_ble_eq_true rfl) (by decide +kernel))
theorem dl_22 : decode code 22 = .ok (.isub, 1) := dc_100 (dcc (r := 22) lq_0 rfl (Nat.le_of_ble_eq_true rfl) (by decide +kernel))
theorem dl_23 : decode code 23 = .ok (.if_icmp .gt 1342, 3) := dc_163 (a := 5) (b := 62) (dcc (r := 23) lq_0 rfl (Nat.le_of_ble_eq_true rfl) (by decide +kernel)) rfl
theorem dl_26 : decode code 26 = .ok (.aload_n 0, 1) := dc_42 (dcc (r := 26) lq_0 rfl (Nat.le_of_ble_eq_true rfl) (by decide +kernel))
theorem dl_27 : decode code 27 = .ok (.iload_n 3, 1) := dc_29 (dcc (r := 27) lq_0 rfl (Nat.le_of_ble_eq_true rfl) (by decide +kernel))
theorem dl_28 : decode code 28 = .ok (.iaload, 1) := dc_46 (dcc (r := 28) lq_0 rfl (Nat.le_of_ble_eq_true rfl) (by decide +kernel))
theorem dl_29 : decode code 29 = .ok (.bipush 63, 2) := dc_16 (a := 63) (dcc (r := 29) lq_0 rfl (Nat.le_of_ble_eq_true rfl) (by decide +kernel)) rfl
theorem dl_31 : decode code 31 = .ok (.iand, 1) := dc_126 (dcc (r := 31) lq_0 rfl (Nat.le_of_ble_eq_true rfl) (by decide +kernel))
theorem dl_32 : decode code 32 = .ok (.tableswitch 1327 0 36 #[164, 187, 210, 223, 236, 259, 292, 315, 348, 397, 430, 463, 496, 529, 572, 595, 618, 661, 730, 753, 766, 789, 822, 875, 918, 971, 994, 1027, 1050, 1073, 1106, 1129, 1152, 1195, 1238, 1291, 1304], 164) := by decide +kernel
theorem dl_196 : decode code 196 = .ok (.aload_n 1, 1) := dc_43 (dcc (r := 4) lq_3 rfl (Nat.le_of_ble_eq_true rfl) (by decide +kernel))
theorem dl_197 : decode code 197 = .ok (.aload_n 0, 1) := dc_42 (dcc (r := 5) lq_3 rfl (Nat.le_of_ble_eq_true rfl) (by decide +kernel))
theorem dl_198 : decode code 198 = .ok (.iload_n 3, 1) := dc_29 (dcc (r := 6) lq_3 rfl (Nat.le_of_ble_eq_true rfl) (by decide +kernel))
theorem dl_199 : decode code 199 = .ok (.iconst 1, 1) := dc_4 (dcc (r := 7) lq_3 rfl (Nat.le_of_ble_eq_true rfl) (by decide +kernel))
theorem dl_200 : decode code 200 = .ok (.iadd, 1) := dc_96 (dcc (r := 8) lq_3 rfl (Nat.le_of_ble_eq_true rfl) (by decide +kernel))
theorem dl_201 : decode code 201 = .ok (.iaload, 1) := dc_46 (dcc (r := 9) lq_3 rfl (Nat.le_of_ble_eq_true rfl) (by decide +kernel))
theorem dl_202 : decode code 202 = .ok (.invokevirtual 13, 3) := dc_182 (a := 0) (b := 13) (dcc (r := 10) lq_3 rfl (Nat.le_of_ble_eq_true rfl) (by decide +kernel)) rfl
theorem dl_205 : decode code 205 = .ok (.pop, 1) := dc_87 (dcc (r := 13) lq_3 rfl (Nat.le_of_ble_eq_true rfl) (by decide +kernel))
theorem dl_206 : decode code 206 = .ok (.aload_n 2, 1) := dc_44 (dcc (r := 14) lq_3 rfl (Nat.le_of_ble_eq_true rfl) (by decide +kernel))
theorem dl_207 : decode code 207 = .ok (.aload_n 0, 1) := dc_42 (dcc (r := 15) lq_3 rfl (Nat.le_of_ble_eq_true rfl) (by decide +kernel))
theorem dl_208 : decode code 208 = .ok (.iload_n 3, 1) := dc_29 (dcc (r := 16) lq_3 rfl (Nat.le_of_ble_eq_true rfl) (by decide +kernel))
theorem dl_209 : decode code 209 = .ok (.iconst 1, 1) := dc_4 (dcc (r := 17) lq_3 rfl (Nat.le_of_ble_eq_true rfl) (by decide +kernel))
theorem dl_210 : decode code 210 = .ok (.iadd, 1) := dc_96 (dcc (r := 18) lq_3 rfl (Nat.le_of_ble_eq_true rfl) (by decide +kernel))
theorem dl_211 : decode code 211 = .ok (.iaload, 1) := dc_46 (dcc (r := 19) lq_3 rfl (Nat.le_of_ble_eq_true rfl) (by decide +kernel))
theorem dl_212 : decode code 212 = .ok (.invokevirtual 17, 3) := dc_182 (a := 0) (b := 17) (dcc (r := 20) lq_3 rfl (Nat.le_of_ble_eq_true rfl) (by decide +kernel)) rfl
theorem dl_215 : decode code 215 = .ok (.pop, 1) := dc_87 (dcc (r := 23) lq_3 rfl (Nat.le_of_ble_eq_true rfl) (by decide +kernel))
theorem dl_216 : decode code 216 = .ok (.goto 1143, 3) := dc_167 (a := 4) (b := 119) (dcc (r := 24) lq_3 rfl (Nat.le_of_ble_eq_true rfl) (by decide +kernel)) rfl
theorem dl_219 : decode code 219 = .ok (.aload_n 1, 1) := dc_43 (dcc (r := 27) lq_3 rfl (Nat.le_of_ble_eq_true rfl) (by decide +kernel))
theorem dl_220 : decode code 220 = .ok (.aload_n 0, 1) := dc_42 (dcc (r := 28) lq_3 rfl (Nat.le_of_ble_eq_true rfl) (by decide +kernel))
theorem dl_221 : decode code 221 = .ok (.iload_n 3, 1) := dc_29 (dcc (r := 29) lq_3 rfl (Nat.le_of_ble_eq_true rfl) (by decide +kernel))
theorem dl_222 : decode code 222 = .ok (.iconst 1, 1) := dc_4 (dcc (r := 30) lq_3 rfl (Nat.le_of_ble_eq_true rfl) (by decide +kernel))
theorem dl_223 : decode code 223 = .ok (.iadd, 1) := dc_96 (dcc (r := 31) lq_3 rfl (Nat.le_of_ble_eq_true rfl) (by decide +kernel))
theorem dl_224 : decode code 224 = .ok (.iaload, 1) := dc_46 (dcc (r := 32) lq_3 rfl (Nat.le_of_ble_eq_true rfl) (by decide +kernel))
theorem dl_225 : decode code 225 = .ok (.invokevirtual 18, 3) := dc_182 (a := 0) (b := 18) (dcc (r := 33) lq_3 rfl (Nat.le_of_ble_eq_true rfl) (by decide +kernel)) rfl
theorem dl_228 : decode code 228 = .ok (.pop, 1) := dc_87 (dcc (r := 36) lq_3 rfl (Nat.le_of_ble_eq_true rfl) (by decide +kernel))
theorem dl_229 : decode code 229 = .ok (.aload_n 2, 1) := dc_44 (dcc (r := 37) lq_3 rfl (Nat.le_of_ble_eq_true rfl) (by decide +kernel))
theorem dl_230 : decode code 230 = .ok (.aload_n 0, 1) := dc_42 (dcc (r := 38) lq_3 rfl (Nat.le_of_ble_eq_true rfl) (by decide +kernel))
theorem dl_231 : decode code 231 = .ok (.iload_n 3, 1) := dc_29 (dcc (r := 39) lq_3 rfl (Nat.le_of_ble_eq_true rfl) (by decide +kernel))
theorem dl_232 : decode code 232 = .ok (.iconst 1, 1) := dc_4 (dcc (r := 40) lq_3 rfl (Nat.le_of_ble_eq_true rfl) (by decide +kernel))
theorem dl_233 : decode code 233 = .ok (.iadd, 1) := dc_96 (dcc (r := 41) lq_3 rfl (Nat.le_of_ble_eq_true rfl) (by decide +kernel))
theorem dl_234 : decode code 234 = .ok (.iaload, 1) := dc_46 (dcc (r := 42) lq_3 rfl (Nat.le_of_ble_eq_true rfl) (by decide +kernel))
theorem dl_235 : decode code 235 = .ok (.invokevirtual 21, 3) := dc_182 (a := 0) (b := 21) (dcc (r := 43) lq_3 rfl (Nat.le_of_ble_eq_true rfl) (by decide +kernel)) rfl
theorem dl_238 : decode code 238 = .ok (.pop, 1) := dc_87 (dcc (r := 46) lq_3 rfl (Nat.le_of_ble_eq_true rfl) (by decide +kernel))
theorem dl_239 : decode code 239 = .ok (.goto 1120, 3) := dc_167 (a := 4) (b := 96) (dcc (r := 47) lq_3 rfl (Nat.le_of_ble_eq_true rfl) (by decide +kernel)) rfl
theorem dl_242 : decode code 242 = .ok (.aload_n 1, 1) := dc_43 (dcc (r := 50) lq_3 rfl (Nat.le_of_ble_eq_true rfl) (by decide +kernel))
theorem dl_243 : decode code 243 = .ok (.invokevirtual 22, 3) := dc_182 (a := 0) (b := 22) (dcc (r := 51) lq_3 rfl (Nat.le_of_ble_eq_true rfl) (by decide +kernel)) rfl
theorem dl_246 : decode code 246 = .ok (.pop, 1) := dc_87 (dcc (r := 54) lq_3 rfl (Nat.le_of_ble_eq_true rfl) (by decide +kernel))
theorem dl_247 : decode code 247 = .ok (.aload_n 2, 1) := dc_44 (dcc (r := 55) lq_3 rfl (Nat.le_of_ble_eq_true rfl) (by decide +kernel))
theorem dl_248 : decode code 248 = .ok (.invokevirtual 26, 3) := dc_182 (a := 0) (b := 26) (dcc (r := 56) lq_3 rfl (Nat.le_of_ble_eq_true rfl) (by decide +kernel)) rfl
theorem dl_251 : decode code 251 = .ok (.pop, 1) := dc_87 (dcc (r := 59) lq_3 rfl (Nat.le_of_ble_eq_true rfl) (by decide +kernel))
theorem dl_252 : decode code 252 = .ok (.goto 1107, 3) := dc_167 (a := 4) (b := 83) (dcc (r := 60) lq_3 rfl (Nat.le_of_ble_eq_true rfl) (by decide +kernel)) rfl
theorem dl_255 : decode code 255 = .ok (.aload_n 1, 1) := dc_43 (dcc (r := 63) lq_3 rfl (Nat.le_of_ble_eq_true rfl) (by decide +kernel))
theorem dl_256 : decode code 256 = .ok (.invokevirtual 27, 3) := dc_182 (a := 0) (b := 27) (dcc (r := 0) lq_4 rfl (Nat.le_of_ble_eq_true rfl) (by decide +kernel)) rfl
theorem dl_259 : decode code 259 = .ok (.pop, 1) := dc_87 (dcc (r := 3) lq_4 rfl (Nat.le_of_ble_eq_true rfl) (by decide +kernel))
theorem dl_260 : decode code 260 = .ok (.aload_n 2, 1) := dc_44 (dcc (r := 4) lq_4 rfl (Nat.le_of_ble_eq_true rfl) (by decide +kernel))
theorem dl_261 : decode code 261 = .ok (.invokevirtual 30, 3) := dc_182 (a := 0) (b := 30) (dcc (r := 5) lq_4 rfl (Nat.le_of_ble_eq_true rfl) (by decide +kernel)) rfl
theorem dl_264 : decode code 264 = .ok (.pop, 1) := dc_87 (dcc (r := 8) lq_4 rfl (Nat.le_of_ble_eq_true rfl) (by decide +kernel))
theorem dl_265 : decode code 265 = .ok (.goto 1094, 3) := dc_167 (a := 4) (b := 70) (dcc (r := 9) lq_4 rfl (Nat.le_of_ble_eq_true rfl) (by decide +kernel)) rfl
theorem dl_268 : decode code 268 = .ok (.aload_n 1, 1) := dc_43 (dcc (r := 12) lq_4 rfl (Nat.le_of_ble_eq_true rfl) (by decide +kernel))
theorem dl_269 : decode code 269 = .ok (.aload_n 0, 1) := dc_42 (dcc (r := 13) lq_4 rfl (Nat.le_of_ble_eq_true rfl) (by decide +kernel))
theorem dl_270 : decode code 270 = .ok (.iload_n 3, 1) := dc_29 (dcc (r := 14) lq_4 rfl (Nat.le_of_ble_eq_true rfl) (by decide +kernel))
theorem dl_271 : decode code 271 = .ok (.iconst 1, 1) := dc_4 (dcc (r := 15) lq_4 rfl (Nat.le_of_ble_eq_true rfl) (by decide +kernel))
theorem dl_272 : decode code 272 = .ok (.iadd, 1) := dc_96 (dcc (r := 16) lq_4 rfl (Nat.le_of_ble_eq_true rfl) (by decide +kernel))
theorem dl_273 : decode code 273 = .ok (.iaload, 1) := dc_46 (dcc (r := 17) lq_4 rfl (Nat.le_of_ble_eq_true rfl) (by decide +kernel))
theorem dl_274 : decode code 274 = .ok (.invokevirtual 31, 3) := dc_182 (a := 0) (b := 31) (dcc (r := 18) lq_4 rfl (Nat.le_of_ble_eq_true rfl) (by decide +kernel)) rfl
theorem dl_277 : decode code 277 = .ok (.pop, 1) := dc_87 (dcc (r := 21) lq_4 rfl (Nat.le_of_ble_eq_true rfl) (by decide +kernel))
theorem dl_278 : decode code 278 = .ok (.aload_n 2, 1) := dc_44 (dcc (r := 22) lq_4 rfl (Nat.le_of_ble_eq_true rfl) (by decide +kernel))
theorem dl_279 : decode code 279 = .ok (.aload_n 0, 1) := dc_42 (dcc (r := 23) lq_4 rfl (Nat.le_of_ble_eq_true rfl) (by decide +kernel))
theorem dl_280 : decode code 280 = .ok (.iload_n 3, 1) := dc_29 (dcc (r := 24) lq_4 rfl (Nat.le_of_ble_eq_true rfl) (by decide +kernel))
theorem dl_281 : decode code 281 = .ok (.iconst 1, 1) := dc_4 (dcc (r := 25) lq_4 rfl (Nat.le_of_ble_eq_true rfl) (by decide +kernel))
theorem dl_282 : decode code 282 = .ok (.iadd, 1) := dc_96 (dcc (r := 26) lq_4 rfl (Nat.le_of_ble_eq_true rfl) (by decide +kernel))
theorem dl_283 : decode code 283 = .ok (.iaload, 1) := dc_46 (dcc (r := 27) lq_4 rfl (Nat.le_of_ble_eq_true rfl) (by decide +kernel))
theorem dl_284 : decode code 284 = .ok (.invokevirtual 34, 3) := dc_182 (a := 0) (b := 34) (dcc (r := 28) lq_4 rfl (Nat.le_of_ble_eq_true rfl) (by decide +kernel)) rfl
theorem dl_287 : decode code 287 = .ok (.pop, 1) := dc_87 (dcc (r := 31) lq_4 rfl (Nat.le_of_ble_eq_true rfl) (by decide +kernel))
theorem dl_288 : decode code 288 = .ok (.goto 1071, 3) := dc_167 (a := 4) (b := 47) (dcc (r := 32) lq_4 rfl (Nat.le_of_ble_eq_true rfl) (by decide +kernel)) rfl
theorem dl_291 : decode code 291 = .ok (.aload_n 1, 1) := dc_43 (dcc (r := 35) lq_4 rfl (Nat.le_of_ble_eq_true rfl) (by decide +kernel))
theorem dl_292 : decode code 292 = .ok (.aload_n 0, 1) := dc_42 (dcc (r := 36) lq_4 rfl (Nat.le_of_ble_eq_true rfl) (by decide +kernel))
theorem dl_293 : decode code 293 = .ok (.iload_n 3, 1) := dc_29 (dcc (r := 37) lq_4 rfl (Nat.le_of_ble_eq_true rfl) (by decide +kernel))
theorem dl_294 : decode code 294 = .ok (.iconst 1, 1) := dc_4 (dcc (r := 38) lq_4 rfl (Nat.le_of_ble_eq_true rfl) (by decide +kernel))
theorem dl_295 : decode code 295 = .ok (.iadd, 1) := dc_96 (dcc (r := 39) lq_4 rfl (Nat.le_of_ble_eq_true rfl) (by decide +kernel))
theorem dl_296 : decode code 296 = .ok (.iaload, 1) := dc_46 (dcc (r := 40) lq_4 rfl (Nat.le_of_ble_eq_true rfl) (by decide +kernel))
theorem dl_297 : decode code 297 = .ok (.aload_n 0, 1) := dc_42 (dcc (r := 41) lq_4 rfl (Nat.le_of_ble_eq_true rfl) (by decide +kernel))
theorem dl_298 : decode code 298 = .ok (.iload_n 3, 1) := dc_29 (dcc (r := 42) lq_4 rfl (Nat.le_of_ble_eq_true rfl) (by decide +kernel))
theorem dl_299 : decode code 299 = .ok (.iconst 2, 1) := dc_5 (dcc (r := 43) lq_4 rfl (Nat.le_of_ble_eq_true rfl) (by decide +kernel))
theorem dl_300 : decode code 300 = .ok (.iadd, 1) := dc_96 (dcc (r := 44) lq_4 rfl (Nat.le_of_ble_eq_true rfl) (by decide +kernel))
theorem dl_301 : decode code 301 = .ok (.iaload, 1) := dc_46 (dcc (r := 45) lq_4 rfl (Nat.le_of_ble_eq_true rfl) (by decide +kernel))
theorem dl_302 : decode code 302 = .ok (.invokevirtual 35, 3) := dc_182 (a := 0) (b := 35) (dcc (r := 46) lq_4 rfl (Nat.le_of_ble_eq_true rfl) (by decide +kernel)) rfl
theorem dl_305 : decode code 305 = .ok (.pop, 1) := dc_87 (dcc (r := 49) lq_4 rfl (Nat.le_of_ble_eq_true rfl) (by decide +kernel))
theorem dl_306 : decode code 306 = .ok (.aload_n 2, 1) := dc_44 (dcc (r := 50) lq_4 rfl (Nat.le_of_ble_eq_true rfl) (by decide +kernel))
theorem dl_307 : decode code 307 = .ok (.aload_n 0, 1) := dc_42 (dcc (r := 51) lq_4 rfl (Nat.le_of_ble_eq_true rfl) (by decide +kernel))
theorem dl_308 : decode code 308 = .ok (.iload_n 3, 1) := dc_29 (dcc (r := 52) lq_4 rfl (Nat.le_of_ble_eq_true rfl) (by decide +kernel))
theorem dl_309 : decode code 309 = .ok (.iconst 1, 1) := dc_4 (dcc (r := 53) lq_4 rfl (Nat.le_of_ble_eq_true rfl) (by decide +kernel))
theorem dl_310 : decode code 310 = .ok (.iadd, 1) := dc_96 (dcc (r := 54) lq_4 rfl (Nat.le_of_ble_eq_true rfl) (by decide +kernel))
theorem dl_311 : decode code 311 = .ok (.iaload, 1) := dc_46 (dcc (r := 55) lq_4 rfl (Nat.le_of_ble_eq_true rfl) (by decide +kernel))
theorem dl_312 : decode code 312 = .ok (.aload_n 0, 1) := dc_42 (dcc (r := 56) lq_4 rfl (Nat.le_of_ble_eq_true rfl) (by decide +kernel))
theorem dl_313 : decode code 313 = .ok (.iload_n 3, 1) := dc_29 (dcc (r := 57) lq_4 rfl (Nat.le_of_ble_eq_true rfl) (by decide +kernel))
theorem dl_314 : decode code 314 = .ok (.iconst 2, 1) := dc_5 (dcc (r := 58) lq_4 rfl (Nat.le_of_ble_eq_true rfl) (by decide +kernel))
theorem dl_315 : decode code 315 = .ok (.iadd, 1) := dc_96 (dcc (r := 59) lq_4 rfl (Nat.le_of_ble_eq_true rfl) (by decide +kernel))
theorem dl_316 : decode code 316 = .ok (.iaload, 1) := dc_46 (dcc (r := 60) lq_4 rfl (Nat.le_of_ble_eq_true rfl) (by decide +kernel))
theorem dl_317 : decode code 317 = .ok (.invokevirtual 39, 3) := dc_182 (a := 0) (b := 39) (dcc (r := 61) lq_4 rfl (Nat.le_of_ble_eq_true rfl) (by decide +kernel)) rfl
theorem dl_320 : decode code 320 = .ok (.pop, 1) := dc_87 (dcc (r := 0) lq_5 rfl (Nat.le_of_ble_eq_true rfl) (by decide +kernel))
theorem dl_321 : decode code 321 = .ok (.goto 1038, 3) := dc_167 (a := 4) (b := 14) (dcc (r := 1) lq_5 rfl (Nat.le_of_ble_eq_true rfl) (by decide +kernel)) rfl
theorem dl_324 : decode code 324 = .ok (.aload_n 1, 1) := dc_43 (dcc (r := 4) lq_5 rfl (Nat.le_of_ble_eq_true rfl) (by decide +kernel))
theorem dl_325 : decode code 325 = .ok (.aload_n 0, 1) := dc_42 (dcc (r := 5) lq_5 rfl (Nat.le_of_ble_eq_true rfl) (by decide +kernel))
theorem dl_326 : decode code 326 = .ok (.iload_n 3, 1) := dc_29 (dcc (r := 6) lq_5 rfl (Nat.le_of_ble_eq_true rfl) (by decide +kernel))
theorem dl_327 : decode code 327 = .ok (.iconst 1, 1) := dc_4 (dcc (r := 7) lq_5 rfl (Nat.le_of_ble_eq_true rfl) (by decide +kernel))
theorem dl_328 : decode code 328 = .ok (.iadd, 1) := dc_96 (dcc (r := 8) lq_5 rfl (Nat.le_of_ble_eq_true rfl) (by decide +kernel))
theorem dl_329 : decode code 329 = .ok (.iaload, 1) := dc_46 (dcc (r := 9) lq_5 rfl (Nat.le_of_ble_eq_true rfl) (by decide +kernel))
theorem dl_330 : decode code 330 = .ok (.invokevirtual 40, 3) := dc_182 (a := 0) (b := 40) (dcc (r := 10) lq_5 rfl (Nat.le_of_ble_eq_true rfl) (by decide +kernel)) rfl
theorem dl_333 : decode code 333 = .ok (.pop, 1) := dc_87 (dcc (r := 13) lq_5 rfl (Nat.le_of_ble_eq_true rfl) (by decide +kernel))
theorem dl_334 : decode code 334 = .ok (.aload_n 2, 1) := dc_44 (dcc (r := 14) lq_5 rfl (Nat.le_of_ble_eq_true rfl) (by decide +kernel))
theorem dl_335 : decode code 335 = .ok (.aload_n 0, 1) := dc_42 (dcc (r := 15) lq_5 rfl (Nat.le_of_ble_eq_true rfl) (by decide +kernel))
theorem dl_336 : decode code 336 = .ok (.iload_n 3, 1) := dc_29 (dcc (r := 16) lq_5 rfl (Nat.le_of_ble_eq_true rfl) (by decide +kernel))
theorem dl_337 : decode code 337 = .ok (.iconst 1, 1) := dc_4 (dcc (r := 17) lq_5 rfl (Nat.le_of_ble_eq_true rfl) (by decide +kernel))
theorem dl_338 : decode code 338 = .ok (.iadd, 1) := dc_96 (dcc (r := 18) lq_5 rfl (Nat.le_of_ble_eq_true rfl) (by decide +kernel))
theorem dl_339 : decode code 339 = .ok (.iaload, 1) := dc_46 (dcc (r := 19) lq_5 rfl (Nat.le_of_ble_eq_true rfl) (by decide +kernel))
theorem dl_340 : decode code 340 = .ok (.invokevirtual 43, 3) := dc_182 (a := 0) (b := 43) (dcc (r := 20) lq_5 rfl (Nat.le_of_ble_eq_true rfl) (by decide +kernel)) rfl
theorem dl_343 : decode code 343 = .ok (.pop, 1) := dc_87 (dcc (r := 23) lq_5 rfl (Nat.le_of_ble_eq_true rfl) (by decide +kernel))
theorem dl_344 : decode code 344 = .ok (.goto 1015, 3) := dc_167 (a := 3) (b := 247) (dcc (r := 24) lq_5 rfl (Nat.le_of_ble_eq_true rfl) (by decide +kernel)) rfl
theorem dl_347 : decode code 347 = .ok (.aload_n 1, 1) := dc_43 (dcc (r := 27) lq_5 rfl (Nat.le_of_ble_eq_true rfl) (by decide +kernel))
theorem dl_348 : decode code 348 = .ok (.aload_n 0, 1) := dc_42 (dcc (r := 28) lq_5 rfl (Nat.le_of_ble_eq_true rfl) (by decide +kernel))
theorem dl_349 : decode code 349 = .ok (.iload_n 3, 1) := dc_29 (dcc (r := 29) lq_5 rfl (Nat.le_of_ble_eq_true rfl) (by decide +kernel))
theorem dl_350 : decode code 350 = .ok (.iconst 1, 1) := dc_4 (dcc (r := 30) lq_5 rfl (Nat.le_of_ble_eq_true rfl) (by decide +kernel))
theorem dl_351 : decode code 351 = .ok (.iadd, 1) := dc_96 (dcc (r := 31) lq_5 rfl (Nat.le_of_ble_eq_true rfl) (by decide +kernel))
theorem dl_352 : decode code 352 = .ok (.iaload, 1) := dc_46 (dcc (r := 32) lq_5 rfl (Nat.le_of_ble_eq_true rfl) (by decide +kernel))
theorem dl_353 : decode code 353 = .ok (.aload_n 0, 1) := dc_42 (dcc (r := 33) lq_5 rfl (Nat.le_of_ble_eq_true rfl) (by decide +kernel))
theorem dl_354 : decode code 354 = .ok (.iload_n 3, 1) := dc_29 (dcc (r := 34) lq_5 rfl (Nat.le_of_ble_eq_true rfl) (by decide +kernel))
theorem dl_355 : decode code 355 = .ok (.iconst 2, 1) := dc_5 (dcc (r := 35) lq_5 rfl (Nat.le_of_ble_eq_true rfl) (by decide +kernel))
theorem dl_356 : decode code 356 = .ok (.iadd, 1) := dc_96 (dcc (r := 36) lq_5 rfl (Nat.le_of_ble_eq_true rfl) (by decide +kernel))
theorem dl_357 : decode code 357 = .ok (.iaload, 1) := dc_46 (dcc (r := 37) lq_5 rfl (Nat.le_of_ble_eq_true rfl) (by decide +kernel))
theorem dl_358 : decode code 358 = .ok (.invokevirtual 44, 3) := dc_182 (a := 0) (b := 44) (dcc (r := 38) lq_5 rfl (Nat.le_of_ble_eq_true rfl) (by decide +kernel)) rfl
theorem dl_361 : decode code 361 = .ok (.pop, 1) := dc_87 (dcc (r := 41) lq_5 rfl (Nat.le_of_ble_eq_true rfl) (by decide +kernel))
theorem dl_362 : decode code 362 = .ok (.aload_n 2, 1) := dc_44 (dcc (r := 42) lq_5 rfl (Nat.le_of_ble_eq_true rfl) (by decide +kernel))
theorem dl_363 : decode code 363 = .ok (.aload_n 0, 1) := dc_42 (dcc (r := 43) lq_5 rfl (Nat.le_of_ble_eq_true rfl) (by decide +kernel))
theorem dl_364 : decode code 364 = .ok (.iload_n 3, 1) := dc_29 (dcc (r := 44) lq_5 rfl (Nat.le_of_ble_eq_true rfl) (by decide +kernel))
theorem dl_365 : decode code 365 = .ok (.iconst 1, 1) := dc_4 (dcc (r := 45) lq_5 rfl (Nat.le_of_ble_eq_true rfl) (by decide +kernel))
theorem dl_366 : decode code 366 = .ok (.iadd, 1) := dc_96 (dcc (r := 46) lq_5 rfl (Nat.le_of_ble_eq_true rfl) (by decide +kernel))
theorem dl_367 : decode code 367 = .ok (.iaload, 1) := dc_46 (dcc (r := 47) lq_5 rfl (Nat.le_of_ble_eq_true rfl) (by decide +kernel))
theorem dl_368 : decode code 368 = .ok (.aload_n 0, 1) := dc_42 (dcc (r := 48) lq_5 rfl (Nat.le_of_ble_eq_true rfl) (by decide +kernel))
theorem dl_369 : decode code 369 = .ok (.iload_n 3, 1) := dc_29 (dcc (r := 49) lq_5 rfl (Nat.le_of_ble_eq_true rfl) (by decide +kernel))
theorem dl_370 : decode code 370 = .ok (.iconst 2, 1) := dc_5 (dcc (r := 50) lq_5 rfl (Nat.le_of_ble_eq_true rfl) (by decide +kernel))
theorem dl_371 : decode code 371 = .ok (.iadd, 1) := dc_96 (dcc (r := 51) lq_5 rfl (Nat.le_of_ble_eq_true rfl) (by decide +kernel))
theorem dl_372 : decode code 372 = .ok (.iaload, 1) := dc_46 (dcc (r := 52) lq_5 rfl (Nat.le_of_ble_eq_true rfl) (by decide +kernel))
theorem dl_373 : decode code 373 = .ok (.invokevirtual 47, 3) := dc_182 (a := 0) (b := 47) (dcc (r := 53) lq_5 rfl (Nat.le_of_ble_eq_true rfl) (by decide +kernel)) rfl
theorem dl_376 : decode code 376 = .ok (.pop, 1) := dc_87 (dcc (r := 56) lq_5 rfl (Nat.le_of_ble_eq_true rfl) (by decide +kernel))
theorem dl_377 : decode code 377 = .ok (.goto 982, 3) := dc_167 (a := 3) (b := 214) (dcc (r := 57) lq_5 rfl (Nat.le_of_ble_eq_true rfl) (by decide +kernel)) rfl
theorem dl_380 : decode code 380 = .ok (.aload_n 1, 1) := dc_43 (dcc (r := 60) lq_5 rfl (Nat.le_of_ble_eq_true rfl) (by decide +kernel))
theorem dl_381 : decode code 381 = .ok (.aload_n 0, 1) := dc_42 (dcc (r := 61) lq_5 rfl (Nat.le_of_ble_eq_true rfl) (by decide +kernel))
theorem dl_382 : decode code 382 = .ok (.iload_n 3, 1) := dc_29 (dcc (r := 62) lq_5 rfl (Nat.le_of_ble_eq_true rfl) (by decide +kernel))
theorem dl_383 : decode code 383 = .ok (.iconst 1, 1) := dc_4 (dcc (r := 63) lq_5 rfl (Nat.le_of_ble_eq_true rfl) (by decide +kernel))
theorem dl_384 : decode code 384 = .ok (.iadd, 1) := dc_96 (dcc (r := 0) lq_6 rfl (Nat.le_of_ble_eq_true rfl) (by decide +kernel))
theorem dl_385 : decode code 385 = .ok (.iaload, 1) := dc_46 (dcc (r := 1) lq_6 rfl (Nat.le_of_ble_eq_true rfl) (by decide +kernel))
theorem dl_386 : decode code 386 = .ok (.aload_n 0, 1) := dc_42 (dcc (r := 2) lq_6 rfl (Nat.le_of_ble_eq_true rfl) (by decide +kernel))
theorem dl_387 : decode code 387 = .ok (.iload_n 3, 1) := dc_29 (dcc (r := 3) lq_6 rfl (Nat.le_of_ble_eq_true rfl) (by decide +kernel))
theorem dl_388 : decode code 388 = .ok (.iconst 2, 1) := dc_5 (dcc (r := 4) lq_6 rfl (Nat.le_of_ble_eq_true rfl) (by decide +kernel))
theorem dl_389 : decode code 389 = .ok (.iadd, 1) := dc_96 (dcc (r := 5) lq_6 rfl (Nat.le_of_ble_eq_true rfl) (by decide +kernel))
theorem dl_390 : decode code 390 = .ok (.iaload, 1) := dc_46 (dcc (r := 6) lq_6 rfl (Nat.le_of_ble_eq_true rfl) (by decide +kernel))
theorem dl_391 : decode code 391 = .ok (.ifCond .eq 7, 3) := dc_153 (a := 0) (b := 7) (dcc (r := 7) lq_6 rfl (Nat.le_of_ble_eq_true rfl) (by decide +kernel)) rfl
theorem dl_394 : decode code 394 = .ok (.iconst 1, 1) := dc_4 (dcc (r := 10) lq_6 rfl (Nat.le_of_ble_eq_true rfl) (by decide +kernel))
theorem dl_395 : decode code 395 = .ok (.goto 4, 3) := dc_167 (a := 0) (b := 4) (dcc (r := 11) lq_6 rfl (Nat.le_of_ble_eq_true rfl) (by decide +kernel)) rfl
theorem dl_398 : decode code 398 = .ok (.iconst 0, 1) := dc_3 (dcc (r := 14) lq_6 rfl (Nat.le_of_ble_eq_true rfl) (by decide +kernel))
theorem dl_399 : decode code 399 = .ok (.invokevirtual 48, 3) := dc_182 (a := 0) (b := 48) (dcc (r := 15) lq_6 rfl (Nat.le_of_ble_eq_true rfl) (by decide +kernel)) rfl
theorem dl_402 : decode code 402 = .ok (.pop, 1) := dc_87 (dcc (r := 18) lq_6 rfl (Nat.le_of_ble_eq_true rfl) (by decide +kernel))
theorem dl_403 : decode code 403 = .ok (.aload_n 2, 1) := dc_44 (dcc (r := 19) lq_6 rfl (Nat.le_of_ble_eq_true rfl) (by decide +kernel))
theorem dl_404 : decode code 404 = .ok (.aload_n 0, 1) := dc_42 (dcc (r := 20) lq_6 rfl (Nat.le_of_ble_eq_true rfl) (by decide +kernel))
theorem dl_405 : decode code 405 = .ok (.iload_n 3, 1) := dc_29 (dcc (r := 21) lq_6 rfl (Nat.le_of_ble_eq_true rfl) (by decide +kernel))
theorem dl_406 : decode code 406 = .ok (.iconst 1, 1) := dc_4 (dcc (r := 22) lq_6 rfl (Nat.le_of_ble_eq_true rfl) (by decide +kernel))
theorem dl_407 : decode code 407 = .ok (.iadd, 1) := dc_96 (dcc (r := 23) lq_6 rfl (Nat.le_of_ble_eq_true rfl) (by decide +kernel))
theorem dl_408 : decode code 408 = .ok (.iaload, 1) := dc_46 (dcc (r := 24) lq_6 rfl (Nat.le_of_ble_eq_true rfl) (by decide +kernel))
theorem dl_409 : decode code 409 = .ok (.aload_n 0, 1) := dc_42 (dcc (r := 25) lq_6 rfl (Nat.le_of_ble_eq_true rfl) (by decide +kernel))
theorem dl_410 : decode code 410 = .ok (.iload_n 3, 1) := dc_29 (dcc (r := 26) lq_6 rfl (Nat.le_of_ble_eq_true rfl) (by decide +kernel))
theorem dl_411 : decode code 411 = .ok (.iconst 2, 1) := dc_5 (dcc (r := 27) lq_6 rfl (Nat.le_of_ble_eq_true rfl) (by decide +kernel))
theorem dl_412 : decode code 412 = .ok (.iadd, 1) := dc_96 (dcc (r := 28) lq_6 rfl (Nat.le_of_ble_eq_true rfl) (by decide +kernel))
theorem dl_413 : decode code 413 = .ok (.iaload, 1) := dc_46 (dcc (r := 29) lq_6 rfl (Nat.le_of_ble_eq_true rfl) (by decide +kernel))
theorem dl_414 : decode code 414 = .ok (.ifCond .eq 7, 3) := dc_153 (a := 0) (b := 7) (dcc (r := 30) lq_6 rfl (Nat.le_of_ble_eq_true rfl) (by decide +kernel)) rfl
theorem dl_417 : decode code 417 = .ok (.iconst 1, 1) := dc_4 (dcc (r := 33) lq_6 rfl (Nat.le_of_ble_eq_true rfl) (by decide +kernel))
theorem dl_418 : decode code 418 = .ok (.goto 4, 3) := dc_167 (a := 0) (b := 4) (dcc (r := 34) lq_6 rfl (Nat.le_of_ble_eq_true rfl) (by decide +kernel)) rfl
theorem dl_421 : decode code 421 = .ok (.iconst 0, 1) := dc_3 (dcc (r := 37) lq_6 rfl (Nat.le_of_ble_eq_true rfl) (by decide +kernel))
theorem dl_422 : decode code 422 = .ok (.invokevirtual 52, 3) := dc_182 (a := 0) (b := 52) (dcc (r := 38) lq_6 rfl (Nat.le_of_ble_eq_true rfl) (by decide +kernel)) rfl
theorem dl_425 : decode code 425 = .ok (.pop, 1) := dc_87 (dcc (r := 41) lq_6 rfl (Nat.le_of_ble_eq_true rfl) (by decide +kernel))
theorem dl_426 : decode code 426 = .ok (.goto 933, 3) := dc_167 (a := 3) (b := 165) (dcc (r := 42) lq_6 rfl (Nat.le_of_ble_eq_true rfl) (by decide +kernel)) rfl
theorem dl_429 : decode code 429 = .ok (.aload_n 1, 1) := dc_43 (dcc (r := 45) lq_6 rfl (Nat.le_of_ble_eq_true rfl) (by decide +kernel))
theorem dl_430 : decode code 430 = .ok (.aload_n 0, 1) := dc_42 (dcc (r := 46) lq_6 rfl (Nat.le_of_ble_eq_true rfl) (by decide +kernel))
theorem dl_431 : decode code 431 = .ok (.iload_n 3, 1) := dc_29 (dcc (r := 47) lq_6 rfl (Nat.le_of_ble_eq_true rfl) (by decide +kernel))
theorem dl_432 : decode code 432 = .ok (.iconst 1, 1) := dc_4 (dcc (r := 48) lq_6 rfl (Nat.le_of_ble_eq_true rfl) (by decide +kernel))
theorem dl_433 : decode code 433 = .ok (.iadd, 1) := dc_96 (dcc (r := 49) lq_6 rfl (Nat.le_of_ble_eq_true rfl) (by decide +kernel))
theorem dl_434 : decode code 434 = .ok (.iaload, 1) := dc_46 (dcc (r := 50) lq_6 rfl (Nat.le_of_ble_eq_true rfl) (by decide +kernel))
theorem dl_435 : decode code 435 = .ok (.aload_n 0, 1) := dc_42 (dcc (r := 51) lq_6 rfl (Nat.le_of_ble_eq_true rfl) (by decide +kernel))
theorem dl_436 : decode code 436 = .ok (.iload_n 3, 1) := dc_29 (dcc (r := 52) lq_6 rfl (Nat.le_of_ble_eq_true rfl) (by decide +kernel))
theorem dl_437 : decode code 437 = .ok (.iconst 2, 1) := dc_5 (dcc (r := 53) lq_6 rfl (Nat.le_of_ble_eq_true rfl) (by decide +kernel))
theorem dl_438 : decode code 438 = .ok (.iadd, 1) := dc_96 (dcc (r := 54) lq_6 rfl (Nat.le_of_ble_eq_true rfl) (by decide +kernel))
theorem dl_439 : decode code 439 = .ok (.iaload, 1) := dc_46 (dcc (r := 55) lq_6 rfl (Nat.le_of_ble_eq_true rfl) (by decide +kernel))
theorem dl_440 : decode code 440 = .ok (.invokevirtual 53, 3) := dc_182 (a := 0) (b := 53) (dcc (r := 56) lq_6 rfl (Nat.le_of_ble_eq_true rfl) (by decide +kernel)) rfl
theorem dl_443 : decode code 443 = .ok (.pop, 1) := dc_87 (dcc (r := 59) lq_6 rfl (Nat.le_of_ble_eq_true rfl) (by decide +kernel))
theorem dl_444 : decode code 444 = .ok (.aload_n 2, 1) := dc_44 (dcc (r := 60) lq_6 rfl (Nat.le_of_ble_eq_true rfl) (by decide +kernel))
theorem dl_445 : decode code 445 = .ok (.aload_n 0, 1) := dc_42 (dcc (r := 61) lq_6 rfl (Nat.le_of_ble_eq_true rfl) (by decide +kernel))
theorem dl_446 : decode code 446 = .ok (.iload_n 3, 1) := dc_29 (dcc (r := 62) lq_6 rfl (Nat.le_of_ble_eq_true rfl) (by decide +kernel))
theorem dl_447 : decode code 447 = .ok (.iconst 1, 1) := dc_4 (dcc (r := 63) lq_6 rfl (Nat.le_of_ble_eq_true rfl) (by decide +kernel))
theorem dl_448 : decode code 448 = .ok (.iadd, 1) := dc_96 (dcc (r := 0) lq_7 rfl (Nat.le_of_ble_eq_true rfl) (by decide +kernel))
theorem dl_449 : decode code 449 = .ok (.iaload, 1) := dc_46 (dcc (r := 1) lq_7 rfl (Nat.le_of_ble_eq_true rfl) (by decide +kernel))
theorem dl_450 : decode code 450 = .ok (.aload_n 0, 1) := dc_42 (dcc (r := 2) lq_7 rfl (Nat.le_of_ble_eq_true rfl) (by decide +kernel))
theorem dl_451 : decode code 451 = .ok (.iload_n 3, 1) := dc_29 (dcc (r := 3) lq_7 rfl (Nat.le_of_ble_eq_true rfl) (by decide +kernel))
theorem dl_452 : decode code 452 = .ok (.iconst 2, 1) := dc_5 (dcc (r := 4) lq_7 rfl (Nat.le_of_ble_eq_true rfl) (by decide +kernel))
theorem dl_453 : decode code 453 = .ok (.iadd, 1) := dc_96 (dcc (r := 5) lq_7 rfl (Nat.le_of_ble_eq_true rfl) (by decide +kernel))
theorem dl_454 : decode code 454 = .ok (.iaload, 1) := dc_46 (dcc (r := 6) lq_7 rfl (Nat.le_of_ble_eq_true rfl) (by decide +kernel))
theorem dl_455 : decode code 455 = .ok (.invokevirtual 56, 3) := dc_182 (a := 0) (b := 56) (dcc (r := 7) lq_7 rfl (Nat.le_of_ble_eq_true rfl) (by decide +kernel)) rfl
theorem dl_458 : decode code 458 = .ok (.pop, 1) := dc_87 (dcc (r := 10) lq_7 rfl (Nat.le_of_ble_eq_true rfl) (by decide +kernel))
theorem dl_459 : decode code 459 = .ok (.goto 900, 3) := dc_167 (a := 3) (b := 132) (dcc (r := 11) lq_7 rfl (Nat.le_of_ble_eq_true rfl) (by decide +kernel)) rfl
theorem dl_462 : decode code 462 = .ok (.aload_n 1, 1) := dc_43 (dcc (r := 14) lq_7 rfl (Nat.le_of_ble_eq_true rfl) (by decide +kernel))
theorem dl_463 : decode code 463 = .ok (.aload_n 0, 1) := dc_42 (dcc (r := 15) lq_7 rfl (Nat.le_of_ble_eq_true rfl) (by decide +kernel))
theorem dl_464 : decode code 464 = .ok (.iload_n 3, 1) := dc_29 (dcc (r := 16) lq_7 rfl (Nat.le_of_ble_eq_true rfl) (by decide +kernel))
theorem dl_465 : decode code 465 = .ok (.iconst 1, 1) := dc_4 (dcc (r := 17) lq_7 rfl (Nat.le_of_ble_eq_true rfl) (by decide +kernel))
theorem dl_466 : decode code 466 = .ok (.iadd, 1) := dc_96 (dcc (r := 18) lq_7 rfl (Nat.le_of_ble_eq_true rfl) (by decide +kernel))
theorem dl_467 : decode code 467 = .ok (.iaload, 1) := dc_46 (dcc (r := 19) lq_7 rfl (Nat.le_of_ble_eq_true rfl) (by decide +kernel))
theorem dl_468 : decode code 468 = .ok (.aload_n 0, 1) := dc_42 (dcc (r := 20) lq_7 rfl (Nat.le_of_ble_eq_true rfl) (by decide +kernel))
theorem dl_469 : decode code 469 = .ok (.iload_n 3, 1) := dc_29 (dcc (r := 21) lq_7 rfl (Nat.le_of_ble_eq_true rfl) (by decide +kernel))
theorem dl_470 : decode code 470 = .ok (.iconst 2, 1) := dc_5 (dcc (r := 22) lq_7 rfl (Nat.le_of_ble_eq_true rfl) (by decide +kernel))
theorem dl_471 : decode code 471 = .ok (.iadd, 1) := dc_96 (dcc (r := 23) lq_7 rfl (Nat.le_of_ble_eq_true rfl) (by decide +kernel))
theorem dl_472 : decode code 472 = .ok (.iaload, 1) := dc_46 (dcc (r := 24) lq_7 rfl (Nat.le_of_ble_eq_true rfl) (by decide +kernel))
theorem dl_473 : decode code 473 = .ok (.invokevirtual 57, 3) := dc_182 (a := 0) (b := 57) (dcc (r := 25) lq_7 rfl (Nat.le_of_ble_eq_true rfl) (by decide +kernel)) rfl
theorem dl_476 : decode code 476 = .ok (.pop, 1) := dc_87 (dcc (r := 28) lq_7 rfl (Nat.le_of_ble_eq_true rfl) (by decide +kernel))
theorem dl_477 : decode code 477 = .ok (.aload_n 2, 1) := dc_44 (dcc (r := 29) lq_7 rfl (Nat.le_of_ble_eq_true rfl) (by decide +kernel))
theorem dl_478 : decode code 478 = .ok (.aload_n 0, 1) := dc_42 (dcc (r := 30) lq_7 rfl (Nat.le_of_ble_eq_true rfl) (by decide +kernel))
theorem dl_479 : decode code 479 = .ok (.iload_n 3, 1) := dc_29 (dcc (r := 31) lq_7 rfl (Nat.le_of_ble_eq_true rfl) (by decide +kernel))
theorem dl_480 : decode code 480 = .ok (.iconst 1, 1) := dc_4 (dcc (r := 32) lq_7 rfl (Nat.le_of_ble_eq_true rfl) (by decide +kernel))
theorem dl_481 : decode code 481 = .ok (.iadd, 1) := dc_96 (dcc (r := 33) lq_7 rfl (Nat.le_of_ble_eq_true rfl) (by decide +kernel))
theorem dl_482 : decode code 482 = .ok (.iaload, 1) := dc_46 (dcc (r := 34) lq_7 rfl (Nat.le_of_ble_eq_true rfl) (by decide +kernel))
theorem dl_483 : decode code 483 = .ok (.aload_n 0, 1) := dc_42 (dcc (r := 35) lq_7 rfl (Nat.le_of_ble_eq_true rfl) (by decide +kernel))
theorem dl_484 : decode code 484 = .ok (.iload_n 3, 1) := dc_29 (dcc (r := 36) lq_7 rfl (Nat.le_of_ble_eq_true rfl) (by decide +kernel))
theorem dl_485 : decode code 485 = .ok (.iconst 2, 1) := dc_5 (dcc (r := 37) lq_7 rfl (Nat.le_of_ble_eq_true rfl) (by decide +kernel))
theorem dl_486 : decode code 486 = .ok (.iadd, 1) := dc_96 (dcc (r := 38) lq_7 rfl (Nat.le_of_ble_eq_true rfl) (by decide +kernel))
theorem dl_487 : decode code 487 = .ok (.iaload, 1) := dc_46 (dcc (r := 39) lq_7 rfl (Nat.le_of_ble_eq_true rfl) (by decide +kernel))
theorem dl_488 : decode code 488 = .ok (.invokevirtual 60, 3) := dc_182 (a := 0) (b := 60) (dcc (r := 40) lq_7 rfl (Nat.le_of_ble_eq_true rfl) (by decide +kernel)) rfl
theorem dl_491 : decode code 491 = .ok (.pop, 1) := dc_87 (dcc (r := 43) lq_7 rfl (Nat.le_of_ble_eq_true rfl) (by decide +kernel))
theorem dl_492 : decode code 492 = .ok (.goto 867, 3) := dc_167 (a := 3) (b := 99) (dcc (r := 44) lq_7 rfl (Nat.le_of_ble_eq_true rfl) (by decide +kernel)) rfl
theorem dl_495 : decode code 495 = .ok (.aload_n 1, 1) := dc_43 (dcc (r := 47) lq_7 rfl (Nat.le_of_ble_eq_true rfl) (by decide +kernel))
theorem dl_496 : decode code 496 = .ok (.aload_n 0, 1) := dc_42 (dcc (r := 48) lq_7 rfl (Nat.le_of_ble_eq_true rfl) (by decide +kernel))
theorem dl_497 : decode code 497 = .ok (.iload_n 3, 1) := dc_29 (dcc (r := 49) lq_7 rfl (Nat.le_of_ble_eq_true rfl) (by decide +kernel))
theorem dl_498 : decode code 498 = .ok (.iconst 1, 1) := dc_4 (dcc (r := 50) lq_7 rfl (Nat.le_of_ble_eq_true rfl) (by decide +kernel))
theorem dl_499 : decode code 499 = .ok (.iadd, 1) := dc_96 (dcc (r := 51) lq_7 rfl (Nat.le_of_ble_eq_true rfl) (by decide +kernel))
theorem dl_500 : decode code 500 = .ok (.iaload, 1) := dc_46 (dcc (r := 52) lq_7 rfl (Nat.le_of_ble_eq_true rfl) (by decide +kernel))
theorem dl_501 : decode code 501 = .ok (.aload_n 0, 1) := dc_42 (dcc (r := 53) lq_7 rfl (Nat.le_of_ble_eq_true rfl) (by decide +kernel))
theorem dl_502 : decode code 502 = .ok (.iload_n 3, 1) := dc_29 (dcc (r := 54) lq_7 rfl (Nat.le_of_ble_eq_true rfl) (by decide +kernel))
theorem dl_503 : decode code 503 = .ok (.iconst 2, 1) := dc_5 (dcc (r := 55) lq_7 rfl (Nat.le_of_ble_eq_true rfl) (by decide +kernel))
theorem dl_504 : decode code 504 = .ok (.iadd, 1) := dc_96 (dcc (r := 56) lq_7 rfl (Nat.le_of_ble_eq_true rfl) (by decide +kernel))
theorem dl_505 : decode code 505 = .ok (.iaload, 1) := dc_46 (dcc (r := 57) lq_7 rfl (Nat.le_of_ble_eq_true rfl) (by decide +kernel))
theorem dl_506 : decode code 506 = .ok (.invokevirtual 61, 3) := dc_182 (a := 0) (b := 61) (dcc (r := 58) lq_7 rfl (Nat.le_of_ble_eq_true rfl) (by decide +kernel)) rfl
theorem dl_509 : decode code 509 = .ok (.pop, 1) := dc_87 (dcc (r := 61) lq_7 rfl (Nat.le_of_ble_eq_true rfl) (by decide +kernel))
theorem dl_510 : decode code 510 = .ok (.aload_n 2, 1) := dc_44 (dcc (r := 62) lq_7 rfl (Nat.le_of_ble_eq_true rfl) (by decide +kernel))
theorem dl_511 : decode code 511 = .ok (.aload_n 0, 1) := dc_42 (dcc (r := 63) lq_7 rfl (Nat.le_of_ble_eq_true rfl) (by decide +kernel))
theorem dl_512 : decode code 512 = .ok (.iload_n 3, 1) := dc_29 (dcc (r := 0) lq_8 rfl (Nat.le_of_ble_eq_true rfl) (by decide +kernel))
theorem dl_513 : decode code 513 = .ok (.iconst 1, 1) := dc_4 (dcc (r := 1) lq_8 rfl (Nat.le_of_ble_eq_true rfl) (by decide +kernel))
theorem dl_514 : decode code 514 = .ok (.iadd, 1) := dc_96 (dcc (r := 2) lq_8 rfl (Nat.le_of_ble_eq_true rfl) (by decide +kernel))
theorem dl_515 : decode code 515 = .ok (.iaload, 1) := dc_46 (dcc (r := 3) lq_8 rfl (Nat.le_of_ble_eq_true rfl) (by decide +kernel))
theorem dl_516 : decode code 516 = .ok (.aload_n 0, 1) := dc_42 (dcc (r := 4) lq_8 rfl (Nat.le_of_ble_eq_true rfl) (by decide +kernel))
theorem dl_517 : decode code 517 = .ok (.iload_n 3, 1) := dc_29 (dcc (r := 5) lq_8 rfl (Nat.le_of_ble_eq_true rfl) (by decide +kernel))
theorem dl_518 : decode code 518 = .ok (.iconst 2, 1) := dc_5 (dcc (r := 6) lq_8 rfl (Nat.le_of_ble_eq_true rfl) (by decide +kernel))
theorem dl_519 : decode code 519 = .ok (.iadd, 1) := dc_96 (dcc (r := 7) lq_8 rfl (Nat.le_of_ble_eq_true rfl) (by decide +kernel))
theorem dl_520 : decode code 520 = .ok (.iaload, 1) := dc_46 (dcc (r := 8) lq_8 rfl (Nat.le_of_ble_eq_true rfl) (by decide +kernel))
theorem dl_521 : decode code 521 = .ok (.invokevirtual 64, 3) := dc_182 (a := 0) (b := 64) (dcc (r := 9) lq_8 rfl (Nat.le_of_ble_eq_true rfl) (by decide +kernel)) rfl
theorem dl_524 : decode code 524 = .ok (.pop, 1) := dc_87 (dcc (r := 12) lq_8 rfl (Nat.le_of_ble_eq_true rfl) (by decide +kernel))
theorem dl_525 : decode code 525 = .ok (.goto 834, 3) := dc_167 (a := 3) (b := 66) (dcc (r := 13) lq_8 rfl (Nat.le_of_ble_eq_true rfl) (by decide +kernel)) rfl
theorem dl_528 : decode code 528 = .ok (.aload_n 1, 1) := dc_43 (dcc (r := 16) lq_8 rfl (Nat.le_of_ble_eq_true rfl) (by decide +kernel))
theorem dl_529 : decode code 529 = .ok (.aload_n 0, 1) := dc_42 (dcc (r := 17) lq_8 rfl (Nat.le_of_ble_eq_true rfl) (by decide +kernel))
theorem dl_530 : decode code 530 = .ok (.iload_n 3, 1) := dc_29 (dcc (r := 18) lq_8 rfl (Nat.le_of_ble_eq_true rfl) (by decide +kernel))
theorem dl_531 : decode code 531 = .ok (.iconst 1, 1) := dc_4 (dcc (r := 19) lq_8 rfl (Nat.le_of_ble_eq_true rfl) (by decide +kernel))
theorem dl_532 : decode code 532 = .ok (.iadd, 1) := dc_96 (dcc (r := 20) lq_8 rfl (Nat.le_of_ble_eq_true rfl) (by decide +kernel))
theorem dl_533 : decode code 533 = .ok (.iaload, 1) := dc_46 (dcc (r := 21) lq_8 rfl (Nat.le_of_ble_eq_true rfl) (by decide +kernel))
theorem dl_534 : decode code 534 = .ok (.aload_n 0, 1) := dc_42 (dcc (r := 22) lq_8 rfl (Nat.le_of_ble_eq_true rfl) (by decide +kernel))
theorem dl_535 : decode code 535 = .ok (.iload_n 3, 1) := dc_29 (dcc (r := 23) lq_8 rfl (Nat.le_of_ble_eq_true rfl) (by decide +kernel))
theorem dl_536 : decode code 536 = .ok (.iconst 2, 1) := dc_5 (dcc (r := 24) lq_8 rfl (Nat.le_of_ble_eq_true rfl) (by decide +kernel))
theorem dl_537 : decode code 537 = .ok (.iadd, 1) := dc_96 (dcc (r := 25) lq_8 rfl (Nat.le_of_ble_eq_true rfl) (by decide +kernel))
theorem dl_538 : decode code 538 = .ok (.iaload, 1) := dc_46 (dcc (r := 26) lq_8 rfl (Nat.le_of_ble_eq_true rfl) (by decide +kernel))
theorem dl_539 : decode code 539 = .ok (.invokevirtual 65, 3) := dc_182 (a := 0) (b := 65) (dcc (r := 27) lq_8 rfl (Nat.le_of_ble_eq_true rfl) (by decide +kernel)) rfl
theorem dl_542 : decode code 542 = .ok (.pop, 1) := dc_87 (dcc (r := 30) lq_8 rfl (Nat.le_of_ble_eq_true rfl) (by decide +kernel))
theorem dl_543 : decode code 543 = .ok (.aload_n 2, 1) := dc_44 (dcc (r := 31) lq_8 rfl (Nat.le_of_ble_eq_true rfl) (by decide +kernel))
theorem dl_544 : decode code 544 = .ok (.aload_n 0, 1) := dc_42 (dcc (r := 32) lq_8 rfl (Nat.le_of_ble_eq_true rfl) (by decide +kernel))
theorem dl_545 : decode code 545 = .ok (.iload_n 3, 1) := dc_29 (dcc (r := 33) lq_8 rfl (Nat.le_of_ble_eq_true rfl) (by decide +kernel))
theorem dl_546 : decode code 546 = .ok (.iconst 1, 1) := dc_4 (dcc (r := 34) lq_8 rfl (Nat.le_of_ble_eq_true rfl) (by decide +kernel))
theorem dl_547 : decode code 547 = .ok (.iadd, 1) := dc_96 (dcc (r := 35) lq_8 rfl (Nat.le_of_ble_eq_true rfl) (by decide +kernel))
theorem dl_548 : decode code 548 = .ok (.iaload, 1) := dc_46 (dcc (r := 36) lq_8 rfl (Nat.le_of_ble_eq_true rfl) (by decide +kernel))
theorem dl_549 : decode code 549 = .ok (.aload_n 0, 1) := dc_42 (dcc (r := 37) lq_8 rfl (Nat.le_of_ble_eq_true rfl) (by decide +kernel))
theorem dl_550 : decode code 550 = .ok (.iload_n 3, 1) := dc_29 (dcc (r := 38) lq_8 rfl (Nat.le_of_ble_eq_true rfl) (by decide +kernel))
theorem dl_551 : decode code 551 = .ok (.iconst 2, 1) := dc_5 (dcc (r := 39) lq_8 rfl (Nat.le_of_ble_eq_true rfl) (by decide +kernel))
theorem dl_552 : decode code 552 = .ok (.iadd, 1) := dc_96 (dcc (r := 40) lq_8 rfl (Nat.le_of_ble_eq_true rfl) (by decide +kernel))
theorem dl_553 : decode code 553 = .ok (.iaload, 1) := dc_46 (dcc (r := 41) lq_8 rfl (Nat.le_of_ble_eq_true rfl) (by decide +kernel))
theorem dl_554 : decode code 554 = .ok (.invokevirtual 68, 3) := dc_182 (a := 0) (b := 68) (dcc (r := 42) lq_8 rfl (Nat.le_of_ble_eq_true rfl) (by decide +kernel)) rfl
theorem dl_557 : decode code 557 = .ok (.pop, 1) := dc_87 (dcc (r := 45) lq_8 rfl (Nat.le_of_ble_eq_true rfl) (by decide +kernel))
theorem dl_558 : decode code 558 = .ok (.goto 801, 3) := dc_167 (a := 3) (b := 33) (dcc (r := 46) lq_8 rfl (Nat.le_of_ble_eq_true rfl) (by decide +kernel)) rfl
theorem dl_561 : decode code 561 = .ok (.aload_n 1, 1) := dc_43 (dcc (r := 49) lq_8 rfl (Nat.le_of_ble_eq_true rfl) (by decide +kernel))
theorem dl_562 : decode code 562 = .ok (.aload_n 0, 1) := dc_42 (dcc (r := 50) lq_8 rfl (Nat.le_of_ble_eq_true rfl) (by decide +kernel))
theorem dl_563 : decode code 563 = .ok (.iload_n 3, 1) := dc_29 (dcc (r := 51) lq_8 rfl (Nat.le_of_ble_eq_true rfl) (by decide +kernel))
theorem dl_564 : decode code 564 = .ok (.iconst 1, 1) := dc_4 (dcc (r := 52) lq_8 rfl (Nat.le_of_ble_eq_true rfl) (by decide +kernel))
theorem dl_565 : decode code 565 = .ok (.iadd, 1) := dc_96 (dcc (r := 53) lq_8 rfl (Nat.le_of_ble_eq_true rfl) (by decide +kernel))
theorem dl_566 : decode code 566 = .ok (.iaload, 1) := dc_46 (dcc (r := 54) lq_8 rfl (Nat.le_of_ble_eq_true rfl) (by decide +kernel))
theorem dl_567 : decode code 567 = .ok (.aload_n 0, 1) := dc_42 (dcc (r := 55) lq_8 rfl (Nat.le_of_ble_eq_true rfl) (by decide +kernel))
theorem dl_568 : decode code 568 = .ok (.iload_n 3, 1) := dc_29 (dcc (r := 56) lq_8 rfl (Nat.le_of_ble_eq_true rfl) (by decide +kernel))
theorem dl_569 : decode code 569 = .ok (.iconst 2, 1) := dc_5 (dcc (r := 57) lq_8 rfl (Nat.le_of_ble_eq_true rfl) (by decide +kernel))
theorem dl_570 : decode code 570 = .ok (.iadd, 1) := dc_96 (dcc (r := 58) lq_8 rfl (Nat.le_of_ble_eq_true rfl) (by decide +kernel))
theorem dl_571 : decode code 571 = .ok (.iaload, 1) := dc_46 (dcc (r := 59) lq_8 rfl (Nat.le_of_ble_eq_true rfl) (by decide +kernel))
theorem dl_572 : decode code 572 = .ok (.aload_n 0, 1) := dc_42 (dcc (r := 60) lq_8 rfl (Nat.le_of_ble_eq_true rfl) (by decide +kernel))
theorem dl_573 : decode code 573 = .ok (.iload_n 3, 1) := dc_29 (dcc (r := 61) lq_8 rfl (Nat.le_of_ble_eq_true rfl) (by decide +kernel))
theorem dl_574 : decode code 574 = .ok (.iconst 3, 1) := dc_6 (dcc (r := 62) lq_8 rfl (Nat.le_of_ble_eq_true rfl) (by decide +kernel))
theorem dl_575 : decode code 575 = .ok (.iadd, 1) := dc_96 (dcc (r := 63) lq_8 rfl (Nat.le_of_ble_eq_true rfl) (by decide +kernel))
theorem dl_576 : decode code 576 = .ok (.iaload, 1) := dc_46 (dcc (r := 0) lq_9 rfl (Nat.le_of_ble_eq_true rfl) (by decide +kernel))
theorem dl_577 : decode code 577 = .ok (.invokevirtual 69, 3) := dc_182 (a := 0) (b := 69) (dcc (r := 1) lq_9 rfl (Nat.le_of_ble_eq_true rfl) (by decide +kernel)) rfl
theorem dl_580 : decode code 580 = .ok (.pop, 1) := dc_87 (dcc (r := 4) lq_9 rfl (Nat.le_of_ble_eq_true rfl) (by decide +kernel))
theorem dl_581 : decode code 581 = .ok (.aload_n 2, 1) := dc_44 (dcc (r := 5) lq_9 rfl (Nat.le_of_ble_eq_true rfl) (by decide +kernel))
theorem dl_582 : decode code 582 = .ok (.aload_n 0, 1) := dc_42 (dcc (r := 6) lq_9 rfl (Nat.le_of_ble_eq_true rfl) (by decide +kernel))
theorem dl_583 : decode code 583 = .ok (.iload_n 3, 1) := dc_29 (dcc (r := 7) lq_9 rfl (Nat.le_of_ble_eq_true rfl) (by decide +kernel))
theorem dl_584 : decode code 584 = .ok (.iconst 1, 1) := dc_4 (dcc (r := 8) lq_9 rfl (Nat.le_of_ble_eq_true rfl) (by decide +kernel))
theorem dl_585 : decode code 585 = .ok (.iadd, 1) := dc_96 (dcc (r := 9) lq_9 rfl (Nat.le_of_ble_eq_true rfl) (by decide +kernel))
theorem dl_586 : decode code 586 = .ok (.iaload, 1) := dc_46 (dcc (r := 10) lq_9 rfl (Nat.le_of_ble_eq_true rfl) (by decide +kernel))
theorem dl_587 : decode code 587 = .ok (.aload_n 0, 1) := dc_42 (dcc (r := 11) lq_9 rfl (Nat.le_of_ble_eq_true rfl) (by decide +kernel))
theorem dl_588 : decode code 588 = .ok (.iload_n 3, 1) := dc_29 (dcc (r := 12) lq_9 rfl (Nat.le_of_ble_eq_true rfl) (by decide +kernel))
theorem dl_589 : decode code 589 = .ok (.iconst 2, 1) := dc_5 (dcc (r := 13) lq_9 rfl (Nat.le_of_ble_eq_true rfl) (by decide +kernel))
theorem dl_590 : decode code 590 = .ok (.iadd, 1) := dc_96 (dcc (r := 14) lq_9 rfl (Nat.le_of_ble_eq_true rfl) (by decide +kernel))
theorem dl_591 : decode code 591 = .ok (.iaload, 1) := dc_46 (dcc (r := 15) lq_9 rfl (Nat.le_of_ble_eq_true rfl) (by decide +kernel))
theorem dl_592 : decode code 592 = .ok (.aload_n 0, 1) := dc_42 (dcc (r := 16) lq_9 rfl (Nat.le_of_ble_eq_true rfl) (by decide +kernel))
theorem dl_593 : decode code 593 = .ok (.iload_n 3, 1) := dc_29 (dcc (r := 17) lq_9 rfl (Nat.le_of_ble_eq_true rfl) (by decide +kernel))
theorem dl_594 : decode code 594 = .ok (.iconst 3, 1) := dc_6 (dcc (r := 18) lq_9 rfl (Nat.le_of_ble_eq_true rfl) (by decide +kernel))
theorem dl_595 : decode code 595 = .ok (.iadd, 1) := dc_96 (dcc (r := 19) lq_9 rfl (Nat.le_of_ble_eq_true rfl) (by decide +kernel))
theorem dl_596 : decode code 596 = .ok (.iaload, 1) := dc_46 (dcc (r := 20) lq_9 rfl (Nat.le_of_ble_eq_true rfl) (by decide +kernel))
theorem dl_597 : decode code 597 = .ok (.invokevirtual 73, 3) := dc_182 (a := 0) (b := 73) (dcc (r := 21) lq_9 rfl (Nat.le_of_ble_eq_true rfl) (by decide +kernel)) rfl
theorem dl_600 : decode code 600 = .ok (.pop, 1) := dc_87 (dcc (r := 24) lq_9 rfl (Nat.le_of_ble_eq_true rfl) (by decide +kernel))
theorem dl_601 : decode code 601 = .ok (.goto 758, 3) := dc_167 (a := 2) (b := 246) (dcc (r := 25) lq_9 rfl (Nat.le_of_ble_eq_true rfl) (by decide +kernel)) rfl
theorem dl_604 : decode code 604 = .ok (.aload_n 1, 1) := dc_43 (dcc (r := 28) lq_9 rfl (Nat.le_of_ble_eq_true rfl) (by decide +kernel))
theorem dl_605 : decode code 605 = .ok (.aload_n 0, 1) := dc_42 (dcc (r := 29) lq_9 rfl (Nat.le_of_ble_eq_true rfl) (by decide +kernel))
theorem dl_606 : decode code 606 = .ok (.iload_n 3, 1) := dc_29 (dcc (r := 30) lq_9 rfl (Nat.le_of_ble_eq_true rfl) (by decide +kernel))
theorem dl_607 : decode code 607 = .ok (.iconst 1, 1) := dc_4 (dcc (r := 31) lq_9 rfl (Nat.le_of_ble_eq_true rfl) (by decide +kernel))
theorem dl_608 : decode code 608 = .ok (.iadd, 1) := dc_96 (dcc (r := 32) lq_9 rfl (Nat.le_of_ble_eq_true rfl) (by decide +kernel))
theorem dl_609 : decode code 609 = .ok (.iaload, 1) := dc_46 (dcc (r := 33) lq_9 rfl (Nat.le_of_ble_eq_true rfl) (by decide +kernel))
theorem dl_610 : decode code 610 = .ok (.invokevirtual 74, 3) := dc_182 (a := 0) (b := 74) (dcc (r := 34) lq_9 rfl (Nat.le_of_ble_eq_true rfl) (by decide +kernel)) rfl
theorem dl_613 : decode code 613 = .ok (.pop, 1) := dc_87 (dcc (r := 37) lq_9 rfl (Nat.le_of_ble_eq_true rfl) (by decide +kernel))
theorem dl_614 : decode code 614 = .ok (.aload_n 2, 1) := dc_44 (dcc (r := 38) lq_9 rfl (Nat.le_of_ble_eq_true rfl) (by decide +kernel))
theorem dl_615 : decode code 615 = .ok (.aload_n 0, 1) := dc_42 (dcc (r := 39) lq_9 rfl (Nat.le_of_ble_eq_true rfl) (by decide +kernel))
theorem dl_616 : decode code 616 = .ok (.iload_n 3, 1) := dc_29 (dcc (r := 40) lq_9 rfl (Nat.le_of_ble_eq_true rfl) (by decide +kernel))
theorem dl_617 : decode code 617 = .ok (.iconst 1, 1) := dc_4 (dcc (r := 41) lq_9 rfl (Nat.le_of_ble_eq_true rfl) (by decide +kernel))
theorem dl_618 : decode code 618 = .ok (.iadd, 1) := dc_96 (dcc (r := 42) lq_9 rfl (Nat.le_of_ble_eq_true rfl) (by decide +kernel))
theorem dl_619 : decode code 619 = .ok (.iaload, 1) := dc_46 (dcc (r := 43) lq_9 rfl (Nat.le_of_ble_eq_true rfl) (by decide +kernel))
theorem dl_620 : decode code 620 = .ok (.invokevirtual 77, 3) := dc_182 (a := 0) (b := 77) (dcc (r := 44) lq_9 rfl (Nat.le_of_ble_eq_true rfl) (by decide +kernel)) rfl
theorem dl_623 : decode code 623 = .ok (.pop, 1) := dc_87 (dcc (r := 47) lq_9 rfl (Nat.le_of_ble_eq_true rfl) (by decide +kernel))
theorem dl_624 : decode code 624 = .ok (.goto 735, 3) := dc_167 (a := 2) (b := 223) (dcc (r := 48) lq_9 rfl (Nat.le_of_ble_eq_true rfl) (by decide +kernel)) rfl
theorem dl_627 : decode code 627 = .ok (.aload_n 1, 1) := dc_43 (dcc (r := 51) lq_9 rfl (Nat.le_of_ble_eq_true rfl) (by decide +kernel))
theorem dl_628 : decode code 628 = .ok (.aload_n 0, 1) := dc_42 (dcc (r := 52) lq_9 rfl (Nat.le_of_ble_eq_true rfl) (by decide +kernel))
theorem dl_629 : decode code 629 = .ok (.iload_n 3, 1) := dc_29 (dcc (r := 53) lq_9 rfl (Nat.le_of_ble_eq_true rfl) (by decide +kernel))
theorem dl_630 : decode code 630 = .ok (.iconst 1, 1) := dc_4 (dcc (r := 54) lq_9 rfl (Nat.le_of_ble_eq_true rfl) (by decide +kernel))
theorem dl_631 : decode code 631 = .ok (.iadd, 1) := dc_96 (dcc (r := 55) lq_9 rfl (Nat.le_of_ble_eq_true rfl) (by decide +kernel))
theorem dl_632 : decode code 632 = .ok (.iaload, 1) := dc_46 (dcc (r := 56) lq_9 rfl (Nat.le_of_ble_eq_true rfl) (by decide +kernel))
theorem dl_633 : decode code 633 = .ok (.invokevirtual 78, 3) := dc_182 (a := 0) (b := 78) (dcc (r := 57) lq_9 rfl (Nat.le_of_ble_eq_true rfl) (by decide +kernel)) rfl
theorem dl_636 : decode code 636 = .ok (.pop, 1) := dc_87 (dcc (r := 60) lq_9 rfl (Nat.le_of_ble_eq_true rfl) (by decide +kernel))
theorem dl_637 : decode code 637 = .ok (.aload_n 2, 1) := dc_44 (dcc (r := 61) lq_9 rfl (Nat.le_of_ble_eq_true rfl) (by decide +kernel))
theorem dl_638 : decode code 638 = .ok (.aload_n 0, 1) := dc_42 (dcc (r := 62) lq_9 rfl (Nat.le_of_ble_eq_true rfl) (by decide +kernel))
theorem dl_639 : decode code 639 = .ok (.iload_n 3, 1) := dc_29 (dcc (r := 63) lq_9 rfl (Nat.le_of_ble_eq_true rfl) (by decide +kernel))
theorem dl_640 : decode code 640 = .ok (.iconst 1, 1) := dc_4 (dcc (r := 0) lq_10 rfl (Nat.le_of_ble_eq_true rfl) (by decide +kernel))
theorem dl_641 : decode code 641 = .ok (.iadd, 1) := dc_96 (dcc (r := 1) lq_10 rfl (Nat.le_of_ble_eq_true rfl) (by decide +kernel))
theorem dl_642 : decode code 642 = .ok (.iaload, 1) := dc_46 (dcc (r := 2) lq_10 rfl (Nat.le_of_ble_eq_true rfl) (by decide +kernel))
theorem dl_643 : decode code 643 = .ok (.invokevirtual 81, 3) := dc_182 (a := 0) (b := 81) (dcc (r := 3) lq_10 rfl (Nat.le_of_ble_eq_true rfl) (by decide +kernel)) rfl
theorem dl_646 : decode code 646 = .ok (.pop, 1) := dc_87 (dcc (r := 6) lq_10 rfl (Nat.le_of_ble_eq_true rfl) (by decide +kernel))
theorem dl_647 : decode code 647 = .ok (.goto 712, 3) := dc_167 (a := 2) (b := 200) (dcc (r := 7) lq_10 rfl (Nat.le_of_ble_eq_true rfl) (by decide +kernel)) rfl
theorem dl_650 : decode code 650 = .ok (.aload_n 1, 1) := dc_43 (dcc (r := 10) lq_10 rfl (Nat.le_of_ble_eq_true rfl) (by decide +kernel))
theorem dl_651 : decode code 651 = .ok (.aload_n 0, 1) := dc_42 (dcc (r := 11) lq_10 rfl (Nat.le_of_ble_eq_true rfl) (by decide +kernel))
theorem dl_652 : decode code 652 = .ok (.iload_n 3, 1) := dc_29 (dcc (r := 12) lq_10 rfl (Nat.le_of_ble_eq_true rfl) (by decide +kernel))
theorem dl_653 : decode code 653 = .ok (.iconst 1, 1) := dc_4 (dcc (r := 13) lq_10 rfl (Nat.le_of_ble_eq_true rfl) (by decide +kernel))
theorem dl_654 : decode code 654 = .ok (.iadd, 1) := dc_96 (dcc (r := 14) lq_10 rfl (Nat.le_of_ble_eq_true rfl) (by decide +kernel))
theorem dl_655 : decode code 655 = .ok (.iaload, 1) := dc_46 (dcc (r := 15) lq_10 rfl (Nat.le_of_ble_eq_true rfl) (by decide +kernel))
theorem dl_656 : decode code 656 = .ok (.aload_n 0, 1) := dc_42 (dcc (r := 16) lq_10 rfl (Nat.le_of_ble_eq_true rfl) (by decide +kernel))
theorem dl_657 : decode code 657 = .ok (.iload_n 3, 1) := dc_29 (dcc (r := 17) lq_10 rfl (Nat.le_of_ble_eq_true rfl) (by decide +kernel))
theorem dl_658 : decode code 658 = .ok (.iconst 2, 1) := dc_5 (dcc (r := 18) lq_10 rfl (Nat.le_of_ble_eq_true rfl) (by decide +kernel))
theorem dl_659 : decode code 659 = .ok (.iadd, 1) := dc_96 (dcc (r := 19) lq_10 rfl (Nat.le_of_ble_eq_true rfl) (by decide +kernel))
theorem dl_660 : decode code 660 = .ok (.iaload, 1) := dc_46 (dcc (r := 20) lq_10 rfl (Nat.le_of_ble_eq_true rfl) (by decide +kernel))
theorem dl_661 : decode code 661 = .ok (.aload_n 0, 1) := dc_42 (dcc (r := 21) lq_10 rfl (Nat.le_of_ble_eq_true rfl) (by decide +kernel))
theorem dl_662 : decode code 662 = .ok (.iload_n 3, 1) := dc_29 (dcc (r := 22) lq_10 rfl (Nat.le_of_ble_eq_true rfl) (by decide +kernel))
theorem dl_663 : decode code 663 = .ok (.iconst 3, 1) := dc_6 (dcc (r := 23) lq_10 rfl (Nat.le_of_ble_eq_true rfl) (by decide +kernel))
theorem dl_664 : decode code 664 = .ok (.iadd, 1) := dc_96 (dcc (r := 24) lq_10 rfl (Nat.le_of_ble_eq_true rfl) (by decide +kernel))
theorem dl_665 : decode code 665 = .ok (.iaload, 1) := dc_46 (dcc (r := 25) lq_10 rfl (Nat.le_of_ble_eq_true rfl) (by decide +kernel))
theorem dl_666 : decode code 666 = .ok (.invokevirtual 82, 3) := dc_182 (a := 0) (b := 82) (dcc (r := 26) lq_10 rfl (Nat.le_of_ble_eq_true rfl) (by decide +kernel)) rfl
theorem dl_669 : decode code 669 = .ok (.pop, 1) := dc_87 (dcc (r := 29) lq_10 rfl (Nat.le_of_ble_eq_true rfl) (by decide +kernel))
theorem dl_670 : decode code 670 = .ok (.aload_n 2, 1) := dc_44 (dcc (r := 30) lq_10 rfl (Nat.le_of_ble_eq_true rfl) (by decide +kernel))
theorem dl_671 : decode code 671 = .ok (.aload_n 0, 1) := dc_42 (dcc (r := 31) lq_10 rfl (Nat.le_of_ble_eq_true rfl) (by decide +kernel))
theorem dl_672 : decode code 672 = .ok (.iload_n 3, 1) := dc_29 (dcc (r := 32) lq_10 rfl (Nat.le_of_ble_eq_true rfl) (by decide +kernel))
theorem dl_673 : decode code 673 = .ok (.iconst 1, 1) := dc_4 (dcc (r := 33) lq_10 rfl (Nat.le_of_ble_eq_true rfl) (by decide +kernel))
theorem dl_674 : decode code 674 = .ok (.iadd, 1) := dc_96 (dcc (r := 34) lq_10 rfl (Nat.le_of_ble_eq_true rfl) (by decide +kernel))
theorem dl_675 : decode code 675 = .ok (.iaload, 1) := dc_46 (dcc (r := 35) lq_10 rfl (Nat.le_of_ble_eq_true rfl) (by decide +kernel))
theorem dl_676 : decode code 676 = .ok (.aload_n 0, 1) := dc_42 (dcc (r := 36) lq_10 rfl (Nat.le_of_ble_eq_true rfl) (by decide +kernel))
theorem dl_677 : decode code 677 = .ok (.iload_n 3, 1) := dc_29 (dcc (r := 37) lq_10 rfl (Nat.le_of_ble_eq_true rfl) (by decide +kernel))
theorem dl_678 : decode code 678 = .ok (.iconst 2, 1) := dc_5 (dcc (r := 38) lq_10 rfl (Nat.le_of_ble_eq_true rfl) (by decide +kernel))
theorem dl_679 : decode code 679 = .ok (.iadd, 1) := dc_96 (dcc (r := 39) lq_10 rfl (Nat.le_of_ble_eq_true rfl) (by decide +kernel))
theorem dl_680 : decode code 680 = .ok (.iaload, 1) := dc_46 (dcc (r := 40) lq_10 rfl (Nat.le_of_ble_eq_true rfl) (by decide +kernel))
theorem dl_681 : decode code 681 = .ok (.aload_n 0, 1) := dc_42 (dcc (r := 41) lq_10 rfl (Nat.le_of_ble_eq_true rfl) (by decide +kernel))
theorem dl_682 : decode code 682 = .ok (.iload_n 3, 1) := dc_29 (dcc (r := 42) lq_10 rfl (Nat.le_of_ble_eq_true rfl) (by decide +kernel))
theorem dl_683 : decode code 683 = .ok (.iconst 3, 1) := dc_6 (dcc (r := 43) lq_10 rfl (Nat.le_of_ble_eq_true rfl) (by decide +kernel))
theorem dl_684 : decode code 684 = .ok (.iadd, 1) := dc_96 (dcc (r := 44) lq_10 rfl (Nat.le_of_ble_eq_true rfl) (by decide +kernel))
theorem dl_685 : decode code 685 = .ok (.iaload, 1) := dc_46 (dcc (r := 45) lq_10 rfl (Nat.le_of_ble_eq_true rfl) (by decide +kernel))
theorem dl_686 : decode code 686 = .ok (.invokevirtual 85, 3) := dc_182 (a := 0) (b := 85) (dcc (r := 46) lq_10 rfl (Nat.le_of_ble_eq_true rfl) (by decide +kernel)) rfl
theorem dl_689 : decode code 689 = .ok (.pop, 1) := dc_87 (dcc (r := 49) lq_10 rfl (Nat.le_of_ble_eq_true rfl) (by decide +kernel))
theorem dl_690 : decode code 690 = .ok (.goto 669, 3) := dc_167 (a := 2) (b := 157) (dcc (r := 50) lq_10 rfl (Nat.le_of_ble_eq_true rfl) (by decide +kernel)) rfl
theorem dl_693 : decode code 693 = .ok (.aload_n 1, 1) := dc_43 (dcc (r := 53) lq_10 rfl (Nat.le_of_ble_eq_true rfl) (by decide +kernel))
theorem dl_694 : decode code 694 = .ok (.aload_n 0, 1) := dc_42 (dcc (r := 54) lq_10 rfl (Nat.le_of_ble_eq_true rfl) (by decide +kernel))
theorem dl_695 : decode code 695 = .ok (.iload_n 3, 1) := dc_29 (dcc (r := 55) lq_10 rfl (Nat.le_of_ble_eq_true rfl) (by decide +kernel))
theorem dl_696 : decode code 696 = .ok (.iconst 1, 1) := dc_4 (dcc (r := 56) lq_10 rfl (Nat.le_of_ble_eq_true rfl) (by decide +kernel))
theorem dl_697 : decode code 697 = .ok (.iadd, 1) := dc_96 (dcc (r := 57) lq_10 rfl (Nat.le_of_ble_eq_true rfl) (by decide +kernel))
theorem dl_698 : decode code 698 = .ok (.iaload, 1) := dc_46 (dcc (r := 58) lq_10 rfl (Nat.le_of_ble_eq_true rfl) (by decide +kernel))
theorem dl_699 : decode code 699 = .ok (.aload_n 0, 1) := dc_42 (dcc (r := 59) lq_10 rfl (Nat.le_of_ble_eq_true rfl) (by decide +kernel))
theorem dl_700 : decode code 700 = .ok (.iload_n 3, 1) := dc_29 (dcc (r := 60) lq_10 rfl (Nat.le_of_ble_eq_true rfl) (by decide +kernel))
theorem dl_701 : decode code 701 = .ok (.iconst 2, 1) := dc_5 (dcc (r := 61) lq_10 rfl (Nat.le_of_ble_eq_true rfl) (by decide +kernel))
theorem dl_702 : decode code 702 = .ok (.iadd, 1) := dc_96 (dcc (r := 62) lq_10 rfl (Nat.le_of_ble_eq_true rfl) (by decide +kernel))
theorem dl_703 : decode code 703 = .ok (.iaload, 1) := dc_46 (dcc (r := 63) lq_10 rfl (Nat.le_of_ble_eq_true rfl) (by decide +kernel))
theorem dl_704 : decode code 704 = .ok (.aload_n 0, 1) := dc_42 (dcc (r := 0) lq_11 rfl (Nat.le_of_ble_eq_true rfl) (by decide +kernel))
theorem dl_705 : decode code 705 = .ok (.iload_n 3, 1) := dc_29 (dcc (r := 1) lq_11 rfl (Nat.le_of_ble_eq_true rfl) (by decide +kernel))
theorem dl_706 : decode code 706 = .ok (.iconst 3, 1) := dc_6 (dcc (r := 2) lq_11 rfl (Nat.le_of_ble_eq_true rfl) (by decide +kernel))
theorem dl_707 : decode code 707 = .ok (.iadd, 1) := dc_96 (dcc (r := 3) lq_11 rfl (Nat.le_of_ble_eq_true rfl) (by decide +kernel))
theorem dl_708 : decode code 708 = .ok (.iaload, 1) := dc_46 (dcc (r := 4) lq_11 rfl (Nat.le_of_ble_eq_true rfl) (by decide +kernel))
theorem dl_709 : decode code 709 = .ok (.aload_n 0, 1) := dc_42 (dcc (r := 5) lq_11 rfl (Nat.le_of_ble_eq_true rfl) (by decide +kernel))
theorem dl_710 : decode code 710 = .ok (.iload_n 3, 1) := dc_29 (dcc (r := 6) lq_11 rfl (Nat.le_of_ble_eq_true rfl) (by decide +kernel))
theorem dl_711 : decode code 711 = .ok (.iconst 4, 1) := dc_7 (dcc (r := 7) lq_11 rfl (Nat.le_of_ble_eq_true rfl) (by decide +kernel))
theorem dl_712 : decode code 712 = .ok (.iadd, 1) := dc_96 (dcc (r := 8) lq_11 rfl (Nat.le_of_ble_eq_true rfl) (by decide +kernel))
theorem dl_713 : decode code 713 = .ok (.iaload, 1) := dc_46 (dcc (r := 9) lq_11 rfl (Nat.le_of_ble_eq_true rfl) (by decide +kernel))
theorem dl_714 : decode code 714 = .ok (.ifCond .eq 7, 3) := dc_153 (a := 0) (b := 7) (dcc (r := 10) lq_11 rfl (Nat.le_of_ble_eq_true rfl) (by decide +kernel)) rfl
theorem dl_717 : decode code 717 = .ok (.iconst 1, 1) := dc_4 (dcc (r := 13) lq_11 rfl (Nat.le_of_ble_eq_true rfl) (by decide +kernel))
theorem dl_718 : decode code 718 = .ok (.goto 4, 3) := dc_167 (a := 0) (b := 4) (dcc (r := 14) lq_11 rfl (Nat.le_of_ble_eq_true rfl) (by decide +kernel)) rfl
theorem dl_721 : decode code 721 = .ok (.iconst 0, 1) := dc_3 (dcc (r := 17) lq_11 rfl (Nat.le_of_ble_eq_true rfl) (by decide +kernel))
theorem dl_722 : decode code 722 = .ok (.invokevirtual 86, 3) := dc_182 (a := 0) (b := 86) (dcc (r := 18) lq_11 rfl (Nat.le_of_ble_eq_true rfl) (by decide +kernel)) rfl
theorem dl_725 : decode code 725 = .ok (.pop, 1) := dc_87 (dcc (r := 21) lq_11 rfl (Nat.le_of_ble_eq_true rfl) (by decide +kernel))
theorem dl_726 : decode code 726 = .ok (.aload_n 2, 1) := dc_44 (dcc (r := 22) lq_11 rfl (Nat.le_of_ble_eq_true rfl) (by decide +kernel))
theorem dl_727 : decode code 727 = .ok (.aload_n 0, 1) := dc_42 (dcc (r := 23) lq_11 rfl (Nat.le_of_ble_eq_true rfl) (by decide +kernel))
theorem dl_728 : decode code 728 = .ok (.iload_n 3, 1) := dc_29 (dcc (r := 24) lq_11 rfl (Nat.le_of_ble_eq_true rfl) (by decide +kernel))
theorem dl_729 : decode code 729 = .ok (.iconst 1, 1) := dc_4 (dcc (r := 25) lq_11 rfl (Nat.le_of_ble_eq_true rfl) (by decide +kernel))
theorem dl_730 : decode code 730 = .ok (.iadd, 1) := dc_96 (dcc (r := 26) lq_11 rfl (Nat.le_of_ble_eq_true rfl) (by decide +kernel))
theorem dl_731 : decode code 731 = .ok (.iaload, 1) := dc_46 (dcc (r := 27) lq_11 rfl (Nat.le_of_ble_eq_true rfl) (by decide +kernel))
theorem dl_732 : decode code 732 = .ok (.aload_n 0, 1) := dc_42 (dcc (r := 28) lq_11 rfl (Nat.le_of_ble_eq_true rfl) (by decide +kernel))
theorem dl_733 : decode code 733 = .ok (.iload_n 3, 1) := dc_29 (dcc (r := 29) lq_11 rfl (Nat.le_of_ble_eq_true rfl) (by decide +kernel))
theorem dl_734 : decode code 734 = .ok (.iconst 2, 1) := dc_5 (dcc (r := 30) lq_11 rfl (Nat.le_of_ble_eq_true rfl) (by decide +kernel))
theorem dl_735 : decode code 735 = .ok (.iadd, 1) := dc_96 (dcc (r := 31) lq_11 rfl (Nat.le_of_ble_eq_true rfl) (by decide +kernel))
theorem dl_736 : decode code 736 = .ok (.iaload, 1) := dc_46 (dcc (r := 32) lq_11 rfl (Nat.le_of_ble_eq_true rfl) (by decide +kernel))
theorem dl_737 : decode code 737 = .ok (.aload_n 0, 1) := dc_42 (dcc (r := 33) lq_11 rfl (Nat.le_of_ble_eq_true rfl) (by decide +kernel))
theorem dl_738 : decode code 738 = .ok (.iload_n 3, 1) := dc_29 (dcc (r := 34) lq_11 rfl (Nat.le_of_ble_eq_true rfl) (by decide +kernel))
theorem dl_739 : decode code 739 = .ok (.iconst 3, 1) := dc_6 (dcc (r := 35) lq_11 rfl (Nat.le_of_ble_eq_true rfl) (by decide +kernel))
theorem dl_740 : decode code 740 = .ok (.iadd, 1) := dc_96 (dcc (r := 36) lq_11 rfl (Nat.le_of_ble_eq_true rfl) (by decide +kernel))
theorem dl_741 : decode code 741 = .ok (.iaload, 1) := dc_46 (dcc (r := 37) lq_11 rfl (Nat.le_of_ble_eq_true rfl) (by decide +kernel))
theorem dl_742 : decode code 742 = .ok (.aload_n 0, 1) := dc_42 (dcc (r := 38) lq_11 rfl (Nat.le_of_ble_eq_true rfl) (by decide +kernel))
theorem dl_743 : decode code 743 = .ok (.iload_n 3, 1) := dc_29 (dcc (r := 39) lq_11 rfl (Nat.le_of_ble_eq_true rfl) (by decide +kernel))
theorem dl_744 : decode code 744 = .ok (.iconst 4, 1) := dc_7 (dcc (r := 40) lq_11 rfl (Nat.le_of_ble_eq_true rfl) (by decide +kernel))
theorem dl_745 : decode code 745 = .ok (.iadd, 1) := dc_96 (dcc (r := 41) lq_11 rfl (Nat.le_of_ble_eq_true rfl) (by decide +kernel))
theorem dl_746 : decode code 746 = .ok (.iaload, 1) := dc_46 (dcc (r := 42) lq_11 rfl (Nat.le_of_ble_eq_true rfl) (by decide +kernel))
theorem dl_747 : decode code 747 = .ok (.ifCond .eq 7, 3) := dc_153 (a := 0) (b := 7) (dcc (r := 43) lq_11 rfl (Nat.le_of_ble_eq_true rfl) (by decide +kernel)) rfl
theorem dl_750 : decode code 750 = .ok (.iconst 1, 1) := dc_4 (dcc (r := 46) lq_11 rfl (Nat.le_of_ble_eq_true rfl) (by decide +kernel))
theorem dl_751 : decode code 751 = .ok (.goto 4, 3) := dc_167 (a := 0) (b := 4) (dcc (r := 47) lq_11 rfl (Nat.le_of_ble_eq_true rfl) (by decide +kernel)) rfl
theorem dl_754 : decode code 754 = .ok (.iconst 0, 1) := dc_3 (dcc (r := 50) lq_11 rfl (Nat.le_of_ble_eq_true rfl) (by decide +kernel))
theorem dl_755 : decode code 755 = .ok (.invokevirtual 90, 3) := dc_182 (a := 0) (b := 90) (dcc (r := 51) lq_11 rfl (Nat.le_of_ble_eq_true rfl) (by decide +kernel)) rfl
theorem dl_758 : decode code 758 = .ok (.pop, 1) := dc_87 (dcc (r := 54) lq_11 rfl (Nat.le_of_ble_eq_true rfl) (by decide +kernel))
theorem dl_759 : decode code 759 = .ok (.goto 600, 3) := dc_167 (a := 2) (b := 88) (dcc (r := 55) lq_11 rfl (Nat.le_of_ble_eq_true rfl) (by decide +kernel)) rfl
theorem dl_762 : decode code 762 = .ok (.aload_n 1, 1) := dc_43 (dcc (r := 58) lq_11 rfl (Nat.le_of_ble_eq_true rfl) (by decide +kernel))
theorem dl_763 : decode code 763 = .ok (.aload_n 0, 1) := dc_42 (dcc (r := 59) lq_11 rfl (Nat.le_of_ble_eq_true rfl) (by decide +kernel))
theorem dl_764 : decode code 764 = .ok (.iload_n 3, 1) := dc_29 (dcc (r := 60) lq_11 rfl (Nat.le_of_ble_eq_true rfl) (by decide +kernel))
theorem dl_765 : decode code 765 = .ok (.iconst 1, 1) := dc_4 (dcc (r := 61) lq_11 rfl (Nat.le_of_ble_eq_true rfl) (by decide +kernel))
theorem dl_766 : decode code 766 = .ok (.iadd, 1) := dc_96 (dcc (r := 62) lq_11 rfl (Nat.le_of_ble_eq_true rfl) (by decide +kernel))
theorem dl_767 : decode code 767 = .ok (.iaload, 1) := dc_46 (dcc (r := 63) lq_11 rfl (Nat.le_of_ble_eq_true rfl) (by decide +kernel))
theorem dl_768 : decode code 768 = .ok (.invokevirtual 91, 3) := dc_182 (a := 0) (b := 91) (dcc (r := 0) lq_12 rfl (Nat.le_of_ble_eq_true rfl) (by decide +kernel)) rfl
theorem dl_771 : decode code 771 = .ok (.pop, 1) := dc_87 (dcc (r := 3) lq_12 rfl (Nat.le_of_ble_eq_true rfl) (by decide +kernel))
theorem dl_772 : decode code 772 = .ok (.aload_n 2, 1) := dc_44 (dcc (r := 4) lq_12 rfl (Nat.le_of_ble_eq_true rfl) (by decide +kernel))
theorem dl_773 : decode code 773 = .ok (.aload_n 0, 1) := dc_42 (dcc (r := 5) lq_12 rfl (Nat.le_of_ble_eq_true rfl) (by decide +kernel))
theorem dl_774 : decode code 774 = .ok (.iload_n 3, 1) := dc_29 (dcc (r := 6) lq_12 rfl (Nat.le_of_ble_eq_true rfl) (by decide +kernel))
theorem dl_775 : decode code 775 = .ok (.iconst 1, 1) := dc_4 (dcc (r := 7) lq_12 rfl (Nat.le_of_ble_eq_true rfl) (by decide +kernel))
theorem dl_776 : decode code 776 = .ok (.iadd, 1) := dc_96 (dcc (r := 8) lq_12 rfl (Nat.le_of_ble_eq_true rfl) (by decide +kernel))
theorem dl_777 : decode code 777 = .ok (.iaload, 1) := dc_46 (dcc (r := 9) lq_12 rfl (Nat.le_of_ble_eq_true rfl) (by decide +kernel))
theorem dl_778 : decode code 778 = .ok (.invokevirtual 94, 3) := dc_182 (a := 0) (b := 94) (dcc (r := 10) lq_12 rfl (Nat.le_of_ble_eq_true rfl) (by decide +kernel)) rfl
theorem dl_781 : decode code 781 = .ok (.pop, 1) := dc_87 (dcc (r := 13) lq_12 rfl (Nat.le_of_ble_eq_true rfl) (by decide +kernel))
theorem dl_782 : decode code 782 = .ok (.goto 577, 3) := dc_167 (a := 2) (b := 65) (dcc (r := 14) lq_12 rfl (Nat.le_of_ble_eq_true rfl) (by decide +kernel)) rfl
theorem dl_785 : decode code 785 = .ok (.aload_n 1, 1) := dc_43 (dcc (r := 17) lq_12 rfl (Nat.le_of_ble_eq_true rfl) (by decide +kernel))
theorem dl_786 : decode code 786 = .ok (.invokevirtual 95, 3) := dc_182 (a := 0) (b := 95) (dcc (r := 18) lq_12 rfl (Nat.le_of_ble_eq_true rfl) (by decide +kernel)) rfl
theorem dl_789 : decode code 789 = .ok (.pop, 1) := dc_87 (dcc (r := 21) lq_12 rfl (Nat.le_of_ble_eq_true rfl) (by decide +kernel))
theorem dl_790 : decode code 790 = .ok (.aload_n 2, 1) := dc_44 (dcc (r := 22) lq_12 rfl (Nat.le_of_ble_eq_true rfl) (by decide +kernel))
theorem dl_791 : decode code 791 = .ok (.invokevirtual 98, 3) := dc_182 (a := 0) (b := 98) (dcc (r := 23) lq_12 rfl (Nat.le_of_ble_eq_true rfl) (by decide +kernel)) rfl
theorem dl_794 : decode code 794 = .ok (.pop, 1) := dc_87 (dcc (r := 26) lq_12 rfl (Nat.le_of_ble_eq_true rfl) (by decide +kernel))
theorem dl_795 : decode code 795 = .ok (.goto 564, 3) := dc_167 (a := 2) (b := 52) (dcc (r := 27) lq_12 rfl (Nat.le_of_ble_eq_true rfl) (by decide +kernel)) rfl
theorem dl_798 : decode code 798 = .ok (.aload_n 1, 1) := dc_43 (dcc (r := 30) lq_12 rfl (Nat.le_of_ble_eq_true rfl) (by decide +kernel))
theorem dl_799 : decode code 799 = .ok (.aload_n 0, 1) := dc_42 (dcc (r := 31) lq_12 rfl (Nat.le_of_ble_eq_true rfl) (by decide +kernel))
theorem dl_800 : decode code 800 = .ok (.iload_n 3, 1) := dc_29 (dcc (r := 32) lq_12 rfl (Nat.le_of_ble_eq_true rfl) (by decide +kernel))
theorem dl_801 : decode code 801 = .ok (.iconst 1, 1) := dc_4 (dcc (r := 33) lq_12 rfl (Nat.le_of_ble_eq_true rfl) (by decide +kernel))
theorem dl_802 : decode code 802 = .ok (.iadd, 1) := dc_96 (dcc (r := 34) lq_12 rfl (Nat.le_of_ble_eq_true rfl) (by decide +kernel))
theorem dl_803 : decode code 803 = .ok (.iaload, 1) := dc_46 (dcc (r := 35) lq_12 rfl (Nat.le_of_ble_eq_true rfl) (by decide +kernel))
theorem dl_804 : decode code 804 = .ok (.invokevirtual 99, 3) := dc_182 (a := 0) (b := 99) (dcc (r := 36) lq_12 rfl (Nat.le_of_ble_eq_true rfl) (by decide +kernel)) rfl
theorem dl_807 : decode code 807 = .ok (.pop, 1) := dc_87 (dcc (r := 39) lq_12 rfl (Nat.le_of_ble_eq_true rfl) (by decide +kernel))
theorem dl_808 : decode code 808 = .ok (.aload_n 2, 1) := dc_44 (dcc (r := 40) lq_12 rfl (Nat.le_of_ble_eq_true rfl) (by decide +kernel))
theorem dl_809 : decode code 809 = .ok (.aload_n 0, 1) := dc_42 (dcc (r := 41) lq_12 rfl (Nat.le_of_ble_eq_true rfl) (by decide +kernel))
theorem dl_810 : decode code 810 = .ok (.iload_n 3, 1) := dc_29 (dcc (r := 42) lq_12 rfl (Nat.le_of_ble_eq_true rfl) (by decide +kernel))
theorem dl_811 : decode code 811 = .ok (.iconst 1, 1) := dc_4 (dcc (r := 43) lq_12 rfl (Nat.le_of_ble_eq_true rfl) (by decide +kernel))
theorem dl_812 : decode code 812 = .ok (.iadd, 1) := dc_96 (dcc (r := 44) lq_12 rfl (Nat.le_of_ble_eq_true rfl) (by decide +kernel))
theorem dl_813 : decode code 813 = .ok (.iaload, 1) := dc_46 (dcc (r := 45) lq_12 rfl (Nat.le_of_ble_eq_true rfl) (by decide +kernel))
theorem dl_814 : decode code 814 = .ok (.invokevirtual 102, 3) := dc_182 (a := 0) (b := 102) (dcc (r := 46) lq_12 rfl (Nat.le_of_ble_eq_true rfl) (by decide +kernel)) rfl
theorem dl_817 : decode code 817 = .ok (.pop, 1) := dc_87 (dcc (r := 49) lq_12 rfl (Nat.le_of_ble_eq_true rfl) (by decide +kernel))
theorem dl_818 : decode code 818 = .ok (.goto 541, 3) := dc_167 (a := 2) (b := 29) (dcc (r := 50) lq_12 rfl (Nat.le_of_ble_eq_true rfl) (by decide +kernel)) rfl
theorem dl_821 : decode code 821 = .ok (.aload_n 1, 1) := dc_43 (dcc (r := 53) lq_12 rfl (Nat.le_of_ble_eq_true rfl) (by decide +kernel))
theorem dl_822 : decode code 822 = .ok (.aload_n 0, 1) := dc_42 (dcc (r := 54) lq_12 rfl (Nat.le_of_ble_eq_true rfl) (by decide +kernel))
theorem dl_823 : decode code 823 = .ok (.iload_n 3, 1) := dc_29 (dcc (r := 55) lq_12 rfl (Nat.le_of_ble_eq_true rfl) (by decide +kernel))
theorem dl_824 : decode code 824 = .ok (.iconst 1, 1) := dc_4 (dcc (r := 56) lq_12 rfl (Nat.le_of_ble_eq_true rfl) (by decide +kernel))
theorem dl_825 : decode code 825 = .ok (.iadd, 1) := dc_96 (dcc (r := 57) lq_12 rfl (Nat.le_of_ble_eq_true rfl) (by decide +kernel))
theorem dl_826 : decode code 826 = .ok (.iaload, 1) := dc_46 (dcc (r := 58) lq_12 rfl (Nat.le_of_ble_eq_true rfl) (by decide +kernel))
theorem dl_827 : decode code 827 = .ok (.aload_n 0, 1) := dc_42 (dcc (r := 59) lq_12 rfl (Nat.le_of_ble_eq_true rfl) (by decide +kernel))
theorem dl_828 : decode code 828 = .ok (.iload_n 3, 1) := dc_29 (dcc (r := 60) lq_12 rfl (Nat.le_of_ble_eq_true rfl) (by decide +kernel))
theorem dl_829 : decode code 829 = .ok (.iconst 2, 1) := dc_5 (dcc (r := 61) lq_12 rfl (Nat.le_of_ble_eq_true rfl) (by decide +kernel))
theorem dl_830 : decode code 830 = .ok (.iadd, 1) := dc_96 (dcc (r := 62) lq_12 rfl (Nat.le_of_ble_eq_true rfl) (by decide +kernel))
theorem dl_831 : decode code 831 = .ok (.iaload, 1) := dc_46 (dcc (r := 63) lq_12 rfl (Nat.le_of_ble_eq_true rfl) (by decide +kernel))
theorem dl_832 : decode code 832 = .ok (.invokevirtual 103, 3) := dc_182 (a := 0) (b := 103) (dcc (r := 0) lq_13 rfl (Nat.le_of_ble_eq_true rfl) (by decide +kernel)) rfl
theorem dl_835 : decode code 835 = .ok (.pop, 1) := dc_87 (dcc (r := 3) lq_13 rfl (Nat.le_of_ble_eq_true rfl) (by decide +kernel))
theorem dl_836 : decode code 836 = .ok (.aload_n 2, 1) := dc_44 (dcc (r := 4) lq_13 rfl (Nat.le_of_ble_eq_true rfl) (by decide +kernel))
theorem dl_837 : decode code 837 = .ok (.aload_n 0, 1) := dc_42 (dcc (r := 5) lq_13 rfl (Nat.le_of_ble_eq_true rfl) (by decide +kernel))
theorem dl_838 : decode code 838 = .ok (.iload_n 3, 1) := dc_29 (dcc (r := 6) lq_13 rfl (Nat.le_of_ble_eq_true rfl) (by decide +kernel))
theorem dl_839 : decode code 839 = .ok (.iconst 1, 1) := dc_4 (dcc (r := 7) lq_13 rfl (Nat.le_of_ble_eq_true rfl) (by decide +kernel))
theorem dl_840 : decode code 840 = .ok (.iadd, 1) := dc_96 (dcc (r := 8) lq_13 rfl (Nat.le_of_ble_eq_true rfl) (by decide +kernel))
theorem dl_841 : decode code 841 = .ok (.iaload, 1) := dc_46 (dcc (r := 9) lq_13 rfl (Nat.le_of_ble_eq_true rfl) (by decide +kernel))
theorem dl_842 : decode code 842 = .ok (.aload_n 0, 1) := dc_42 (dcc (r := 10) lq_13 rfl (Nat.le_of_ble_eq_true rfl) (by decide +kernel))
theorem dl_843 : decode code 843 = .ok (.iload_n 3, 1) := dc_29 (dcc (r := 11) lq_13 rfl (Nat.le_of_ble_eq_true rfl) (by decide +kernel))
theorem dl_844 : decode code 844 = .ok (.iconst 2, 1) := dc_5 (dcc (r := 12) lq_13 rfl (Nat.le_of_ble_eq_true rfl) (by decide +kernel))
theorem dl_845 : decode code 845 = .ok (.iadd, 1) := dc_96 (dcc (r := 13) lq_13 rfl (Nat.le_of_ble_eq_true rfl) (by decide +kernel))
theorem dl_846 : decode code 846 = .ok (.iaload, 1) := dc_46 (dcc (r := 14) lq_13 rfl (Nat.le_of_ble_eq_true rfl) (by decide +kernel))
theorem dl_847 : decode code 847 = .ok (.invokevirtual 106, 3) := dc_182 (a := 0) (b := 106) (dcc (r := 15) lq_13 rfl (Nat.le_of_ble_eq_true rfl) (by decide +kernel)) rfl
theorem dl_850 : decode code 850 = .ok (.pop, 1) := dc_87 (dcc (r := 18) lq_13 rfl (Nat.le_of_ble_eq_true rfl) (by decide +kernel))
theorem dl_851 : decode code 851 = .ok (.goto 508, 3) := dc_167 (a := 1) (b := 252) (dcc (r := 19) lq_13 rfl (Nat.le_of_ble_eq_true rfl) (by decide +kernel)) rfl
theorem dl_854 : decode code 854 = .ok (.aload_n 1, 1) := dc_43 (dcc (r := 22) lq_13 rfl (Nat.le_of_ble_eq_true rfl) (by decide +kernel))
theorem dl_855 : decode code 855 = .ok (.aload_n 0, 1) := dc_42 (dcc (r := 23) lq_13 rfl (Nat.le_of_ble_eq_true rfl) (by decide +kernel))
theorem dl_856 : decode code 856 = .ok (.iload_n 3, 1) := dc_29 (dcc (r := 24) lq_13 rfl (Nat.le_of_ble_eq_true rfl) (by decide +kernel))
theorem dl_857 : decode code 857 = .ok (.iconst 1, 1) := dc_4 (dcc (r := 25) lq_13 rfl (Nat.le_of_ble_eq_true rfl) (by decide +kernel))
theorem dl_858 : decode code 858 = .ok (.iadd, 1) := dc_96 (dcc (r := 26) lq_13 rfl (Nat.le_of_ble_eq_true rfl) (by decide +kernel))
theorem dl_859 : decode code 859 = .ok (.iaload, 1) := dc_46 (dcc (r := 27) lq_13 rfl (Nat.le_of_ble_eq_true rfl) (by decide +kernel))
theorem dl_860 : decode code 860 = .ok (.aload_n 0, 1) := dc_42 (dcc (r := 28) lq_13 rfl (Nat.le_of_ble_eq_true rfl) (by decide +kernel))
theorem dl_861 : decode code 861 = .ok (.iload_n 3, 1) := dc_29 (dcc (r := 29) lq_13 rfl (Nat.le_of_ble_eq_true rfl) (by decide +kernel))
theorem dl_862 : decode code 862 = .ok (.iconst 2, 1) := dc_5 (dcc (r := 30) lq_13 rfl (Nat.le_of_ble_eq_true rfl) (by decide +kernel))
theorem dl_863 : decode code 863 = .ok (.iadd, 1) := dc_96 (dcc (r := 31) lq_13 rfl (Nat.le_of_ble_eq_true rfl) (by decide +kernel))
theorem dl_864 : decode code 864 = .ok (.iaload, 1) := dc_46 (dcc (r := 32) lq_13 rfl (Nat.le_of_ble_eq_true rfl) (by decide +kernel))
theorem dl_865 : decode code 865 = .ok (.aload_n 0, 1) := dc_42 (dcc (r := 33) lq_13 rfl (Nat.le_of_ble_eq_true rfl) (by decide +kernel))
theorem dl_866 : decode code 866 = .ok (.iload_n 3, 1) := dc_29 (dcc (r := 34) lq_13 rfl (Nat.le_of_ble_eq_true rfl) (by decide +kernel))
theorem dl_867 : decode code 867 = .ok (.iconst 3, 1) := dc_6 (dcc (r := 35) lq_13 rfl (Nat.le_of_ble_eq_true rfl) (by decide +kernel))
theorem dl_868 : decode code 868 = .ok (.iadd, 1) := dc_96 (dcc (r := 36) lq_13 rfl (Nat.le_of_ble_eq_true rfl) (by decide +kernel))
theorem dl_869 : decode code 869 = .ok (.iaload, 1) := dc_46 (dcc (r := 37) lq_13 rfl (Nat.le_of_ble_eq_true rfl) (by decide +kernel))
theorem dl_870 : decode code 870 = .ok (.aload_n 0, 1) := dc_42 (dcc (r := 38) lq_13 rfl (Nat.le_of_ble_eq_true rfl) (by decide +kernel))
theorem dl_871 : decode code 871 = .ok (.iload_n 3, 1) := dc_29 (dcc (r := 39) lq_13 rfl (Nat.le_of_ble_eq_true rfl) (by decide +kernel))
theorem dl_872 : decode code 872 = .ok (.iconst 4, 1) := dc_7 (dcc (r := 40) lq_13 rfl (Nat.le_of_ble_eq_true rfl) (by decide +kernel))
theorem dl_873 : decode code 873 = .ok (.iadd, 1) := dc_96 (dcc (r := 41) lq_13 rfl (Nat.le_of_ble_eq_true rfl) (by decide +kernel))
theorem dl_874 : decode code 874 = .ok (.iaload, 1) := dc_46 (dcc (r := 42) lq_13 rfl (Nat.le_of_ble_eq_true rfl) (by decide +kernel))
theorem dl_875 : decode code 875 = .ok (.invokevirtual 107, 3) := dc_182 (a := 0) (b := 107) (dcc (r := 43) lq_13 rfl (Nat.le_of_ble_eq_true rfl) (by decide +kernel)) rfl
theorem dl_878 : decode code 878 = .ok (.pop, 1) := dc_87 (dcc (r := 46) lq_13 rfl (Nat.le_of_ble_eq_true rfl) (by decide +kernel))
theorem dl_879 : decode code 879 = .ok (.aload_n 2, 1) := dc_44 (dcc (r := 47) lq_13 rfl (Nat.le_of_ble_eq_true rfl) (by decide +kernel))
theorem dl_880 : decode code 880 = .ok (.aload_n 0, 1) := dc_42 (dcc (r := 48) lq_13 rfl (Nat.le_of_ble_eq_true rfl) (by decide +kernel))
theorem dl_881 : decode code 881 = .ok (.iload_n 3, 1) := dc_29 (dcc (r := 49) lq_13 rfl (Nat.le_of_ble_eq_true rfl) (by decide +kernel))
theorem dl_882 : decode code 882 = .ok (.iconst 1, 1) := dc_4 (dcc (r := 50) lq_13 rfl (Nat.le_of_ble_eq_true rfl) (by decide +kernel))
theorem dl_883 : decode code 883 = .ok (.iadd, 1) := dc_96 (dcc (r := 51) lq_13 rfl (Nat.le_of_ble_eq_true rfl) (by decide +kernel))
theorem dl_884 : decode code 884 = .ok (.iaload, 1) := dc_46 (dcc (r := 52) lq_13 rfl (Nat.le_of_ble_eq_true rfl) (by decide +kernel))
theorem dl_885 : decode code 885 = .ok (.aload_n 0, 1) := dc_42 (dcc (r := 53) lq_13 rfl (Nat.le_of_ble_eq_true rfl) (by decide +kernel))
theorem dl_886 : decode code 886 = .ok (.iload_n 3, 1) := dc_29 (dcc (r := 54) lq_13 rfl (Nat.le_of_ble_eq_true rfl) (by decide +kernel))
theorem dl_887 : decode code 887 = .ok (.iconst 2, 1) := dc_5 (dcc (r := 55) lq_13 rfl (Nat.le_of_ble_eq_true rfl) (by decide +kernel))
theorem dl_888 : decode code 888 = .ok (.iadd, 1) := dc_96 (dcc (r := 56) lq_13 rfl (Nat.le_of_ble_eq_true rfl) (by decide +kernel))
theorem dl_889 : decode code 889 = .ok (.iaload, 1) := dc_46 (dcc (r := 57) lq_13 rfl (Nat.le_of_ble_eq_true rfl) (by decide +kernel))
theorem dl_890 : decode code 890 = .ok (.aload_n 0, 1) := dc_42 (dcc (r := 58) lq_13 rfl (Nat.le_of_ble_eq_true rfl) (by decide +kernel))
theorem dl_891 : decode code 891 = .ok (.iload_n 3, 1) := dc_29 (dcc (r := 59) lq_13 rfl (Nat.le_of_ble_eq_true rfl) (by decide +kernel))
theorem dl_892 : decode code 892 = .ok (.iconst 3, 1) := dc_6 (dcc (r := 60) lq_13 rfl (Nat.le_of_ble_eq_true rfl) (by decide +kernel))
theorem dl_893 : decode code 893 = .ok (.iadd, 1) := dc_96 (dcc (r := 61) lq_13 rfl (Nat.le_of_ble_eq_true rfl) (by decide +kernel))
theorem dl_894 : decode code 894 = .ok (.iaload, 1) := dc_46 (dcc (r := 62) lq_13 rfl (Nat.le_of_ble_eq_true rfl) (by decide +kernel))
theorem dl_895 : decode code 895 = .ok (.aload_n 0, 1) := dc_42 (dcc (r := 63) lq_13 rfl (Nat.le_of_ble_eq_true rfl) (by decide +kernel))
theorem dl_896 : decode code 896 = .ok (.iload_n 3, 1) := dc_29 (dcc (r := 0) lq_14 rfl (Nat.le_of_ble_eq_true rfl) (by decide +kernel))
theorem dl_897 : decode code 897 = .ok (.iconst 4, 1) := dc_7 (dcc (r := 1) lq_14 rfl (Nat.le_of_ble_eq_true rfl) (by decide +kernel))
theorem dl_898 : decode code 898 = .ok (.iadd, 1) := dc_96 (dcc (r := 2) lq_14 rfl (Nat.le_of_ble_eq_true rfl) (by decide +kernel))
theorem dl_899 : decode code 899 = .ok (.iaload, 1) := dc_46 (dcc (r := 3) lq_14 rfl (Nat.le_of_ble_eq_true rfl) (by decide +kernel))
theorem dl_900 : decode code 900 = .ok (.invokevirtual 111, 3) := dc_182 (a := 0) (b := 111) (dcc (r := 4) lq_14 rfl (Nat.le_of_ble_eq_true rfl) (by decide +kernel)) rfl
theorem dl_903 : decode code 903 = .ok (.pop, 1) := dc_87 (dcc (r := 7) lq_14 rfl (Nat.le_of_ble_eq_true rfl) (by decide +kernel))
theorem dl_904 : decode code 904 = .ok (.goto 455, 3) := dc_167 (a := 1) (b := 199) (dcc (r := 8) lq_14 rfl (Nat.le_of_ble_eq_true rfl) (by decide +kernel)) rfl
theorem dl_907 : decode code 907 = .ok (.aload_n 1, 1) := dc_43 (dcc (r := 11) lq_14 rfl (Nat.le_of_ble_eq_true rfl) (by decide +kernel))
theorem dl_908 : decode code 908 = .ok (.aload_n 0, 1) := dc_42 (dcc (r := 12) lq_14 rfl (Nat.le_of_ble_eq_true rfl) (by decide +kernel))
theorem dl_909 : decode code 909 = .ok (.iload_n 3, 1) := dc_29 (dcc (r := 13) lq_14 rfl (Nat.le_of_ble_eq_true rfl) (by decide +kernel))
theorem dl_910 : decode code 910 = .ok (.iconst 1, 1) := dc_4 (dcc (r := 14) lq_14 rfl (Nat.le_of_ble_eq_true rfl) (by decide +kernel))
theorem dl_911 : decode code 911 = .ok (.iadd, 1) := dc_96 (dcc (r := 15) lq_14 rfl (Nat.le_of_ble_eq_true rfl) (by decide +kernel))
theorem dl_912 : decode code 912 = .ok (.iaload, 1) := dc_46 (dcc (r := 16) lq_14 rfl (Nat.le_of_ble_eq_true rfl) (by decide +kernel))
theorem dl_913 : decode code 913 = .ok (.aload_n 0, 1) := dc_42 (dcc (r := 17) lq_14 rfl (Nat.le_of_ble_eq_true rfl) (by decide +kernel))
theorem dl_914 : decode code 914 = .ok (.iload_n 3, 1) := dc_29 (dcc (r := 18) lq_14 rfl (Nat.le_of_ble_eq_true rfl) (by decide +kernel))
theorem dl_915 : decode code 915 = .ok (.iconst 2, 1) := dc_5 (dcc (r := 19) lq_14 rfl (Nat.le_of_ble_eq_true rfl) (by decide +kernel))
theorem dl_916 : decode code 916 = .ok (.iadd, 1) := dc_96 (dcc (r := 20) lq_14 rfl (Nat.le_of_ble_eq_true rfl) (by decide +kernel))
theorem dl_917 : decode code 917 = .ok (.iaload, 1) := dc_46 (dcc (r := 21) lq_14 rfl (Nat.le_of_ble_eq_true rfl) (by decide +kernel))
theorem dl_918 : decode code 918 = .ok (.aload_n 0, 1) := dc_42 (dcc (r := 22) lq_14 rfl (Nat.le_of_ble_eq_true rfl) (by decide +kernel))
theorem dl_919 : decode code 919 = .ok (.iload_n 3, 1) := dc_29 (dcc (r := 23) lq_14 rfl (Nat.le_of_ble_eq_true rfl) (by decide +kernel))
theorem dl_920 : decode code 920 = .ok (.iconst 3, 1) := dc_6 (dcc (r := 24) lq_14 rfl (Nat.le_of_ble_eq_true rfl) (by decide +kernel))
theorem dl_921 : decode code 921 = .ok (.iadd, 1) := dc_96 (dcc (r := 25) lq_14 rfl (Nat.le_of_ble_eq_true rfl) (by decide +kernel))
theorem dl_922 : decode code 922 = .ok (.iaload, 1) := dc_46 (dcc (r := 26) lq_14 rfl (Nat.le_of_ble_eq_true rfl) (by decide +kernel))
theorem dl_923 : decode code 923 = .ok (.invokevirtual 112, 3) := dc_182 (a := 0) (b := 112) (dcc (r := 27) lq_14 rfl (Nat.le_of_ble_eq_true rfl) (by decide +kernel)) rfl
theorem dl_926 : decode code 926 = .ok (.pop, 1) := dc_87 (dcc (r := 30) lq_14 rfl (Nat.le_of_ble_eq_true rfl) (by decide +kernel))
theorem dl_927 : decode code 927 = .ok (.aload_n 2, 1) := dc_44 (dcc (r := 31) lq_14 rfl (Nat.le_of_ble_eq_true rfl) (by decide +kernel))
theorem dl_928 : decode code 928 = .ok (.aload_n 0, 1) := dc_42 (dcc (r := 32) lq_14 rfl (Nat.le_of_ble_eq_true rfl) (by decide +kernel))
theorem dl_929 : decode code 929 = .ok (.iload_n 3, 1) := dc_29 (dcc (r := 33) lq_14 rfl (Nat.le_of_ble_eq_true rfl) (by decide +kernel))
theorem dl_930 : decode code 930 = .ok (.iconst 1, 1) := dc_4 (dcc (r := 34) lq_14 rfl (Nat.le_of_ble_eq_true rfl) (by decide +kernel))
theorem dl_931 : decode code 931 = .ok (.iadd, 1) := dc_96 (dcc (r := 35) lq_14 rfl (Nat.le_of_ble_eq_true rfl) (by decide +kernel))
theorem dl_932 : decode code 932 = .ok (.iaload, 1) := dc_46 (dcc (r := 36) lq_14 rfl (Nat.le_of_ble_eq_true rfl) (by decide +kernel))
theorem dl_933 : decode code 933 = .ok (.aload_n 0, 1) := dc_42 (dcc (r := 37) lq_14 rfl (Nat.le_of_ble_eq_true rfl) (by decide +kernel))
theorem dl_934 : decode code 934 = .ok (.iload_n 3, 1) := dc_29 (dcc (r := 38) lq_14 rfl (Nat.le_of_ble_eq_true rfl) (by decide +kernel))
theorem dl_935 : decode code 935 = .ok (.iconst 2, 1) := dc_5 (dcc (r := 39) lq_14 rfl (Nat.le_of_ble_eq_true rfl) (by decide +kernel))
theorem dl_936 : decode code 936 = .ok (.iadd, 1) := dc_96 (dcc (r := 40) lq_14 rfl (Nat.le_of_ble_eq_true rfl) (by decide +kernel))
theorem dl_937 : decode code 937 = .ok (.iaload, 1) := dc_46 (dcc (r := 41) lq_14 rfl (Nat.le_of_ble_eq_true rfl) (by decide +kernel))
theorem dl_938 : decode code 938 = .ok (.aload_n 0, 1) := dc_42 (dcc (r := 42) lq_14 rfl (Nat.le_of_ble_eq_true rfl) (by decide +kernel))
theorem dl_939 : decode code 939 = .ok (.iload_n 3, 1) := dc_29 (dcc (r := 43) lq_14 rfl (Nat.le_of_ble_eq_true rfl) (by decide +kernel))
theorem dl_940 : decode code 940 = .ok (.iconst 3, 1) := dc_6 (dcc (r := 44) lq_14 rfl (Nat.le_of_ble_eq_true rfl) (by decide +kernel))
theorem dl_941 : decode code 941 = .ok (.iadd, 1) := dc_96 (dcc (r := 45) lq_14 rfl (Nat.le_of_ble_eq_true rfl) (by decide +kernel))
theorem dl_942 : decode code 942 = .ok (.iaload, 1) := dc_46 (dcc (r := 46) lq_14 rfl (Nat.le_of_ble_eq_true rfl) (by decide +kernel))
theorem dl_943 : decode code 943 = .ok (.invokevirtual 115, 3) := dc_182 (a := 0) (b := 115) (dcc (r := 47) lq_14 rfl (Nat.le_of_ble_eq_true rfl) (by decide +kernel)) rfl
theorem dl_946 : decode code 946 = .ok (.pop, 1) := dc_87 (dcc (r := 50) lq_14 rfl (Nat.le_of_ble_eq_true rfl) (by decide +kernel))
theorem dl_947 : decode code 947 = .ok (.goto 412, 3) := dc_167 (a := 1) (b := 156) (dcc (r := 51) lq_14 rfl (Nat.le_of_ble_eq_true rfl) (by decide +kernel)) rfl
theorem dl_950 : decode code 950 = .ok (.aload_n 1, 1) := dc_43 (dcc (r := 54) lq_14 rfl (Nat.le_of_ble_eq_true rfl) (by decide +kernel))
theorem dl_951 : decode code 951 = .ok (.aload_n 0, 1) := dc_42 (dcc (r := 55) lq_14 rfl (Nat.le_of_ble_eq_true rfl) (by decide +kernel))
theorem dl_952 : decode code 952 = .ok (.iload_n 3, 1) := dc_29 (dcc (r := 56) lq_14 rfl (Nat.le_of_ble_eq_true rfl) (by decide +kernel))
theorem dl_953 : decode code 953 = .ok (.iconst 1, 1) := dc_4 (dcc (r := 57) lq_14 rfl (Nat.le_of_ble_eq_true rfl) (by decide +kernel))
theorem dl_954 : decode code 954 = .ok (.iadd, 1) := dc_96 (dcc (r := 58) lq_14 rfl (Nat.le_of_ble_eq_true rfl) (by decide +kernel))
theorem dl_955 : decode code 955 = .ok (.iaload, 1) := dc_46 (dcc (r := 59) lq_14 rfl (Nat.le_of_ble_eq_true rfl) (by decide +kernel))
theorem dl_956 : decode code 956 = .ok (.aload_n 0, 1) := dc_42 (dcc (r := 60) lq_14 rfl (Nat.le_of_ble_eq_true rfl) (by decide +kernel))
theorem dl_957 : decode code 957 = .ok (.iload_n 3, 1) := dc_29 (dcc (r := 61) lq_14 rfl (Nat.le_of_ble_eq_true rfl) (by decide +kernel))
theorem dl_958 : decode code 958 = .ok (.iconst 2, 1) := dc_5 (dcc (r := 62) lq_14 rfl (Nat.le_of_ble_eq_true rfl) (by decide +kernel))
theorem dl_959 : decode code 959 = .ok (.iadd, 1) := dc_96 (dcc (r := 63) lq_14 rfl (Nat.le_of_ble_eq_true rfl) (by decide +kernel))
theorem dl_960 : decode code 960 = .ok (.iaload, 1) := dc_46 (dcc (r := 0) lq_15 rfl (Nat.le_of_ble_eq_true rfl) (by decide +kernel))
theorem dl_961 : decode code 961 = .ok (.aload_n 0, 1) := dc_42 (dcc (r := 1) lq_15 rfl (Nat.le_of_ble_eq_true rfl) (by decide +kernel))
theorem dl_962 : decode code 962 = .ok (.iload_n 3, 1) := dc_29 (dcc (r := 2) lq_15 rfl (Nat.le_of_ble_eq_true rfl) (by decide +kernel))
theorem dl_963 : decode code 963 = .ok (.iconst 3, 1) := dc_6 (dcc (r := 3) lq_15 rfl (Nat.le_of_ble_eq_true rfl) (by decide +kernel))
theorem dl_964 : decode code 964 = .ok (.iadd, 1) := dc_96 (dcc (r := 4) lq_15 rfl (Nat.le_of_ble_eq_true rfl) (by decide +kernel))
theorem dl_965 : decode code 965 = .ok (.iaload, 1) := dc_46 (dcc (r := 5) lq_15 rfl (Nat.le_of_ble_eq_true rfl) (by decide +kernel))
theorem dl_966 : decode code 966 = .ok (.aload_n 0, 1) := dc_42 (dcc (r := 6) lq_15 rfl (Nat.le_of_ble_eq_true rfl) (by decide +kernel))
theorem dl_967 : decode code 967 = .ok (.iload_n 3, 1) := dc_29 (dcc (r := 7) lq_15 rfl (Nat.le_of_ble_eq_true rfl) (by decide +kernel))
theorem dl_968 : decode code 968 = .ok (.iconst 4, 1) := dc_7 (dcc (r := 8) lq_15 rfl (Nat.le_of_ble_eq_true rfl) (by decide +kernel))
theorem dl_969 : decode code 969 = .ok (.iadd, 1) := dc_96 (dcc (r := 9) lq_15 rfl (Nat.le_of_ble_eq_true rfl) (by decide +kernel))
theorem dl_970 : decode code 970 = .ok (.iaload, 1) := dc_46 (dcc (r := 10) lq_15 rfl (Nat.le_of_ble_eq_true rfl) (by decide +kernel))
theorem dl_971 : decode code 971 = .ok (.invokevirtual 116, 3) := dc_182 (a := 0) (b := 116) (dcc (r := 11) lq_15 rfl (Nat.le_of_ble_eq_true rfl) (by decide +kernel)) rfl
theorem dl_974 : decode code 974 = .ok (.pop2, 1) := dc_88 (dcc (r := 14) lq_15 rfl (Nat.le_of_ble_eq_true rfl) (by decide +kernel))
theorem dl_975 : decode code 975 = .ok (.aload_n 2, 1) := dc_44 (dcc (r := 15) lq_15 rfl (Nat.le_of_ble_eq_true rfl) (by decide +kernel))
theorem dl_976 : decode code 976 = .ok (.aload_n 0, 1) := dc_42 (dcc (r := 16) lq_15 rfl (Nat.le_of_ble_eq_true rfl) (by decide +kernel))
theorem dl_977 : decode code 977 = .ok (.iload_n 3, 1) := dc_29 (dcc (r := 17) lq_15 rfl (Nat.le_of_ble_eq_true rfl) (by decide +kernel))
theorem dl_978 : decode code 978 = .ok (.iconst 1, 1) := dc_4 (dcc (r := 18) lq_15 rfl (Nat.le_of_ble_eq_true rfl) (by decide +kernel))
theorem dl_979 : decode code 979 = .ok (.iadd, 1) := dc_96 (dcc (r := 19) lq_15 rfl (Nat.le_of_ble_eq_true rfl) (by decide +kernel))
theorem dl_980 : decode code 980 = .ok (.iaload, 1) := dc_46 (dcc (r := 20) lq_15 rfl (Nat.le_of_ble_eq_true rfl) (by decide +kernel))
theorem dl_981 : decode code 981 = .ok (.aload_n 0, 1) := dc_42 (dcc (r := 21) lq_15 rfl (Nat.le_of_ble_eq_true rfl) (by decide +kernel))
theorem dl_982 : decode code 982 = .ok (.iload_n 3, 1) := dc_29 (dcc (r := 22) lq_15 rfl (Nat.le_of_ble_eq_true rfl) (by decide +kernel))
theorem dl_983 : decode code 983 = .ok (.iconst 2, 1) := dc_5 (dcc (r := 23) lq_15 rfl (Nat.le_of_ble_eq_true rfl) (by decide +kernel))
theorem dl_984 : decode code 984 = .ok (.iadd, 1) := dc_96 (dcc (r := 24) lq_15 rfl (Nat.le_of_ble_eq_true rfl) (by decide +kernel))
theorem dl_985 : decode code 985 = .ok (.iaload, 1) := dc_46 (dcc (r := 25) lq_15 rfl (Nat.le_of_ble_eq_true rfl) (by decide +kernel))
theorem dl_986 : decode code 986 = .ok (.aload_n 0, 1) := dc_42 (dcc (r := 26) lq_15 rfl (Nat.le_of_ble_eq_true rfl) (by decide +kernel))
theorem dl_987 : decode code 987 = .ok (.iload_n 3, 1) := dc_29 (dcc (r := 27) lq_15 rfl (Nat.le_of_ble_eq_true rfl) (by decide +kernel))
theorem dl_988 : decode code 988 = .ok (.iconst 3, 1) := dc_6 (dcc (r := 28) lq_15 rfl (Nat.le_of_ble_eq_true rfl) (by decide +kernel))
theorem dl_989 : decode code 989 = .ok (.iadd, 1) := dc_96 (dcc (r := 29) lq_15 rfl (Nat.le_of_ble_eq_true rfl) (by decide +kernel))
theorem dl_990 : decode code 990 = .ok (.iaload, 1) := dc_46 (dcc (r := 30) lq_15 rfl (Nat.le_of_ble_eq_true rfl) (by decide +kernel))
theorem dl_991 : decode code 991 = .ok (.aload_n 0, 1) := dc_42 (dcc (r := 31) lq_15 rfl (Nat.le_of_ble_eq_true rfl) (by decide +kernel))
theorem dl_992 : decode code 992 = .ok (.iload_n 3, 1) := dc_29 (dcc (r := 32) lq_15 rfl (Nat.le_of_ble_eq_true rfl) (by decide +kernel))
theorem dl_993 : decode code 993 = .ok (.iconst 4, 1) := dc_7 (dcc (r := 33) lq_15 rfl (Nat.le_of_ble_eq_true rfl) (by decide +kernel))
theorem dl_994 : decode code 994 = .ok (.iadd, 1) := dc_96 (dcc (r := 34) lq_15 rfl (Nat.le_of_ble_eq_true rfl) (by decide +kernel))
theorem dl_995 : decode code 995 = .ok (.iaload, 1) := dc_46 (dcc (r := 35) lq_15 rfl (Nat.le_of_ble_eq_true rfl) (by decide +kernel))
theorem dl_996 : decode code 996 = .ok (.invokevirtual 120, 3) := dc_182 (a := 0) (b := 120) (dcc (r := 36) lq_15 rfl (Nat.le_of_ble_eq_true rfl) (by decide +kernel)) rfl
theorem dl_999 : decode code 999 = .ok (.pop2, 1) := dc_88 (dcc (r := 39) lq_15 rfl (Nat.le_of_ble_eq_true rfl) (by decide +kernel))
theorem dl_1000 : decode code 1000 = .ok (.goto 359, 3) := dc_167 (a := 1) (b := 103) (dcc (r := 40) lq_15 rfl (Nat.le_of_ble_eq_true rfl) (by decide +kernel)) rfl
theorem dl_1003 : decode code 1003 = .ok (.aload_n 1, 1) := dc_43 (dcc (r := 43) lq_15 rfl (Nat.le_of_ble_eq_true rfl) (by decide +kernel))
theorem dl_1004 : decode code 1004 = .ok (.aload_n 0, 1) := dc_42 (dcc (r := 44) lq_15 rfl (Nat.le_of_ble_eq_true rfl) (by decide +kernel))
theorem dl_1005 : decode code 1005 = .ok (.iload_n 3, 1) := dc_29 (dcc (r := 45) lq_15 rfl (Nat.le_of_ble_eq_true rfl) (by decide +kernel))
theorem dl_1006 : decode code 1006 = .ok (.iconst 1, 1) := dc_4 (dcc (r := 46) lq_15 rfl (Nat.le_of_ble_eq_true rfl) (by decide +kernel))
theorem dl_1007 : decode code 1007 = .ok (.iadd, 1) := dc_96 (dcc (r := 47) lq_15 rfl (Nat.le_of_ble_eq_true rfl) (by decide +kernel))
theorem dl_1008 : decode code 1008 = .ok (.iaload, 1) := dc_46 (dcc (r := 48) lq_15 rfl (Nat.le_of_ble_eq_true rfl) (by decide +kernel))
theorem dl_1009 : decode code 1009 = .ok (.invokevirtual 121, 3) := dc_182 (a := 0) (b := 121) (dcc (r := 49) lq_15 rfl (Nat.le_of_ble_eq_true rfl) (by decide +kernel)) rfl
theorem dl_1012 : decode code 1012 = .ok (.pop, 1) := dc_87 (dcc (r := 52) lq_15 rfl (Nat.le_of_ble_eq_true rfl) (by decide +kernel))
theorem dl_1013 : decode code 1013 = .ok (.aload_n 2, 1) := dc_44 (dcc (r := 53) lq_15 rfl (Nat.le_of_ble_eq_true rfl) (by decide +kernel))
theorem dl_1014 : decode code 1014 = .ok (.aload_n 0, 1) := dc_42 (dcc (r := 54) lq_15 rfl (Nat.le_of_ble_eq_true rfl) (by decide +kernel))
theorem dl_1015 : decode code 1015 = .ok (.iload_n 3, 1) := dc_29 (dcc (r := 55) lq_15 rfl (Nat.le_of_ble_eq_true rfl) (by decide +kernel))
theorem dl_1016 : decode code 1016 = .ok (.iconst 1, 1) := dc_4 (dcc (r := 56) lq_15 rfl (Nat.le_of_ble_eq_true rfl) (by decide +kernel))
theorem dl_1017 : decode code 1017 = .ok (.iadd, 1) := dc_96 (dcc (r := 57) lq_15 rfl (Nat.le_of_ble_eq_true rfl) (by decide +kernel))
theorem dl_1018 : decode code 1018 = .ok (.iaload, 1) := dc_46 (dcc (r := 58) lq_15 rfl (Nat.le_of_ble_eq_true rfl) (by decide +kernel))
theorem dl_1019 : decode code 1019 = .ok (.invokevirtual 124, 3) := dc_182 (a := 0) (b := 124) (dcc (r := 59) lq_15 rfl (Nat.le_of_ble_eq_true rfl) (by decide +kernel)) rfl
theorem dl_1022 : decode code 1022 = .ok (.pop, 1) := dc_87 (dcc (r := 62) lq_15 rfl (Nat.le_of_ble_eq_true rfl) (by decide +kernel))
theorem dl_1023 : decode code 1023 = .ok (.goto 336, 3) := dc_167 (a := 1) (b := 80) (dcc (r := 63) lq_15 rfl (Nat.le_of_ble_eq_true rfl) (by decide +kernel)) rfl
theorem dl_1026 : decode code 1026 = .ok (.aload_n 1, 1) := dc_43 (dcc (r := 2) lq_16 rfl (Nat.le_of_ble_eq_true rfl) (by decide +kernel))
theorem dl_1027 : decode code 1027 = .ok (.aload_n 0, 1) := dc_42 (dcc (r := 3) lq_16 rfl (Nat.le_of_ble_eq_true rfl) (by decide +kernel))
theorem dl_1028 : decode code 1028 = .ok (.iload_n 3, 1) := dc_29 (dcc (r := 4) lq_16 rfl (Nat.le_of_ble_eq_true rfl) (by decide +kernel))
theorem dl_1029 : decode code 1029 = .ok (.iconst 1, 1) := dc_4 (dcc (r := 5) lq_16 rfl (Nat.le_of_ble_eq_true rfl) (by decide +kernel))
theorem dl_1030 : decode code 1030 = .ok (.iadd, 1) := dc_96 (dcc (r := 6) lq_16 rfl (Nat.le_of_ble_eq_true rfl) (by decide +kernel))
theorem dl_1031 : decode code 1031 = .ok (.iaload, 1) := dc_46 (dcc (r := 7) lq_16 rfl (Nat.le_of_ble_eq_true rfl) (by decide +kernel))
theorem dl_1032 : decode code 1032 = .ok (.aload_n 0, 1) := dc_42 (dcc (r := 8) lq_16 rfl (Nat.le_of_ble_eq_true rfl) (by decide +kernel))
theorem dl_1033 : decode code 1033 = .ok (.iload_n 3, 1) := dc_29 (dcc (r := 9) lq_16 rfl (Nat.le_of_ble_eq_true rfl) (by decide +kernel))
theorem dl_1034 : decode code 1034 = .ok (.iconst 2, 1) := dc_5 (dcc (r := 10) lq_16 rfl (Nat.le_of_ble_eq_true rfl) (by decide +kernel))
theorem dl_1035 : decode code 1035 = .ok (.iadd, 1) := dc_96 (dcc (r := 11) lq_16 rfl (Nat.le_of_ble_eq_true rfl) (by decide +kernel))
theorem dl_1036 : decode code 1036 = .ok (.iaload, 1) := dc_46 (dcc (r := 12) lq_16 rfl (Nat.le_of_ble_eq_true rfl) (by decide +kernel))
theorem dl_1037 : decode code 1037 = .ok (.invokevirtual 125, 3) := dc_182 (a := 0) (b := 125) (dcc (r := 13) lq_16 rfl (Nat.le_of_ble_eq_true rfl) (by decide +kernel)) rfl
theorem dl_1040 : decode code 1040 = .ok (.pop, 1) := dc_87 (dcc (r := 16) lq_16 rfl (Nat.le_of_ble_eq_true rfl) (by decide +kernel))
theorem dl_1041 : decode code 1041 = .ok (.aload_n 2, 1) := dc_44 (dcc (r := 17) lq_16 rfl (Nat.le_of_ble_eq_true rfl) (by decide +kernel))
theorem dl_1042 : decode code 1042 = .ok (.aload_n 0, 1) := dc_42 (dcc (r := 18) lq_16 rfl (Nat.le_of_ble_eq_true rfl) (by decide +kernel))
theorem dl_1043 : decode code 1043 = .ok (.iload_n 3, 1) := dc_29 (dcc (r := 19) lq_16 rfl (Nat.le_of_ble_eq_true rfl) (by decide +kernel))
theorem dl_1044 : decode code 1044 = .ok (.iconst 1, 1) := dc_4 (dcc (r := 20) lq_16 rfl (Nat.le_of_ble_eq_true rfl) (by decide +kernel))
theorem dl_1045 : decode code 1045 = .ok (.iadd, 1) := dc_96 (dcc (r := 21) lq_16 rfl (Nat.le_of_ble_eq_true rfl) (by decide +kernel))
theorem dl_1046 : decode code 1046 = .ok (.iaload, 1) := dc_46 (dcc (r := 22) lq_16 rfl (Nat.le_of_ble_eq_true rfl) (by decide +kernel))
theorem dl_1047 : decode code 1047 = .ok (.aload_n 0, 1) := dc_42 (dcc (r := 23) lq_16 rfl (Nat.le_of_ble_eq_true rfl) (by decide +kernel))
theorem dl_1048 : decode code 1048 = .ok (.iload_n 3, 1) := dc_29 (dcc (r := 24) lq_16 rfl (Nat.le_of_ble_eq_true rfl) (by decide +kernel))
theorem dl_1049 : decode code 1049 = .ok (.iconst 2, 1) := dc_5 (dcc (r := 25) lq_16 rfl (Nat.le_of_ble_eq_true rfl) (by decide +kernel))
theorem dl_1050 : decode code 1050 = .ok (.iadd, 1) := dc_96 (dcc (r := 26) lq_16 rfl (Nat.le_of_ble_eq_true rfl) (by decide +kernel))
theorem dl_1051 : decode code 1051 = .ok (.iaload, 1) := dc_46 (dcc (r := 27) lq_16 rfl (Nat.le_of_ble_eq_true rfl) (by decide +kernel))
theorem dl_1052 : decode code 1052 = .ok (.invokevirtual 128, 3) := dc_182 (a := 0) (b := 128) (dcc (r := 28) lq_16 rfl (Nat.le_of_ble_eq_true rfl) (by decide +kernel)) rfl
theorem dl_1055 : decode code 1055 = .ok (.pop, 1) := dc_87 (dcc (r := 31) lq_16 rfl (Nat.le_of_ble_eq_true rfl) (by decide +kernel))
theorem dl_1056 : decode code 1056 = .ok (.goto 303, 3) := dc_167 (a := 1) (b := 47) (dcc (r := 32) lq_16 rfl (Nat.le_of_ble_eq_true rfl) (by decide +kernel)) rfl
theorem dl_1059 : decode code 1059 = .ok (.aload_n 1, 1) := dc_43 (dcc (r := 35) lq_16 rfl (Nat.le_of_ble_eq_true rfl) (by decide +kernel))
theorem dl_1060 : decode code 1060 = .ok (.aload_n 0, 1) := dc_42 (dcc (r := 36) lq_16 rfl (Nat.le_of_ble_eq_true rfl) (by decide +kernel))
theorem dl_1061 : decode code 1061 = .ok (.iload_n 3, 1) := dc_29 (dcc (r := 37) lq_16 rfl (Nat.le_of_ble_eq_true rfl) (by decide +kernel))
theorem dl_1062 : decode code 1062 = .ok (.iconst 1, 1) := dc_4 (dcc (r := 38) lq_16 rfl (Nat.le_of_ble_eq_true rfl) (by decide +kernel))
theorem dl_1063 : decode code 1063 = .ok (.iadd, 1) := dc_96 (dcc (r := 39) lq_16 rfl (Nat.le_of_ble_eq_true rfl) (by decide +kernel))
theorem dl_1064 : decode code 1064 = .ok (.iaload, 1) := dc_46 (dcc (r := 40) lq_16 rfl (Nat.le_of_ble_eq_true rfl) (by decide +kernel))
theorem dl_1065 : decode code 1065 = .ok (.invokevirtual 129, 3) := dc_182 (a := 0) (b := 129) (dcc (r := 41) lq_16 rfl (Nat.le_of_ble_eq_true rfl) (by decide +kernel)) rfl
theorem dl_1068 : decode code 1068 = .ok (.pop, 1) := dc_87 (dcc (r := 44) lq_16 rfl (Nat.le_of_ble_eq_true rfl) (by decide +kernel))
theorem dl_1069 : decode code 1069 = .ok (.aload_n 2, 1) := dc_44 (dcc (r := 45) lq_16 rfl (Nat.le_of_ble_eq_true rfl) (by decide +kernel))
theorem dl_1070 : decode code 1070 = .ok (.aload_n 0, 1) := dc_42 (dcc (r := 46) lq_16 rfl (Nat.le_of_ble_eq_true rfl) (by decide +kernel))
theorem dl_1071 : decode code 1071 = .ok (.iload_n 3, 1) := dc_29 (dcc (r := 47) lq_16 rfl (Nat.le_of_ble_eq_true rfl) (by decide +kernel))
theorem dl_1072 : decode code 1072 = .ok (.iconst 1, 1) := dc_4 (dcc (r := 48) lq_16 rfl (Nat.le_of_ble_eq_true rfl) (by decide +kernel))
theorem dl_1073 : decode code 1073 = .ok (.iadd, 1) := dc_96 (dcc (r := 49) lq_16 rfl (Nat.le_of_ble_eq_true rfl) (by decide +kernel))
theorem dl_1074 : decode code 1074 = .ok (.iaload, 1) := dc_46 (dcc (r := 50) lq_16 rfl (Nat.le_of_ble_eq_true rfl) (by decide +kernel))
theorem dl_1075 : decode code 1075 = .ok (.invokevirtual 132, 3) := dc_182 (a := 0) (b := 132) (dcc (r := 51) lq_16 rfl (Nat.le_of_ble_eq_true rfl) (by decide +kernel)) rfl
theorem dl_1078 : decode code 1078 = .ok (.pop, 1) := dc_87 (dcc (r := 54) lq_16 rfl (Nat.le_of_ble_eq_true rfl) (by decide +kernel))
theorem dl_1079 : decode code 1079 = .ok (.goto 280, 3) := dc_167 (a := 1) (b := 24) (dcc (r := 55) lq_16 rfl (Nat.le_of_ble_eq_true rfl) (by decide +kernel)) rfl
theorem dl_1082 : decode code 1082 = .ok (.aload_n 1, 1) := dc_43 (dcc (r := 58) lq_16 rfl (Nat.le_of_ble_eq_true rfl) (by decide +kernel))
theorem dl_1083 : decode code 1083 = .ok (.aload_n 0, 1) := dc_42 (dcc (r := 59) lq_16 rfl (Nat.le_of_ble_eq_true rfl) (by decide +kernel))
theorem dl_1084 : decode code 1084 = .ok (.iload_n 3, 1) := dc_29 (dcc (r := 60) lq_16 rfl (Nat.le_of_ble_eq_true rfl) (by decide +kernel))
theorem dl_1085 : decode code 1085 = .ok (.iconst 1, 1) := dc_4 (dcc (r := 61) lq_16 rfl (Nat.le_of_ble_eq_true rfl) (by decide +kernel))
theorem dl_1086 : decode code 1086 = .ok (.iadd, 1) := dc_96 (dcc (r := 62) lq_16 rfl (Nat.le_of_ble_eq_true rfl) (by decide +kernel))
theorem dl_1087 : decode code 1087 = .ok (.iaload, 1) := dc_46 (dcc (r := 63) lq_16 rfl (Nat.le_of_ble_eq_true rfl) (by decide +kernel))
theorem dl_1088 : decode code 1088 = .ok (.invokevirtual 133, 3) := dc_182 (a := 0) (b := 133) (dcc (r := 0) lq_17 rfl (Nat.le_of_ble_eq_true rfl) (by decide +kernel)) rfl
theorem dl_1091 : decode code 1091 = .ok (.aload_n 2, 1) := dc_44 (dcc (r := 3) lq_17 rfl (Nat.le_of_ble_eq_true rfl) (by decide +kernel))
theorem dl_1092 : decode code 1092 = .ok (.aload_n 0, 1) := dc_42 (dcc (r := 4) lq_17 rfl (Nat.le_of_ble_eq_true rfl) (by decide +kernel))
theorem dl_1093 : decode code 1093 = .ok (.iload_n 3, 1) := dc_29 (dcc (r := 5) lq_17 rfl (Nat.le_of_ble_eq_true rfl) (by decide +kernel))
theorem dl_1094 : decode code 1094 = .ok (.iconst 1, 1) := dc_4 (dcc (r := 6) lq_17 rfl (Nat.le_of_ble_eq_true rfl) (by decide +kernel))
theorem dl_1095 : decode code 1095 = .ok (.iadd, 1) := dc_96 (dcc (r := 7) lq_17 rfl (Nat.le_of_ble_eq_true rfl) (by decide +kernel))
theorem dl_1096 : decode code 1096 = .ok (.iaload, 1) := dc_46 (dcc (r := 8) lq_17 rfl (Nat.le_of_ble_eq_true rfl) (by decide +kernel))
theorem dl_1097 : decode code 1097 = .ok (.invokevirtual 136, 3) := dc_182 (a := 0) (b := 136) (dcc (r := 9) lq_17 rfl (Nat.le_of_ble_eq_true rfl) (by decide +kernel)) rfl
theorem dl_1100 : decode code 1100 = .ok (.if_icmp .eq 259, 3) := dc_159 (a := 1) (b := 3) (dcc (r := 12) lq_17 rfl (Nat.le_of_ble_eq_true rfl) (by decide +kernel)) rfl
theorem dl_1105 : decode code 1105 = .ok (.aload_n 1, 1) := dc_43 (dcc (r := 17) lq_17 rfl (Nat.le_of_ble_eq_true rfl) (by decide +kernel))
theorem dl_1106 : decode code 1106 = .ok (.aload_n 0, 1) := dc_42 (dcc (r := 18) lq_17 rfl (Nat.le_of_ble_eq_true rfl) (by decide +kernel))
theorem dl_1107 : decode code 1107 = .ok (.iload_n 3, 1) := dc_29 (dcc (r := 19) lq_17 rfl (Nat.le_of_ble_eq_true rfl) (by decide +kernel))
theorem dl_1108 : decode code 1108 = .ok (.iconst 1, 1) := dc_4 (dcc (r := 20) lq_17 rfl (Nat.le_of_ble_eq_true rfl) (by decide +kernel))
theorem dl_1109 : decode code 1109 = .ok (.iadd, 1) := dc_96 (dcc (r := 21) lq_17 rfl (Nat.le_of_ble_eq_true rfl) (by decide +kernel))
theorem dl_1110 : decode code 1110 = .ok (.iaload, 1) := dc_46 (dcc (r := 22) lq_17 rfl (Nat.le_of_ble_eq_true rfl) (by decide +kernel))
theorem dl_1111 : decode code 1111 = .ok (.aload_n 0, 1) := dc_42 (dcc (r := 23) lq_17 rfl (Nat.le_of_ble_eq_true rfl) (by decide +kernel))
theorem dl_1112 : decode code 1112 = .ok (.iload_n 3, 1) := dc_29 (dcc (r := 24) lq_17 rfl (Nat.le_of_ble_eq_true rfl) (by decide +kernel))
theorem dl_1113 : decode code 1113 = .ok (.iconst 2, 1) := dc_5 (dcc (r := 25) lq_17 rfl (Nat.le_of_ble_eq_true rfl) (by decide +kernel))
theorem dl_1114 : decode code 1114 = .ok (.iadd, 1) := dc_96 (dcc (r := 26) lq_17 rfl (Nat.le_of_ble_eq_true rfl) (by decide +kernel))
theorem dl_1115 : decode code 1115 = .ok (.iaload, 1) := dc_46 (dcc (r := 27) lq_17 rfl (Nat.le_of_ble_eq_true rfl) (by decide +kernel))
theorem dl_1116 : decode code 1116 = .ok (.invokevirtual 137, 3) := dc_182 (a := 0) (b := 137) (dcc (r := 28) lq_17 rfl (Nat.le_of_ble_eq_true rfl) (by decide +kernel)) rfl
theorem dl_1119 : decode code 1119 = .ok (.pop, 1) := dc_87 (dcc (r := 31) lq_17 rfl (Nat.le_of_ble_eq_true rfl) (by decide +kernel))
theorem dl_1120 : decode code 1120 = .ok (.aload_n 2, 1) := dc_44 (dcc (r := 32) lq_17 rfl (Nat.le_of_ble_eq_true rfl) (by decide +kernel))
theorem dl_1121 : decode code 1121 = .ok (.aload_n 0, 1) := dc_42 (dcc (r := 33) lq_17 rfl (Nat.le_of_ble_eq_true rfl) (by decide +kernel))
theorem dl_1122 : decode code 1122 = .ok (.iload_n 3, 1) := dc_29 (dcc (r := 34) lq_17 rfl (Nat.le_of_ble_eq_true rfl) (by decide +kernel))
theorem dl_1123 : decode code 1123 = .ok (.iconst 1, 1) := dc_4 (dcc (r := 35) lq_17 rfl (Nat.le_of_ble_eq_true rfl) (by decide +kernel))
theorem dl_1124 : decode code 1124 = .ok (.iadd, 1) := dc_96 (dcc (r := 36) lq_17 rfl (Nat.le_of_ble_eq_true rfl) (by decide +kernel))
theorem dl_1125 : decode code 1125 = .ok (.iaload, 1) := dc_46 (dcc (r := 37) lq_17 rfl (Nat.le_of_ble_eq_true rfl) (by decide +kernel))
theorem dl_1126 : decode code 1126 = .ok (.aload_n 0, 1) := dc_42 (dcc (r := 38) lq_17 rfl (Nat.le_of_ble_eq_true rfl) (by decide +kernel))
theorem dl_1127 : decode code 1127 = .ok (.iload_n 3, 1) := dc_29 (dcc (r := 39) lq_17 rfl (Nat.le_of_ble_eq_true rfl) (by decide +kernel))
theorem dl_1128 : decode code 1128 = .ok (.iconst 2, 1) := dc_5 (dcc (r := 40) lq_17 rfl (Nat.le_of_ble_eq_true rfl) (by decide +kernel))
theorem dl_1129 : decode code 1129 = .ok (.iadd, 1) := dc_96 (dcc (r := 41) lq_17 rfl (Nat.le_of_ble_eq_true rfl) (by decide +kernel))
theorem dl_1130 : decode code 1130 = .ok (.iaload, 1) := dc_46 (dcc (r := 42) lq_17 rfl (Nat.le_of_ble_eq_true rfl) (by decide +kernel))
theorem dl_1131 : decode code 1131 = .ok (.invokevirtual 140, 3) := dc_182 (a := 0) (b := 140) (dcc (r := 43) lq_17 rfl (Nat.le_of_ble_eq_true rfl) (by decide +kernel)) rfl
theorem dl_1134 : decode code 1134 = .ok (.pop, 1) := dc_87 (dcc (r := 46) lq_17 rfl (Nat.le_of_ble_eq_true rfl) (by decide +kernel))
theorem dl_1135 : decode code 1135 = .ok (.goto 224, 3) := dc_167 (a := 0) (b := 224) (dcc (r := 47) lq_17 rfl (Nat.le_of_ble_eq_true rfl) (by decide +kernel)) rfl
theorem dl_1138 : decode code 1138 = .ok (.aload_n 1, 1) := dc_43 (dcc (r := 50) lq_17 rfl (Nat.le_of_ble_eq_true rfl) (by decide +kernel))
theorem dl_1139 : decode code 1139 = .ok (.aload_n 0, 1) := dc_42 (dcc (r := 51) lq_17 rfl (Nat.le_of_ble_eq_true rfl) (by decide +kernel))
theorem dl_1140 : decode code 1140 = .ok (.iload_n 3, 1) := dc_29 (dcc (r := 52) lq_17 rfl (Nat.le_of_ble_eq_true rfl) (by decide +kernel))
theorem dl_1141 : decode code 1141 = .ok (.iconst 1, 1) := dc_4 (dcc (r := 53) lq_17 rfl (Nat.le_of_ble_eq_true rfl) (by decide +kernel))
theorem dl_1142 : decode code 1142 = .ok (.iadd, 1) := dc_96 (dcc (r := 54) lq_17 rfl (Nat.le_of_ble_eq_true rfl) (by decide +kernel))
theorem dl_1143 : decode code 1143 = .ok (.iaload, 1) := dc_46 (dcc (r := 55) lq_17 rfl (Nat.le_of_ble_eq_true rfl) (by decide +kernel))
theorem dl_1144 : decode code 1144 = .ok (.invokevirtual 141, 3) := dc_182 (a := 0) (b := 141) (dcc (r := 56) lq_17 rfl (Nat.le_of_ble_eq_true rfl) (by decide +kernel)) rfl
theorem dl_1147 : decode code 1147 = .ok (.pop, 1) := dc_87 (dcc (r := 59) lq_17 rfl (Nat.le_of_ble_eq_true rfl) (by decide +kernel))
theorem dl_1148 : decode code 1148 = .ok (.aload_n 2, 1) := dc_44 (dcc (r := 60) lq_17 rfl (Nat.le_of_ble_eq_true rfl) (by decide +kernel))
theorem dl_1149 : decode code 1149 = .ok (.aload_n 0, 1) := dc_42 (dcc (r := 61) lq_17 rfl (Nat.le_of_ble_eq_true rfl) (by decide +kernel))
theorem dl_1150 : decode code 1150 = .ok (.iload_n 3, 1) := dc_29 (dcc (r := 62) lq_17 rfl (Nat.le_of_ble_eq_true rfl) (by decide +kernel))
theorem dl_1151 : decode code 1151 = .ok (.iconst 1, 1) := dc_4 (dcc (r := 63) lq_17 rfl (Nat.le_of_ble_eq_true rfl) (by decide +kernel))
theorem dl_1152 : decode code 1152 = .ok (.iadd, 1) := dc_96 (dcc (r := 0) lq_18 rfl (Nat.le_of_ble_eq_true rfl) (by decide +kernel))
theorem dl_1153 : decode code 1153 = .ok (.iaload, 1) := dc_46 (dcc (r := 1) lq_18 rfl (Nat.le_of_ble_eq_true rfl) (by decide +kernel))
theorem dl_1154 : decode code 1154 = .ok (.invokevirtual 144, 3) := dc_182 (a := 0) (b := 144) (dcc (r := 2) lq_18 rfl (Nat.le_of_ble_eq_true rfl) (by decide +kernel)) rfl
theorem dl_1157 : decode code 1157 = .ok (.pop, 1) := dc_87 (dcc (r := 5) lq_18 rfl (Nat.le_of_ble_eq_true rfl) (by decide +kernel))
theorem dl_1158 : decode code 1158 = .ok (.goto 201, 3) := dc_167 (a := 0) (b := 201) (dcc (r := 6) lq_18 rfl (Nat.le_of_ble_eq_true rfl) (by decide +kernel)) rfl
theorem dl_1161 : decode code 1161 = .ok (.aload_n 1, 1) := dc_43 (dcc (r := 9) lq_18 rfl (Nat.le_of_ble_eq_true rfl) (by decide +kernel))
theorem dl_1162 : decode code 1162 = .ok (.aload_n 0, 1) := dc_42 (dcc (r := 10) lq_18 rfl (Nat.le_of_ble_eq_true rfl) (by decide +kernel))
theorem dl_1163 : decode code 1163 = .ok (.iload_n 3, 1) := dc_29 (dcc (r := 11) lq_18 rfl (Nat.le_of_ble_eq_true rfl) (by decide +kernel))
theorem dl_1164 : decode code 1164 = .ok (.iconst 1, 1) := dc_4 (dcc (r := 12) lq_18 rfl (Nat.le_of_ble_eq_true rfl) (by decide +kernel))
theorem dl_1165 : decode code 1165 = .ok (.iadd, 1) := dc_96 (dcc (r := 13) lq_18 rfl (Nat.le_of_ble_eq_true rfl) (by decide +kernel))
theorem dl_1166 : decode code 1166 = .ok (.iaload, 1) := dc_46 (dcc (r := 14) lq_18 rfl (Nat.le_of_ble_eq_true rfl) (by decide +kernel))
theorem dl_1167 : decode code 1167 = .ok (.invokevirtual 145, 3) := dc_182 (a := 0) (b := 145) (dcc (r := 15) lq_18 rfl (Nat.le_of_ble_eq_true rfl) (by decide +kernel)) rfl
theorem dl_1170 : decode code 1170 = .ok (.pop, 1) := dc_87 (dcc (r := 18) lq_18 rfl (Nat.le_of_ble_eq_true rfl) (by decide +kernel))
theorem dl_1171 : decode code 1171 = .ok (.aload_n 2, 1) := dc_44 (dcc (r := 19) lq_18 rfl (Nat.le_of_ble_eq_true rfl) (by decide +kernel))
theorem dl_1172 : decode code 1172 = .ok (.aload_n 0, 1) := dc_42 (dcc (r := 20) lq_18 rfl (Nat.le_of_ble_eq_true rfl) (by decide +kernel))
theorem dl_1173 : decode code 1173 = .ok (.iload_n 3, 1) := dc_29 (dcc (r := 21) lq_18 rfl (Nat.le_of_ble_eq_true rfl) (by decide +kernel))
theorem dl_1174 : decode code 1174 = .ok (.iconst 1, 1) := dc_4 (dcc (r := 22) lq_18 rfl (Nat.le_of_ble_eq_true rfl) (by decide +kernel))
theorem dl_1175 : decode code 1175 = .ok (.iadd, 1) := dc_96 (dcc (r := 23) lq_18 rfl (Nat.le_of_ble_eq_true rfl) (by decide +kernel))
theorem dl_1176 : decode code 1176 = .ok (.iaload, 1) := dc_46 (dcc (r := 24) lq_18 rfl (Nat.le_of_ble_eq_true rfl) (by decide +kernel))
theorem dl_1177 : decode code 1177 = .ok (.invokevirtual 148, 3) := dc_182 (a := 0) (b := 148) (dcc (r := 25) lq_18 rfl (Nat.le_of_ble_eq_true rfl) (by decide +kernel)) rfl
theorem dl_1180 : decode code 1180 = .ok (.pop, 1) := dc_87 (dcc (r := 28) lq_18 rfl (Nat.le_of_ble_eq_true rfl) (by decide +kernel))
theorem dl_1181 : decode code 1181 = .ok (.goto 178, 3) := dc_167 (a := 0) (b := 178) (dcc (r := 29) lq_18 rfl (Nat.le_of_ble_eq_true rfl) (by decide +kernel)) rfl
theorem dl_1184 : decode code 1184 = .ok (.aload_n 1, 1) := dc_43 (dcc (r := 32) lq_18 rfl (Nat.le_of_ble_eq_true rfl) (by decide +kernel))
theorem dl_1185 : decode code 1185 = .ok (.aload_n 0, 1) := dc_42 (dcc (r := 33) lq_18 rfl (Nat.le_of_ble_eq_true rfl) (by decide +kernel))
theorem dl_1186 : decode code 1186 = .ok (.iload_n 3, 1) := dc_29 (dcc (r := 34) lq_18 rfl (Nat.le_of_ble_eq_true rfl) (by decide +kernel))
theorem dl_1187 : decode code 1187 = .ok (.iconst 1, 1) := dc_4 (dcc (r := 35) lq_18 rfl (Nat.le_of_ble_eq_true rfl) (by decide +kernel))
theorem dl_1188 : decode code 1188 = .ok (.iadd, 1) := dc_96 (dcc (r := 36) lq_18 rfl (Nat.le_of_ble_eq_true rfl) (by decide +kernel))
theorem dl_1189 : decode code 1189 = .ok (.iaload, 1) := dc_46 (dcc (r := 37) lq_18 rfl (Nat.le_of_ble_eq_true rfl) (by decide +kernel))
theorem dl_1190 : decode code 1190 = .ok (.aload_n 0, 1) := dc_42 (dcc (r := 38) lq_18 rfl (Nat.le_of_ble_eq_true rfl) (by decide +kernel))
theorem dl_1191 : decode code 1191 = .ok (.iload_n 3, 1) := dc_29 (dcc (r := 39) lq_18 rfl (Nat.le_of_ble_eq_true rfl) (by decide +kernel))
theorem dl_1192 : decode code 1192 = .ok (.iconst 2, 1) := dc_5 (dcc (r := 40) lq_18 rfl (Nat.le_of_ble_eq_true rfl) (by decide +kernel))
theorem dl_1193 : decode code 1193 = .ok (.iadd, 1) := dc_96 (dcc (r := 41) lq_18 rfl (Nat.le_of_ble_eq_true rfl) (by decide +kernel))
theorem dl_1194 : decode code 1194 = .ok (.iaload, 1) := dc_46 (dcc (r := 42) lq_18 rfl (Nat.le_of_ble_eq_true rfl) (by decide +kernel))
theorem dl_1195 : decode code 1195 = .ok (.aload_n 0, 1) := dc_42 (dcc (r := 43) lq_18 rfl (Nat.le_of_ble_eq_true rfl) (by decide +kernel))
theorem dl_1196 : decode code 1196 = .ok (.iload_n 3, 1) := dc_29 (dcc (r := 44) lq_18 rfl (Nat.le_of_ble_eq_true rfl) (by decide +kernel))
theorem dl_1197 : decode code 1197 = .ok (.iconst 3, 1) := dc_6 (dcc (r := 45) lq_18 rfl (Nat.le_of_ble_eq_true rfl) (by decide +kernel))
theorem dl_1198 : decode code 1198 = .ok (.iadd, 1) := dc_96 (dcc (r := 46) lq_18 rfl (Nat.le_of_ble_eq_true rfl) (by decide +kernel))
theorem dl_1199 : decode code 1199 = .ok (.iaload, 1) := dc_46 (dcc (r := 47) lq_18 rfl (Nat.le_of_ble_eq_true rfl) (by decide +kernel))
theorem dl_1200 : decode code 1200 = .ok (.invokevirtual 149, 3) := dc_182 (a := 0) (b := 149) (dcc (r := 48) lq_18 rfl (Nat.le_of_ble_eq_true rfl) (by decide +kernel)) rfl
theorem dl_1203 : decode code 1203 = .ok (.pop, 1) := dc_87 (dcc (r := 51) lq_18 rfl (Nat.le_of_ble_eq_true rfl) (by decide +kernel))
theorem dl_1204 : decode code 1204 = .ok (.aload_n 2, 1) := dc_44 (dcc (r := 52) lq_18 rfl (Nat.le_of_ble_eq_true rfl) (by decide +kernel))
theorem dl_1205 : decode code 1205 = .ok (.aload_n 0, 1) := dc_42 (dcc (r := 53) lq_18 rfl (Nat.le_of_ble_eq_true rfl) (by decide +kernel))
theorem dl_1206 : decode code 1206 = .ok (.iload_n 3, 1) := dc_29 (dcc (r := 54) lq_18 rfl (Nat.le_of_ble_eq_true rfl) (by decide +kernel))
theorem dl_1207 : decode code 1207 = .ok (.iconst 1, 1) := dc_4 (dcc (r := 55) lq_18 rfl (Nat.le_of_ble_eq_true rfl) (by decide +kernel))
theorem dl_1208 : decode code 1208 = .ok (.iadd, 1) := dc_96 (dcc (r := 56) lq_18 rfl (Nat.le_of_ble_eq_true rfl) (by decide +kernel))
theorem dl_1209 : decode code 1209 = .ok (.iaload, 1) := dc_46 (dcc (r := 57) lq_18 rfl (Nat.le_of_ble_eq_true rfl) (by decide +kernel))
theorem dl_1210 : decode code 1210 = .ok (.aload_n 0, 1) := dc_42 (dcc (r := 58) lq_18 rfl (Nat.le_of_ble_eq_true rfl) (by decide +kernel))
theorem dl_1211 : decode code 1211 = .ok (.iload_n 3, 1) := dc_29 (dcc (r := 59) lq_18 rfl (Nat.le_of_ble_eq_true rfl) (by decide +kernel))
theorem dl_1212 : decode code 1212 = .ok (.iconst 2, 1) := dc_5 (dcc (r := 60) lq_18 rfl (Nat.le_of_ble_eq_true rfl) (by decide +kernel))
theorem dl_1213 : decode code 1213 = .ok (.iadd, 1) := dc_96 (dcc (r := 61) lq_18 rfl (Nat.le_of_ble_eq_true rfl) (by decide +kernel))
theorem dl_1214 : decode code 1214 = .ok (.iaload, 1) := dc_46 (dcc (r := 62) lq_18 rfl (Nat.le_of_ble_eq_true rfl) (by decide +kernel))
theorem dl_1215 : decode code 1215 = .ok (.aload_n 0, 1) := dc_42 (dcc (r := 63) lq_18 rfl (Nat.le_of_ble_eq_true rfl) (by decide +kernel))
theorem dl_1216 : decode code 1216 = .ok (.iload_n 3, 1) := dc_29 (dcc (r := 0) lq_19 rfl (Nat.le_of_ble_eq_true rfl) (by decide +kernel))
theorem dl_1217 : decode code 1217 = .ok (.iconst 3, 1) := dc_6 (dcc (r := 1) lq_19 rfl (Nat.le_of_ble_eq_true rfl) (by decide +kernel))
theorem dl_1218 : decode code 1218 = .ok (.iadd, 1) := dc_96 (dcc (r := 2) lq_19 rfl (Nat.le_of_ble_eq_true rfl) (by decide +kernel))
theorem dl_1219 : decode code 1219 = .ok (.iaload, 1) := dc_46 (dcc (r := 3) lq_19 rfl (Nat.le_of_ble_eq_true rfl) (by decide +kernel))
theorem dl_1220 : decode code 1220 = .ok (.invokevirtual 152, 3) := dc_182 (a := 0) (b := 152) (dcc (r := 4) lq_19 rfl (Nat.le_of_ble_eq_true rfl) (by decide +kernel)) rfl
theorem dl_1223 : decode code 1223 = .ok (.pop, 1) := dc_87 (dcc (r := 7) lq_19 rfl (Nat.le_of_ble_eq_true rfl) (by decide +kernel))
theorem dl_1224 : decode code 1224 = .ok (.goto 135, 3) := dc_167 (a := 0) (b := 135) (dcc (r := 8) lq_19 rfl (Nat.le_of_ble_eq_true rfl) (by decide +kernel)) rfl
theorem dl_1227 : decode code 1227 = .ok (.aload_n 1, 1) := dc_43 (dcc (r := 11) lq_19 rfl (Nat.le_of_ble_eq_true rfl) (by decide +kernel))
theorem dl_1228 : decode code 1228 = .ok (.aload_n 0, 1) := dc_42 (dcc (r := 12) lq_19 rfl (Nat.le_of_ble_eq_true rfl) (by decide +kernel))
theorem dl_1229 : decode code 1229 = .ok (.iload_n 3, 1) := dc_29 (dcc (r := 13) lq_19 rfl (Nat.le_of_ble_eq_true rfl) (by decide +kernel))
theorem dl_1230 : decode code 1230 = .ok (.iconst 1, 1) := dc_4 (dcc (r := 14) lq_19 rfl (Nat.le_of_ble_eq_true rfl) (by decide +kernel))
theorem dl_1231 : decode code 1231 = .ok (.iadd, 1) := dc_96 (dcc (r := 15) lq_19 rfl (Nat.le_of_ble_eq_true rfl) (by decide +kernel))
theorem dl_1232 : decode code 1232 = .ok (.iaload, 1) := dc_46 (dcc (r := 16) lq_19 rfl (Nat.le_of_ble_eq_true rfl) (by decide +kernel))
theorem dl_1233 : decode code 1233 = .ok (.aload_n 0, 1) := dc_42 (dcc (r := 17) lq_19 rfl (Nat.le_of_ble_eq_true rfl) (by decide +kernel))
theorem dl_1234 : decode code 1234 = .ok (.iload_n 3, 1) := dc_29 (dcc (r := 18) lq_19 rfl (Nat.le_of_ble_eq_true rfl) (by decide +kernel))
theorem dl_1235 : decode code 1235 = .ok (.iconst 2, 1) := dc_5 (dcc (r := 19) lq_19 rfl (Nat.le_of_ble_eq_true rfl) (by decide +kernel))
theorem dl_1236 : decode code 1236 = .ok (.iadd, 1) := dc_96 (dcc (r := 20) lq_19 rfl (Nat.le_of_ble_eq_true rfl) (by decide +kernel))
theorem dl_1237 : decode code 1237 = .ok (.iaload, 1) := dc_46 (dcc (r := 21) lq_19 rfl (Nat.le_of_ble_eq_true rfl) (by decide +kernel))
theorem dl_1238 : decode code 1238 = .ok (.aload_n 0, 1) := dc_42 (dcc (r := 22) lq_19 rfl (Nat.le_of_ble_eq_true rfl) (by decide +kernel))
theorem dl_1239 : decode code 1239 = .ok (.iload_n 3, 1) := dc_29 (dcc (r := 23) lq_19 rfl (Nat.le_of_ble_eq_true rfl) (by decide +kernel))
theorem dl_1240 : decode code 1240 = .ok (.iconst 3, 1) := dc_6 (dcc (r := 24) lq_19 rfl (Nat.le_of_ble_eq_true rfl) (by decide +kernel))
theorem dl_1241 : decode code 1241 = .ok (.iadd, 1) := dc_96 (dcc (r := 25) lq_19 rfl (Nat.le_of_ble_eq_true rfl) (by decide +kernel))
theorem dl_1242 : decode code 1242 = .ok (.iaload, 1) := dc_46 (dcc (r := 26) lq_19 rfl (Nat.le_of_ble_eq_true rfl) (by decide +kernel))
theorem dl_1243 : decode code 1243 = .ok (.invokevirtual 153, 3) := dc_182 (a := 0) (b := 153) (dcc (r := 27) lq_19 rfl (Nat.le_of_ble_eq_true rfl) (by decide +kernel)) rfl
theorem dl_1246 : decode code 1246 = .ok (.pop, 1) := dc_87 (dcc (r := 30) lq_19 rfl (Nat.le_of_ble_eq_true rfl) (by decide +kernel))
theorem dl_1247 : decode code 1247 = .ok (.aload_n 2, 1) := dc_44 (dcc (r := 31) lq_19 rfl (Nat.le_of_ble_eq_true rfl) (by decide +kernel))
theorem dl_1248 : decode code 1248 = .ok (.aload_n 0, 1) := dc_42 (dcc (r := 32) lq_19 rfl (Nat.le_of_ble_eq_true rfl) (by decide +kernel))
theorem dl_1249 : decode code 1249 = .ok (.iload_n 3, 1) := dc_29 (dcc (r := 33) lq_19 rfl (Nat.le_of_ble_eq_true rfl) (by decide +kernel))
theorem dl_1250 : decode code 1250 = .ok (.iconst 1, 1) := dc_4 (dcc (r := 34) lq_19 rfl (Nat.le_of_ble_eq_true rfl) (by decide +kernel))
theorem dl_1251 : decode code 1251 = .ok (.iadd, 1) := dc_96 (dcc (r := 35) lq_19 rfl (Nat.le_of_ble_eq_true rfl) (by decide +kernel))
theorem dl_1252 : decode code 1252 = .ok (.iaload, 1) := dc_46 (dcc (r := 36) lq_19 rfl (Nat.le_of_ble_eq_true rfl) (by decide +kernel))
theorem dl_1253 : decode code 1253 = .ok (.aload_n 0, 1) := dc_42 (dcc (r := 37) lq_19 rfl (Nat.le_of_ble_eq_true rfl) (by decide +kernel))
theorem dl_1254 : decode code 1254 = .ok (.iload_n 3, 1) := dc_29 (dcc (r := 38) lq_19 rfl (Nat.le_of_ble_eq_true rfl) (by decide +kernel))
theorem dl_1255 : decode code 1255 = .ok (.iconst 2, 1) := dc_5 (dcc (r := 39) lq_19 rfl (Nat.le_of_ble_eq_true rfl) (by decide +kernel))
theorem dl_1256 : decode code 1256 = .ok (.iadd, 1) := dc_96 (dcc (r := 40) lq_19 rfl (Nat.le_of_ble_eq_true rfl) (by decide +kernel))
theorem dl_1257 : decode code 1257 = .ok (.iaload, 1) := dc_46 (dcc (r := 41) lq_19 rfl (Nat.le_of_ble_eq_true rfl) (by decide +kernel))
theorem dl_1258 : decode code 1258 = .ok (.aload_n 0, 1) := dc_42 (dcc (r := 42) lq_19 rfl (Nat.le_of_ble_eq_true rfl) (by decide +kernel))
theorem dl_1259 : decode code 1259 = .ok (.iload_n 3, 1) := dc_29 (dcc (r := 43) lq_19 rfl (Nat.le_of_ble_eq_true rfl) (by decide +kernel))
theorem dl_1260 : decode code 1260 = .ok (.iconst 3, 1) := dc_6 (dcc (r := 44) lq_19 rfl (Nat.le_of_ble_eq_true rfl) (by decide +kernel))
theorem dl_1261 : decode code 1261 = .ok (.iadd, 1) := dc_96 (dcc (r := 45) lq_19 rfl (Nat.le_of_ble_eq_true rfl) (by decide +kernel))
theorem dl_1262 : decode code 1262 = .ok (.iaload, 1) := dc_46 (dcc (r := 46) lq_19 rfl (Nat.le_of_ble_eq_true rfl) (by decide +kernel))
theorem dl_1263 : decode code 1263 = .ok (.invokevirtual 156, 3) := dc_182 (a := 0) (b := 156) (dcc (r := 47) lq_19 rfl (Nat.le_of_ble_eq_true rfl) (by decide +kernel)) rfl
theorem dl_1266 : decode code 1266 = .ok (.pop, 1) := dc_87 (dcc (r := 50) lq_19 rfl (Nat.le_of_ble_eq_true rfl) (by decide +kernel))
theorem dl_1267 : decode code 1267 = .ok (.goto 92, 3) := dc_167 (a := 0) (b := 92) (dcc (r := 51) lq_19 rfl (Nat.le_of_ble_eq_true rfl) (by decide +kernel)) rfl
theorem dl_1270 : decode code 1270 = .ok (.aload_n 1, 1) := dc_43 (dcc (r := 54) lq_19 rfl (Nat.le_of_ble_eq_true rfl) (by decide +kernel))
theorem dl_1271 : decode code 1271 = .ok (.aload_n 0, 1) := dc_42 (dcc (r := 55) lq_19 rfl (Nat.le_of_ble_eq_true rfl) (by decide +kernel))
theorem dl_1272 : decode code 1272 = .ok (.iload_n 3, 1) := dc_29 (dcc (r := 56) lq_19 rfl (Nat.le_of_ble_eq_true rfl) (by decide +kernel))
theorem dl_1273 : decode code 1273 = .ok (.iconst 1, 1) := dc_4 (dcc (r := 57) lq_19 rfl (Nat.le_of_ble_eq_true rfl) (by decide +kernel))
theorem dl_1274 : decode code 1274 = .ok (.iadd, 1) := dc_96 (dcc (r := 58) lq_19 rfl (Nat.le_of_ble_eq_true rfl) (by decide +kernel))
theorem dl_1275 : decode code 1275 = .ok (.iaload, 1) := dc_46 (dcc (r := 59) lq_19 rfl (Nat.le_of_ble_eq_true rfl) (by decide +kernel))
theorem dl_1276 : decode code 1276 = .ok (.aload_n 0, 1) := dc_42 (dcc (r := 60) lq_19 rfl (Nat.le_of_ble_eq_true rfl) (by decide +kernel))
theorem dl_1277 : decode code 1277 = .ok (.iload_n 3, 1) := dc_29 (dcc (r := 61) lq_19 rfl (Nat.le_of_ble_eq_true rfl) (by decide +kernel))
theorem dl_1278 : decode code 1278 = .ok (.iconst 2, 1) := dc_5 (dcc (r := 62) lq_19 rfl (Nat.le_of_ble_eq_true rfl) (by decide +kernel))
theorem dl_1279 : decode code 1279 = .ok (.iadd, 1) := dc_96 (dcc (r := 63) lq_19 rfl (Nat.le_of_ble_eq_true rfl) (by decide +kernel))
theorem dl_1280 : decode code 1280 = .ok (.iaload, 1) := dc_46 (dcc (r := 0) lq_20 rfl (Nat.le_of_ble_eq_true rfl) (by decide +kernel))
theorem dl_1281 : decode code 1281 = .ok (.aload_n 0, 1) := dc_42 (dcc (r := 1) lq_20 rfl (Nat.le_of_ble_eq_true rfl) (by decide +kernel))
theorem dl_1282 : decode code 1282 = .ok (.iload_n 3, 1) := dc_29 (dcc (r := 2) lq_20 rfl (Nat.le_of_ble_eq_true rfl) (by decide +kernel))
theorem dl_1283 : decode code 1283 = .ok (.iconst 3, 1) := dc_6 (dcc (r := 3) lq_20 rfl (Nat.le_of_ble_eq_true rfl) (by decide +kernel))
theorem dl_1284 : decode code 1284 = .ok (.iadd, 1) := dc_96 (dcc (r := 4) lq_20 rfl (Nat.le_of_ble_eq_true rfl) (by decide +kernel))
theorem dl_1285 : decode code 1285 = .ok (.iaload, 1) := dc_46 (dcc (r := 5) lq_20 rfl (Nat.le_of_ble_eq_true rfl) (by decide +kernel))
theorem dl_1286 : decode code 1286 = .ok (.aload_n 0, 1) := dc_42 (dcc (r := 6) lq_20 rfl (Nat.le_of_ble_eq_true rfl) (by decide +kernel))
theorem dl_1287 : decode code 1287 = .ok (.iload_n 3, 1) := dc_29 (dcc (r := 7) lq_20 rfl (Nat.le_of_ble_eq_true rfl) (by decide +kernel))
theorem dl_1288 : decode code 1288 = .ok (.iconst 4, 1) := dc_7 (dcc (r := 8) lq_20 rfl (Nat.le_of_ble_eq_true rfl) (by decide +kernel))
theorem dl_1289 : decode code 1289 = .ok (.iadd, 1) := dc_96 (dcc (r := 9) lq_20 rfl (Nat.le_of_ble_eq_true rfl) (by decide +kernel))
theorem dl_1290 : decode code 1290 = .ok (.iaload, 1) := dc_46 (dcc (r := 10) lq_20 rfl (Nat.le_of_ble_eq_true rfl) (by decide +kernel))
theorem dl_1291 : decode code 1291 = .ok (.invokevirtual 157, 3) := dc_182 (a := 0) (b := 157) (dcc (r := 11) lq_20 rfl (Nat.le_of_ble_eq_true rfl) (by decide +kernel)) rfl
theorem dl_1294 : decode code 1294 = .ok (.pop, 1) := dc_87 (dcc (r := 14) lq_20 rfl (Nat.le_of_ble_eq_true rfl) (by decide +kernel))
theorem dl_1295 : decode code 1295 = .ok (.aload_n 2, 1) := dc_44 (dcc (r := 15) lq_20 rfl (Nat.le_of_ble_eq_true rfl) (by decide +kernel))
theorem dl_1296 : decode code 1296 = .ok (.aload_n 0, 1) := dc_42 (dcc (r := 16) lq_20 rfl (Nat.le_of_ble_eq_true rfl) (by decide +kernel))
theorem dl_1297 : decode code 1297 = .ok (.iload_n 3, 1) := dc_29 (dcc (r := 17) lq_20 rfl (Nat.le_of_ble_eq_true rfl) (by decide +kernel))
theorem dl_1298 : decode code 1298 = .ok (.iconst 1, 1) := dc_4 (dcc (r := 18) lq_20 rfl (Nat.le_of_ble_eq_true rfl) (by decide +kernel))
theorem dl_1299 : decode code 1299 = .ok (.iadd, 1) := dc_96 (dcc (r := 19) lq_20 rfl (Nat.le_of_ble_eq_true rfl) (by decide +kernel))
theorem dl_1300 : decode code 1300 = .ok (.iaload, 1) := dc_46 (dcc (r := 20) lq_20 rfl (Nat.le_of_ble_eq_true rfl) (by decide +kernel))
theorem dl_1301 : decode code 1301 = .ok (.aload_n 0, 1) := dc_42 (dcc (r := 21) lq_20 rfl (Nat.le_of_ble_eq_true rfl) (by decide +kernel))
theorem dl_1302 : decode code 1302 = .ok (.iload_n 3, 1) := dc_29 (dcc (r := 22) lq_20 rfl (Nat.le_of_ble_eq_true rfl) (by decide +kernel))
theorem dl_1303 : decode code 1303 = .ok (.iconst 2, 1) := dc_5 (dcc (r := 23) lq_20 rfl (Nat.le_of_ble_eq_true rfl) (by decide +kernel))
theorem dl_1304 : decode code 1304 = .ok (.iadd, 1) := dc_96 (dcc (r := 24) lq_20 rfl (Nat.le_of_ble_eq_true rfl) (by decide +kernel))
theorem dl_1305 : decode code 1305 = .ok (.iaload, 1) := dc_46 (dcc (r := 25) lq_20 rfl (Nat.le_of_ble_eq_true rfl) (by decide +kernel))
theorem dl_1306 : decode code 1306 = .ok (.aload_n 0, 1) := dc_42 (dcc (r := 26) lq_20 rfl (Nat.le_of_ble_eq_true rfl) (by decide +kernel))
theorem dl_1307 : decode code 1307 = .ok (.iload_n 3, 1) := dc_29 (dcc (r := 27) lq_20 rfl (Nat.le_of_ble_eq_true rfl) (by decide +kernel))
theorem dl_1308 : decode code 1308 = .ok (.iconst 3, 1) := dc_6 (dcc (r := 28) lq_20 rfl (Nat.le_of_ble_eq_true rfl) (by decide +kernel))
theorem dl_1309 : decode code 1309 = .ok (.iadd, 1) := dc_96 (dcc (r := 29) lq_20 rfl (Nat.le_of_ble_eq_true rfl) (by decide +kernel))
theorem dl_1310 : decode code 1310 = .ok (.iaload, 1) := dc_46 (dcc (r := 30) lq_20 rfl (Nat.le_of_ble_eq_true rfl) (by decide +kernel))
theorem dl_1311 : decode code 1311 = .ok (.aload_n 0, 1) := dc_42 (dcc (r := 31) lq_20 rfl (Nat.le_of_ble_eq_true rfl) (by decide +kernel))
theorem dl_1312 : decode code 1312 = .ok (.iload_n 3, 1) := dc_29 (dcc (r := 32) lq_20 rfl (Nat.le_of_ble_eq_true rfl) (by decide +kernel))
theorem dl_1313 : decode code 1313 = .ok (.iconst 4, 1) := dc_7 (dcc (r := 33) lq_20 rfl (Nat.le_of_ble_eq_true rfl) (by decide +kernel))
theorem dl_1314 : decode code 1314 = .ok (.iadd, 1) := dc_96 (dcc (r := 34) lq_20 rfl (Nat.le_of_ble_eq_true rfl) (by decide +kernel))
theorem dl_1315 : decode code 1315 = .ok (.iaload, 1) := dc_46 (dcc (r := 35) lq_20 rfl (Nat.le_of_ble_eq_true rfl) (by decide +kernel))
theorem dl_1316 : decode code 1316 = .ok (.invokevirtual 160, 3) := dc_182 (a := 0) (b := 160) (dcc (r := 36) lq_20 rfl (Nat.le_of_ble_eq_true rfl) (by decide +kernel)) rfl
theorem dl_1319 : decode code 1319 = .ok (.pop, 1) := dc_87 (dcc (r := 39) lq_20 rfl (Nat.le_of_ble_eq_true rfl) (by decide +kernel))
theorem dl_1320 : decode code 1320 = .ok (.goto 39, 3) := dc_167 (a := 0) (b := 39) (dcc (r := 40) lq_20 rfl (Nat.le_of_ble_eq_true rfl) (by decide +kernel)) rfl
theorem dl_1323 : decode code 1323 = .ok (.aload_n 1, 1) := dc_43 (dcc (r := 43) lq_20 rfl (Nat.le_of_ble_eq_true rfl) (by decide +kernel))
theorem dl_1324 : decode code 1324 = .ok (.invokevirtual 161, 3) := dc_182 (a := 0) (b := 161) (dcc (r := 44) lq_20 rfl (Nat.le_of_ble_eq_true rfl) (by decide +kernel)) rfl
theorem dl_1327 : decode code 1327 = .ok (.pop, 1) := dc_87 (dcc (r := 47) lq_20 rfl (Nat.le_of_ble_eq_true rfl) (by decide +kernel))
theorem dl_1328 : decode code 1328 = .ok (.aload_n 2, 1) := dc_44 (dcc (r := 48) lq_20 rfl (Nat.le_of_ble_eq_true rfl) (by decide +kernel))
theorem dl_1329 : decode code 1329 = .ok (.invokevirtual 164, 3) := dc_182 (a := 0) (b := 164) (dcc (r := 49) lq_20 rfl (Nat.le_of_ble_eq_true rfl) (by decide +kernel)) rfl
theorem dl_1332 : decode code 1332 = .ok (.pop, 1) := dc_87 (dcc (r := 52) lq_20 rfl (Nat.le_of_ble_eq_true rfl) (by decide +kernel))
theorem dl_1333 : decode code 1333 = .ok (.goto 26, 3) := dc_167 (a := 0) (b := 26) (dcc (r := 53) lq_20 rfl (Nat.le_of_ble_eq_true rfl) (by decide +kernel)) rfl
theorem dl_1336 : decode code 1336 = .ok (.aload_n 1, 1) := dc_43 (dcc (r := 56) lq_20 rfl (Nat.le_of_ble_eq_true rfl) (by decide +kernel))
theorem dl_1337 : decode code 1337 = .ok (.aload_n 0, 1) := dc_42 (dcc (r := 57) lq_20 rfl (Nat.le_of_ble_eq_true rfl) (by decide +kernel))
theorem dl_1338 : decode code 1338 = .ok (.iload_n 3, 1) := dc_29 (dcc (r := 58) lq_20 rfl (Nat.le_of_ble_eq_true rfl) (by decide +kernel))
theorem dl_1339 : decode code 1339 = .ok (.iconst 1, 1) := dc_4 (dcc (r := 59) lq_20 rfl (Nat.le_of_ble_eq_true rfl) (by decide +kernel))
theorem dl_1340 : decode code 1340 = .ok (.iadd, 1) := dc_96 (dcc (r := 60) lq_20 rfl (Nat.le_of_ble_eq_true rfl) (by decide +kernel))
theorem dl_1341 : decode code 1341 = .ok (.iaload, 1) := dc_46 (dcc (r := 61) lq_20 rfl (Nat.le_of_ble_eq_true rfl) (by decide +kernel))
theorem dl_1342 : decode code 1342 = .ok (.invokevirtual 165, 3) := dc_182 (a := 0) (b := 165) (dcc (r := 62) lq_20 rfl (Nat.le_of_ble_eq_true rfl) (by decide +kernel)) rfl
theorem dl_1345 : decode code 1345 = .ok (.pop, 1) := dc_87 (dcc (r := 1) lq_21 rfl (Nat.le_of_ble_eq_true rfl) (by decide +kernel))
theorem dl_1346 : decode code 1346 = .ok (.aload_n 2, 1) := dc_44 (dcc (r := 2) lq_21 rfl (Nat.le_of_ble_eq_true rfl) (by decide +kernel))
theorem dl_1347 : decode code 1347 = .ok (.aload_n 0, 1) := dc_42 (dcc (r := 3) lq_21 rfl (Nat.le_of_ble_eq_true rfl) (by decide +kernel))
theorem dl_1348 : decode code 1348 = .ok (.iload_n 3, 1) := dc_29 (dcc (r := 4) lq_21 rfl (Nat.le_of_ble_eq_true rfl) (by decide +kernel))
theorem dl_1349 : decode code 1349 = .ok (.iconst 1, 1) := dc_4 (dcc (r := 5) lq_21 rfl (Nat.le_of_ble_eq_true rfl) (by decide +kernel))
theorem dl_1350 : decode code 1350 = .ok (.iadd, 1) := dc_96 (dcc (r := 6) lq_21 rfl (Nat.le_of_ble_eq_true rfl) (by decide +kernel))
theorem dl_1351 : decode code 1351 = .ok (.iaload, 1) := dc_46 (dcc (r := 7) lq_21 rfl (Nat.le_of_ble_eq_true rfl) (by decide +kernel))
theorem dl_1352 : decode code 1352 = .ok (.invokevirtual 168, 3) := dc_182 (a := 0) (b := 168) (dcc (r := 8) lq_21 rfl (Nat.le_of_ble_eq_true rfl) (by decide +kernel)) rfl
theorem dl_1355 : decode code 1355 = .ok (.pop, 1) := dc_87 (dcc (r := 11) lq_21 rfl (Nat.le_of_ble_eq_true rfl) (by decide +kernel))
theorem dl_1356 : decode code 1356 = .ok (.goto 3, 3) := dc_167 (a := 0) (b := 3) (dcc (r := 12) lq_21 rfl (Nat.le_of_ble_eq_true rfl) (by decide +kernel)) rfl
theorem dl_1359 : decode code 1359 = .ok (.iinc 3 5, 3) := dc_132 (a := 3) (b := 5) (dcc (r := 15) lq_21 rfl (Nat.le_of_ble_eq_true rfl) (by decide +kernel)) rfl
theorem dl_1362 : decode code 1362 = .ok (.goto (-1344), 3) := dc_167 (a := 250) (b := 192) (dcc (r := 18) lq_21 rfl (Nat.le_of_ble_eq_true rfl) (by decide +kernel)) rfl
theorem dl_1365 : decode code 1365 = .ok (.iconst 1, 1) := dc_4 (dcc (r := 21) lq_21 rfl (Nat.le_of_ble_eq_true rfl) (by decide +kernel))
theorem dl_1366 : decode code 1366 = .ok (.ireturn, 1) := dc_172 (dcc (r := 22) lq_21 rfl (Nat.le_of_ble_eq_true rfl) (by decide +kernel))
end
