def S_Mod_readZ : List (Nat × Option Nat) := [(117, none), (131, none), (116, some 35)]
abbrev q_Mod_readZ (h : Hp) (k : Int32) (kZ : Int) (l : Int32) (lZ : Int) (f : Int32) (fZ : Int) (n : Int32) (nZ : Int) (w : Int32) (wZ : Int) (g : Int32) (gZ : Int) (x : Int32) (xZ : Int) (y : Int32) (yZ : Int) : Option Value → Hp → Prop := pInt (fun r h' => Inv h' ∧ fr S_Mod_readZ h h' ∧ ((kZ < 0 ∨ 3 < kZ ∨ lZ < 0 ∨ 2 < lZ ∨ nZ < 0 ∨ 13 < nZ) ∧ h' = h ∧ r.toInt = -1 ∨ ¬ (kZ < 0 ∨ 3 < kZ ∨ lZ < 0 ∨ 2 < lZ ∨ nZ < 0 ∨ 13 < nZ) ∧ RDm h h' kZ.toNat lZ fZ nZ (wZ * gZ) r))
set_option maxRecDepth 100000 in
theorem c_Mod_readZ (h : Hp) (hI : Inv h) (k : Int32) (kZ : Int) (kE : k.toInt = kZ) (l : Int32) (lZ : Int) (lE : l.toInt = lZ) (f : Int32) (fZ : Int) (fE : f.toInt = fZ) (n : Int32) (nZ : Int) (nE : n.toInt = nZ) (w : Int32) (wZ : Int) (wE : w.toInt = wZ) (wK : h.1 116 2 = w) (g : Int32) (gZ : Int) (gE : g.toInt = gZ) (gK : h.1 116 3 = g) (x : Int32) (xZ : Int) (xE : x.toInt = xZ) (xK : h.1 116 4 = x) (y : Int32) (yZ : Int) (yE : y.toInt = yZ) (yK : h.1 116 5 = y) : Ct y_Mod_read b_Mod_read 11 (some .int) 3 74 [.ref 116, .int k, .int l, .int f, .int n] h (q_Mod_readZ h k kZ l lZ f fZ n nZ w wZ g gZ x xZ y yZ) := by
  refine ct_ow R_Mod [some (.ref 116), some (.int k), some (.int l), some (.int f), some (.int n), none, none, none, none, none, none] rfl (by decide) rfl (Nat.le_of_ble_eq_true rfl) ?_
  have f0 : fr S_Mod_readZ h h := fr_rf
  have g1 : 2 ≤ wZ ∧ wZ ≤ 4 := inv_at hI wE wK.symm rfl
  have g2 : 2 ≤ gZ ∧ gZ ≤ 4 := inv_at hI gE gK.symm rfl
  obtain ⟨sv, svZ, svE, svK⟩ : ∃ (y : Int32) (Y : Int), y.toInt = Y ∧ y = h.1 129 kZ.toNat := ⟨_, _, rfl, rfl⟩
  have svB : 0 ≤ svZ ∧ svZ ≤ 40 := inv_at hI svE svK rfl
  have fB := And.intro (ti_lo f) (ti_hi f)
  rw [fE] at fB
  have m24 := mul24 (A := wZ) (B := gZ) (by (first | decide +kernel | omega)) (by (first | decide +kernel | omega))
  obtain ⟨tv, tvZ, tvE, tvK⟩ : ∃ (y : Int32) (Y : Int), y.toInt = Y ∧ y = h.1 128 kZ.toNat := ⟨_, _, rfl, rfl⟩
  refine V_iload_n 1 d_Mod_read_0 rfl rfl ?_
  refine V_iload_n 2 d_Mod_read_1 rfl rfl ?_
  refine N_callSI [.int k, .int l] [] cs_Mod_322 d_Mod_read_2 rfl (Nat.le_of_ble_eq_true rfl) (by decide) (by decide) (c_Mod_isSheet h k kZ kE l lZ lE) (fun z3 h4 z3Z z3E p5 => ?_)
  obtain ⟨eh4, p5⟩ := p5
  subst eh4
  refine V_if_eq 21 z3E d_Mod_read_5 (by decide) (fun c6 => ?_) (fun c6 => ?_)
  ·
    replace p5 := p5.resolve_left (fun q => by (first | decide +kernel | omega))
    refine V_iconst (-1) d_Mod_read_21 (by decide) ?_
    exact V_iret rfl d_Mod_read_22 ⟨(-1), rfl, ⟨hI, f0, (Or.inl ⟨by (first | decide +kernel | omega), rfl, tc_m1⟩)⟩⟩
  ·
    replace p5 := p5.resolve_right (fun q => by (first | decide +kernel | omega))
    refine V_iload d_Mod_read_8 rfl ?_
    refine V_i2l d_Mod_read_10 (fun z7 z7e z7E => ?_)
    have z7F : z7.toInt = nZ := z7E.trans nE
    refine V_lconst 0 d_Mod_read_11 (by decide) ?_
    refine V_ldc2 d_Mod_read_12 wl_Mod_275 ?_
    refine N_callSI [.long z7, .long 0, .long 13] [] cs_Mod_95 d_Mod_read_15 rfl (Nat.le_of_ble_eq_true rfl) (by decide) (by decide) (c_Mod_in h z7 nZ z7F 0 0 tl_0 13 13 tl_13) (fun z8 h9 z8Z z8E p10 => ?_)
    obtain ⟨eh9, p10⟩ := p10
    subst eh9
    refine V_if_ne 23 z8E d_Mod_read_18 (by decide) (fun c11 => ?_) (fun c11 => ?_)
    ·
      replace p10 := p10.resolve_right (fun q => by (first | decide +kernel | omega))
      refine V_iconst 0 d_Mod_read_23 (by decide) ?_
      refine V_istore 5 [some (.ref 116), some (.int k), some (.int l), some (.int f), some (.int n), some (.int 0), none, none, none, none, none] d_Mod_read_24 (by decide) rfl rfl ?_
      have L12 : ∀ (nn : Nat) (v14 : Int32) (v14Z : Int) (h15 : Hp), v14.toInt = v14Z → Inv h15 → fr S_Mod_readZ h h15 → h15.1 116 2 = w → h15.1 116 3 = g → h15.1 116 4 = x → h15.1 116 5 = y → 0 ≤ v14Z ∧ v14Z ≤ 20 → ah h h15 v14Z → s7 h h15 → 20 - v14Z < (nn : Int) → V R_Mod b_Mod_read 11 (some .int) 3 74 (q_Mod_readZ h k kZ l lZ f fZ n nZ w wZ g gZ x xZ y yZ) h15 26 [some (.ref 116), some (.int k), some (.int l), some (.int f), some (.int n), some (.int v14), none, none, none, none, none] [] := by
        intro nn
        induction nn with
        | zero => intro v14 v14Z h15 v14E Ih15 Fh15 K16 K17 K18 K19 q20 q21 q22 hm23; exact absurd hm23 (by (first | decide +kernel | omega))
        | succ nn ihL12 =>
          intro v14 v14Z h15 v14E Ih15 Fh15 K16 K17 K18 K19 q20 q21 q22 hm23
          have q79 : s7 h h15 := by assumption
          have ah9 : ah h h15 v14Z := by assumption
          refine V_iload d_Mod_read_26 rfl ?_
          refine V_bipush 20 d_Mod_read_28 (by decide) ?_
          refine V_icmp_ge 56 v14E tc_20 d_Mod_read_30 (by decide) (fun c24 => ?_) (fun c24 => ?_)
          ·
            refine V_iconst 0 d_Mod_read_56 (by decide) ?_
            refine V_istore 5 [some (.ref 116), some (.int k), some (.int l), some (.int f), some (.int n), some (.int 0), none, none, none, none, none] d_Mod_read_57 (by decide) rfl rfl ?_
            refine V_iconst 0 d_Mod_read_59 (by decide) ?_
            refine V_istore 6 [some (.ref 116), some (.int k), some (.int l), some (.int f), some (.int n), some (.int 0), some (.int 0), none, none, none, none] d_Mod_read_60 (by decide) rfl rfl ?_
            refine V_iconst 0 d_Mod_read_62 (by decide) ?_
            refine V_istore 7 [some (.ref 116), some (.int k), some (.int l), some (.int f), some (.int n), some (.int 0), some (.int 0), some (.int 0), none, none, none] d_Mod_read_63 (by decide) rfl rfl ?_
            have L25 : ∀ (nn : Nat) (v27 : Int32) (v27Z : Int) (v28 : Int32) (v28Z : Int) (v29 : Int32) (v29Z : Int) (h30 : Hp), v27.toInt = v27Z → v28.toInt = v28Z → v29.toInt = v29Z → Inv h30 → fr S_Mod_readZ h h30 → h30.1 116 2 = w → h30.1 116 3 = g → h30.1 116 4 = x → h30.1 116 5 = y → 0 ≤ v29Z ∧ v29Z ≤ nZ → 0 ≤ v28Z ∧ v28Z ≤ v29Z → (v27Z = 0 ∧ v28Z = v29Z ∧ (v29Z = 0 ∨ tvZ = lZ ∧ 0 ≤ fZ ∧ fZ + 3 * v29Z ≤ svZ) ∨ v27Z ≠ 0 ∧ v28Z = whl tvZ svZ lZ fZ nZ) → nC h h30 → ah h h30 20 → MRN h h30 kZ.toNat fZ.toNat (wZ * gZ) v28Z.toNat → nZ - v29Z < (nn : Int) → V R_Mod b_Mod_read 11 (some .int) 3 74 (q_Mod_readZ h k kZ l lZ f fZ n nZ w wZ g gZ x xZ y yZ) h30 65 [some (.ref 116), some (.int k), some (.int l), some (.int f), some (.int n), some (.int v27), some (.int v28), some (.int v29), none, none, none] [] := by
              intro nn
              induction nn with
              | zero => intro v27 v27Z v28 v28Z v29 v29Z h30 v27E v28E v29E Ih30 Fh30 K31 K32 K33 K34 q35 q36 q37 q38 q39 q40 hm41; exact absurd hm41 (by (first | decide +kernel | omega))
              | succ nn ihL25 =>
                intro v27 v27Z v28 v28Z v29 v29Z h30 v27E v28E v29E Ih30 Fh30 K31 K32 K33 K34 q35 q36 q37 q38 q39 q40 hm41
                have nc9 : nC h h30 := by assumption
                have ah8 : ah h h30 20 := by assumption
                have rn9 : MRN h h30 kZ.toNat fZ.toNat (wZ * gZ) v28Z.toNat := by assumption
                refine V_iload d_Mod_read_65 rfl ?_
                refine V_iload d_Mod_read_67 rfl ?_
                refine V_icmp_ge 265 v29E nE d_Mod_read_69 (by decide) (fun c42 => ?_) (fun c42 => ?_)
                ·
                  have hwn : v28Z = whl tvZ svZ lZ fZ nZ := whl_st (show (v27Z = 0 ∧ v28Z = v29Z ∧ (v29Z = 0 ∨ tvZ = lZ ∧ 0 ≤ fZ ∧ fZ + 3 * v29Z ≤ svZ) ∨ v27Z ≠ 0 ∧ v28Z = whl tvZ svZ lZ fZ nZ) from by assumption) (by (first | decide +kernel | omega)) (by (first | decide +kernel | omega))
                  refine V_aload_n 0 d_Mod_read_265 rfl rfl ?_
                  refine V_iload d_Mod_read_266 rfl ?_
                  refine N_putI fp_Mod_328 sk_116 rfl d_Mod_read_268 (fun h43 eh43 => ?_)
                  have hI44 : Inv h43 := inv_full Ih30 eh43 rfl
                  have f45 : fr S_Mod_readZ h h43 := fr_put Fh30 eh43 rfl
                  refine V_iload d_Mod_read_271 rfl ?_
                  exact V_iret rfl d_Mod_read_273 ⟨v28, rfl, ⟨hI44, f45, (Or.inr ⟨by (first | decide +kernel | omega), RDm_good (m := (v28Z).toNat) (by rw [← tvK, tvE, ← svK, svE]; omega) (by rw [v28E]; omega) rn9 nc9 eh43⟩)⟩⟩
                ·
                  refine V_iload d_Mod_read_72 rfl ?_
                  refine V_if_ne 265 v27E d_Mod_read_74 (by decide) (fun c47 => ?_) (fun c47 => ?_)
                  ·
                    have hwn : v28Z = whl tvZ svZ lZ fZ nZ := by (first | decide +kernel | omega)
                    refine V_aload_n 0 d_Mod_read_265 rfl rfl ?_
                    refine V_iload d_Mod_read_266 rfl ?_
                    refine N_putI fp_Mod_328 sk_116 rfl d_Mod_read_268 (fun h48 eh48 => ?_)
                    have hI49 : Inv h48 := inv_full Ih30 eh48 rfl
                    have f50 : fr S_Mod_readZ h h48 := fr_put Fh30 eh48 rfl
                    refine V_iload d_Mod_read_271 rfl ?_
                    exact V_iret rfl d_Mod_read_273 ⟨v28, rfl, ⟨hI49, f50, (Or.inr ⟨by (first | decide +kernel | omega), RDm_good (m := (v28Z).toNat) (by rw [← tvK, tvE, ← svK, svE]; omega) (by rw [v28E]; omega) rn9 nc9 eh48⟩)⟩⟩
                  ·
                    refine V_iconst 0 d_Mod_read_77 (by decide) ?_
                    refine V_istore 8 [some (.ref 116), some (.int k), some (.int l), some (.int f), some (.int n), some (.int v27), some (.int v28), some (.int v29), some (.int 0), none, none] d_Mod_read_78 (by decide) rfl rfl ?_
                    have L52 : ∀ (nn : Nat) (v54 : Int32) (v54Z : Int) (v55 : Int32) (v55Z : Int), v54.toInt = v54Z → v55.toInt = v55Z → 0 ≤ v55Z ∧ v55Z ≤ 3 → (v54Z = 0 ∧ (v55Z = 0 ∨ tvZ = lZ ∧ 0 ≤ fZ + 3 * v29Z ∧ fZ + 3 * v29Z + v55Z - 1 < svZ) ∨ v54Z ≠ 0 ∧ (tvZ ≠ lZ ∨ fZ + 3 * v29Z < 0 ∨ svZ ≤ fZ + 3 * v29Z + 2)) → 3 - v55Z < (nn : Int) → V R_Mod b_Mod_read 11 (some .int) 3 74 (q_Mod_readZ h k kZ l lZ f fZ n nZ w wZ g gZ x xZ y yZ) h30 80 [some (.ref 116), some (.int k), some (.int l), some (.int f), some (.int n), some (.int v54), some (.int v28), some (.int v29), some (.int v55), none, none] [] := by
                      intro nn
                      induction nn with
                      | zero => intro v54 v54Z v55 v55Z v54E v55E q56 q57 hm58; exact absurd hm58 (by (first | decide +kernel | omega))
                      | succ nn ihL52 =>
                        intro v54 v54Z v55 v55Z v54E v55E q56 q57 hm58
                        refine V_iload d_Mod_read_80 rfl ?_
                        refine V_iconst 3 d_Mod_read_82 (by decide) ?_
                        refine V_icmp_ge 167 v55E tc_3 d_Mod_read_83 (by decide) (fun c59 => ?_) (fun c59 => ?_)
                        ·
                          refine V_iload d_Mod_read_167 rfl ?_
                          refine V_if_ne 259 v54E d_Mod_read_169 (by decide) (fun c60 => ?_) (fun c60 => ?_)
                          ·
                            have hwh := whl_i (t := tvZ) (s := svZ) (l := lZ) (f := fZ) (n := nZ) (i := v29Z) (by (first | decide +kernel | omega)) (by (first | decide +kernel | omega)) (by (first | decide +kernel | omega))
                            obtain ⟨z61, z61E, z61e⟩ : ∃ y : Int32, y.toInt = v29Z + 1 ∧ y = v29 + Int32.ofInt 1 := ⟨_, ti_add v29E (by decide) (by (first | decide +kernel | omega)), rfl⟩
                            refine V_iinc 7 [some (.ref 116), some (.int k), some (.int l), some (.int f), some (.int n), some (.int v54), some (.int v28), some (.int z61), some (.int v55), none, none] d_Mod_read_259 rfl z61e.symm (by decide) rfl rfl ?_
                            refine V_goto 65 d_Mod_read_262 (by decide) ?_
                            refine V_drop 8 [some (.ref 116), some (.int k), some (.int l), some (.int f), some (.int n), some (.int v54), some (.int v28), some (.int z61), none, none, none] rfl ?_
                            exact ihL25 v54 v54Z v28 v28Z z61 ((v29Z + 1)) h30 v54E v28E z61E Ih30 Fh30 K31 K32 K33 K34 (by (first | decide +kernel | omega)) (by (first | decide +kernel | omega)) (by (first | decide +kernel | omega)) nc9 ah8 rn9 (by (first | decide +kernel | omega))
                          ·
                            refine V_bipush 40 d_Mod_read_172 (by decide) ?_
                            refine V_iload_n 1 d_Mod_read_174 rfl rfl ?_
                            refine V_imul tc_40 kE (by (first | decide +kernel | omega)) d_Mod_read_175 (fun z62 z62e z62E => ?_)
                            refine V_iload_n 3 d_Mod_read_176 rfl rfl ?_
                            refine V_iadd z62E fE (by (first | decide +kernel | omega)) d_Mod_read_177 (fun z63 z63e z63E => ?_)
                            refine V_iconst 3 d_Mod_read_178 (by decide) ?_
                            refine V_iload d_Mod_read_179 rfl ?_
                            refine V_imul tc_3 v29E (by (first | decide +kernel | omega)) d_Mod_read_181 (fun z64 z64e z64E => ?_)
                            refine V_iadd z63E z64E (by (first | decide +kernel | omega)) d_Mod_read_182 (fun z65 z65e z65E => ?_)
                            refine V_istore 8 [some (.ref 116), some (.int k), some (.int l), some (.int f), some (.int n), some (.int v54), some (.int v28), some (.int v29), some (.int z65), none, none] d_Mod_read_183 (by decide) rfl rfl ?_
                            refine V_aload_n 0 d_Mod_read_185 rfl rfl ?_
                            refine V_aload_n 0 d_Mod_read_186 rfl rfl ?_
                            refine V_getR fa_Mod_50 sk_116 rfl d_Mod_read_187 ?_
                            refine V_iload d_Mod_read_190 rfl ?_
                            refine N_iald sk_130 z65E (by (first | decide +kernel | omega)) d_Mod_read_192 (fun z66 z66Z z66E z66e => ?_)
                            refine V_aload_n 0 d_Mod_read_193 rfl rfl ?_
                            refine V_getR fa_Mod_50 sk_116 rfl d_Mod_read_194 ?_
                            refine V_iload d_Mod_read_197 rfl ?_
                            refine V_iconst 1 d_Mod_read_199 (by decide) ?_
                            refine V_iadd z65E tc_1 (by (first | decide +kernel | omega)) d_Mod_read_200 (fun z67 z67e z67E => ?_)
                            refine N_iald sk_130 z67E (by (first | decide +kernel | omega)) d_Mod_read_201 (fun z68 z68Z z68E z68e => ?_)
                            refine V_aload_n 0 d_Mod_read_202 rfl rfl ?_
                            refine V_getR fa_Mod_50 sk_116 rfl d_Mod_read_203 ?_
                            refine V_iload d_Mod_read_206 rfl ?_
                            refine V_iconst 2 d_Mod_read_208 (by decide) ?_
                            refine V_iadd z65E tc_2 (by (first | decide +kernel | omega)) d_Mod_read_209 (fun z69 z69e z69E => ?_)
                            refine N_iald sk_130 z69E (by (first | decide +kernel | omega)) d_Mod_read_210 (fun z70 z70Z z70E z70e => ?_)
                            refine N_callVI [.int z66, .int z68, .int z70] [] cv_Mod_325 sk_116 rfl d_Mod_read_211 rfl (Nat.le_of_ble_eq_true rfl) (by decide) (by decide) (c_Mod_boreX h30 Ih30 z66 z66Z z66E z68 z68Z z68E z70 z70Z z70E w wZ wE K31 g gZ gE K32 x xZ xE K33 y yZ yE K34) (fun z71 h72 z71Z z71E p73 => ?_)
                            obtain ⟨hI74, fh72, p73⟩ := p73
                            have f75 : fr S_Mod_readZ h h72 := fr_call Fh30 fh72 rfl
                            have hB := RN_m (h := h) (k := kZ.toNat) (f := fZ.toNat) (n := v28Z.toNat) (W := wZ * gZ) (by (first | decide +kernel | omega)) rn9 nc9 (K33.trans xK.symm) (K34.trans yK.symm) z66E z68E z70E p73 (by rw [z66e, Fh30.1 130 _ rfl]; exact congrArg (h.1 130) (by (first | decide +kernel | omega))) (by rw [z68e, Fh30.1 130 _ rfl]; exact congrArg (h.1 130) (by (first | decide +kernel | omega))) (by rw [z70e, Fh30.1 130 _ rfl]; exact congrArg (h.1 130) (by (first | decide +kernel | omega)))
                            have A76 : ah h h72 20 := ah_fr fh72 rfl ah8
                            refine V_if_ge 256 z71E d_Mod_read_214 (by decide) (fun c77 => ?_) (fun c77 => ?_)
                            ·
                              have hb9 := (hB.1.resolve_left (fun q => absurd q.1 (by (first | decide +kernel | omega)))).2
                              obtain ⟨z78, z78E, z78e⟩ : ∃ y : Int32, y.toInt = v28Z + 1 ∧ y = v28 + Int32.ofInt 1 := ⟨_, ti_add v28E (by decide) (by (first | decide +kernel | omega)), rfl⟩
                              refine V_iinc 6 [some (.ref 116), some (.int k), some (.int l), some (.int f), some (.int n), some (.int v54), some (.int z78), some (.int v29), some (.int z65), none, none] d_Mod_read_256 rfl z78e.symm (by decide) rfl rfl ?_
                              obtain ⟨z79, z79E, z79e⟩ : ∃ y : Int32, y.toInt = v29Z + 1 ∧ y = v29 + Int32.ofInt 1 := ⟨_, ti_add v29E (by decide) (by (first | decide +kernel | omega)), rfl⟩
                              refine V_iinc 7 [some (.ref 116), some (.int k), some (.int l), some (.int f), some (.int n), some (.int v54), some (.int z78), some (.int z79), some (.int z65), none, none] d_Mod_read_259 rfl z79e.symm (by decide) rfl rfl ?_
                              refine V_goto 65 d_Mod_read_262 (by decide) ?_
                              refine V_drop 8 [some (.ref 116), some (.int k), some (.int l), some (.int f), some (.int n), some (.int v54), some (.int z78), some (.int z79), none, none, none] rfl ?_
                              exact ihL25 v54 v54Z z78 ((v28Z + 1)) z79 ((v29Z + 1)) h72 v54E z78E z79E hI74 f75 (kn_call fh72 K31 rfl) (kn_call fh72 K32 rfl) (kn_call fh72 K33 rfl) (kn_call fh72 K34 rfl) (by (first | decide +kernel | omega)) (by (first | decide +kernel | omega)) (by (first | decide +kernel | omega)) hB.2 A76 (by rw [show ((v28Z + 1)).toNat = (v28Z).toNat + 1 by (first | decide +kernel | omega)]; exact hb9) (by (first | decide +kernel | omega))
                            ·
                              obtain ⟨hb0, hb1, hb2⟩ := hB.1.resolve_right (fun q => absurd q.1 (by (first | decide +kernel | omega)))
                              have hwl := whl_lt (t := tvZ) (s := svZ) (l := lZ) (f := fZ) (n := nZ) (i := v29Z) (by (first | decide +kernel | omega)) (by (first | decide +kernel | omega))
                              refine V_iconst 0 d_Mod_read_217 (by decide) ?_
                              refine V_istore 9 [some (.ref 116), some (.int k), some (.int l), some (.int f), some (.int n), some (.int v54), some (.int v28), some (.int v29), some (.int z65), some (.int 0), none] d_Mod_read_218 (by decide) rfl rfl ?_
                              have L80 : ∀ (nn : Nat) (v82 : Int32) (v82Z : Int) (h83 : Hp), v82.toInt = v82Z → Inv h83 → fr S_Mod_readZ h h83 → h83.1 116 2 = w → h83.1 116 3 = g → h83.1 116 4 = x → h83.1 116 5 = y → 0 ≤ v82Z ∧ v82Z ≤ 20 → rst h h83 v82Z → nC h h83 → ah h h83 20 → 20 - v82Z < (nn : Int) → V R_Mod b_Mod_read 11 (some .int) 3 74 (q_Mod_readZ h k kZ l lZ f fZ n nZ w wZ g gZ x xZ y yZ) h83 220 [some (.ref 116), some (.int k), some (.int l), some (.int f), some (.int n), some (.int v54), some (.int v28), some (.int v29), some (.int z65), some (.int v82), none] [] := by
                                intro nn
                                induction nn with
                                | zero => intro v82 v82Z h83 v82E Ih83 Fh83 K84 K85 K86 K87 q88 q89 q90 q91 hm92; exact absurd hm92 (by (first | decide +kernel | omega))
                                | succ nn ihL80 =>
                                  intro v82 v82Z h83 v82E Ih83 Fh83 K84 K85 K86 K87 q88 q89 q90 q91 hm92
                                  have nc7 : nC h h83 := by assumption
                                  have ah7 : ah h h83 20 := by assumption
                                  refine V_iload d_Mod_read_220 rfl ?_
                                  refine V_bipush 20 d_Mod_read_222 (by decide) ?_
                                  refine V_icmp_ge 250 v82E tc_20 d_Mod_read_224 (by decide) (fun c93 => ?_) (fun c93 => ?_)
                                  ·
                                    refine V_bipush (-20) d_Mod_read_250 (by decide) ?_
                                    refine V_iload d_Mod_read_252 rfl ?_
                                    refine V_isub tc_m20 v29E (by (first | decide +kernel | omega)) d_Mod_read_254 (fun z94 z94e z94E => ?_)
                                    exact V_iret rfl d_Mod_read_255 ⟨z94, rfl, ⟨Ih83, Fh83, (Or.inr ⟨by (first | decide +kernel | omega), RDm_bad (m := (whl tvZ svZ lZ fZ nZ).toNat) (n := (v28Z).toNat) (by rw [← tvK, tvE, ← svK, svE]; omega) (by (first | decide +kernel | omega)) (by rw [z94E]; omega) rn9 hb2 nc7 (by assumption) (by (first | decide +kernel | omega))⟩)⟩⟩
                                  ·
                                    refine V_aload_n 0 d_Mod_read_227 rfl rfl ?_
                                    refine V_getR fa_Mod_7 sk_116 rfl d_Mod_read_228 ?_
                                    refine V_bipush 64 d_Mod_read_231 (by decide) ?_
                                    refine V_iload d_Mod_read_233 rfl ?_
                                    refine V_iadd tc_64 v82E (by (first | decide +kernel | omega)) d_Mod_read_235 (fun z95 z95e z95E => ?_)
                                    refine V_aload_n 0 d_Mod_read_236 rfl rfl ?_
                                    refine V_getR fa_Mod_53 sk_116 rfl d_Mod_read_237 ?_
                                    refine V_iload d_Mod_read_240 rfl ?_
                                    refine N_iald sk_131 v82E (by (first | decide +kernel | omega)) d_Mod_read_242 (fun z96 z96Z z96E z96e => ?_)
                                    refine N_iast sk_117 z95E (by (first | decide +kernel | omega)) d_Mod_read_243 (fun h97 eh97 => ?_)
                                    have hI98 : Inv h97 := inv_full Ih83 eh97 (st_lo (by (first | decide +kernel | omega)))
                                    have f99 : fr S_Mod_readZ h h97 := fr_put Fh83 eh97 rfl
                                    have Q100 : nC h h97 := nC_put nc7 eh97 (by (first | decide +kernel | omega))
                                    have Q101 : ah h h97 20 := ah_put ah7 eh97 (by decide)
                                    obtain ⟨z102, z102E, z102e⟩ : ∃ y : Int32, y.toInt = v82Z + 1 ∧ y = v82 + Int32.ofInt 1 := ⟨_, ti_add v82E (by decide) (by (first | decide +kernel | omega)), rfl⟩
                                    refine V_iinc 9 [some (.ref 116), some (.int k), some (.int l), some (.int f), some (.int n), some (.int v54), some (.int v28), some (.int v29), some (.int z65), some (.int z102), none] d_Mod_read_244 rfl z102e.symm (by decide) rfl rfl ?_
                                    refine V_goto 220 d_Mod_read_247 (by decide) ?_
                                    exact ihL80 z102 ((v82Z + 1)) h97 z102E hI98 f99 (kn_ne eh97 K84 (by decide)) (kn_ne eh97 K85 (by decide)) (kn_ne eh97 K86 (by decide)) (kn_ne eh97 K87 (by decide)) (by (first | decide +kernel | omega)) (rst_s (by assumption) ah7 (by (first | decide +kernel | omega)) eh97 (by assumption)) Q100 Q101 (by (first | decide +kernel | omega))
                              exact L80 (Int.toNat ((20 - 0 : Int) + 1)) 0 0 h72 tc_0 hI74 f75 (kn_call fh72 K31 rfl) (kn_call fh72 K32 rfl) (kn_call fh72 K33 rfl) (kn_call fh72 K34 rfl) (by (first | decide +kernel | omega)) rst_0 hB.2 A76 (by (first | decide +kernel | omega))
                        ·
                          refine V_iload d_Mod_read_86 rfl ?_
                          refine V_if_ne 167 v54E d_Mod_read_88 (by decide) (fun c103 => ?_) (fun c103 => ?_)
                          ·
                            refine V_iload d_Mod_read_167 rfl ?_
                            refine V_if_ne 259 v54E d_Mod_read_169 (by decide) (fun c104 => ?_) (fun c104 => ?_)
                            ·
                              have hwh := whl_i (t := tvZ) (s := svZ) (l := lZ) (f := fZ) (n := nZ) (i := v29Z) (by (first | decide +kernel | omega)) (by (first | decide +kernel | omega)) (by (first | decide +kernel | omega))
                              obtain ⟨z105, z105E, z105e⟩ : ∃ y : Int32, y.toInt = v29Z + 1 ∧ y = v29 + Int32.ofInt 1 := ⟨_, ti_add v29E (by decide) (by (first | decide +kernel | omega)), rfl⟩
                              refine V_iinc 7 [some (.ref 116), some (.int k), some (.int l), some (.int f), some (.int n), some (.int v54), some (.int v28), some (.int z105), some (.int v55), none, none] d_Mod_read_259 rfl z105e.symm (by decide) rfl rfl ?_
                              refine V_goto 65 d_Mod_read_262 (by decide) ?_
                              refine V_drop 8 [some (.ref 116), some (.int k), some (.int l), some (.int f), some (.int n), some (.int v54), some (.int v28), some (.int z105), none, none, none] rfl ?_
                              exact ihL25 v54 v54Z v28 v28Z z105 ((v29Z + 1)) h30 v54E v28E z105E Ih30 Fh30 K31 K32 K33 K34 (by (first | decide +kernel | omega)) (by (first | decide +kernel | omega)) (by (first | decide +kernel | omega)) nc9 ah8 rn9 (by (first | decide +kernel | omega))
                            ·
                              refine V_bipush 40 d_Mod_read_172 (by decide) ?_
                              refine V_iload_n 1 d_Mod_read_174 rfl rfl ?_
                              refine V_imul tc_40 kE (by (first | decide +kernel | omega)) d_Mod_read_175 (fun z106 z106e z106E => ?_)
                              refine V_iload_n 3 d_Mod_read_176 rfl rfl ?_
                              refine V_iadd z106E fE (by (first | decide +kernel | omega)) d_Mod_read_177 (fun z107 z107e z107E => ?_)
                              refine V_iconst 3 d_Mod_read_178 (by decide) ?_
                              refine V_iload d_Mod_read_179 rfl ?_
                              refine V_imul tc_3 v29E (by (first | decide +kernel | omega)) d_Mod_read_181 (fun z108 z108e z108E => ?_)
                              refine V_iadd z107E z108E (by (first | decide +kernel | omega)) d_Mod_read_182 (fun z109 z109e z109E => ?_)
                              refine V_istore 8 [some (.ref 116), some (.int k), some (.int l), some (.int f), some (.int n), some (.int v54), some (.int v28), some (.int v29), some (.int z109), none, none] d_Mod_read_183 (by decide) rfl rfl ?_
                              refine V_aload_n 0 d_Mod_read_185 rfl rfl ?_
                              refine V_aload_n 0 d_Mod_read_186 rfl rfl ?_
                              refine V_getR fa_Mod_50 sk_116 rfl d_Mod_read_187 ?_
                              refine V_iload d_Mod_read_190 rfl ?_
                              refine N_iald sk_130 z109E (by (first | decide +kernel | omega)) d_Mod_read_192 (fun z110 z110Z z110E z110e => ?_)
                              refine V_aload_n 0 d_Mod_read_193 rfl rfl ?_
                              refine V_getR fa_Mod_50 sk_116 rfl d_Mod_read_194 ?_
                              refine V_iload d_Mod_read_197 rfl ?_
                              refine V_iconst 1 d_Mod_read_199 (by decide) ?_
                              refine V_iadd z109E tc_1 (by (first | decide +kernel | omega)) d_Mod_read_200 (fun z111 z111e z111E => ?_)
                              refine N_iald sk_130 z111E (by (first | decide +kernel | omega)) d_Mod_read_201 (fun z112 z112Z z112E z112e => ?_)
                              refine V_aload_n 0 d_Mod_read_202 rfl rfl ?_
                              refine V_getR fa_Mod_50 sk_116 rfl d_Mod_read_203 ?_
                              refine V_iload d_Mod_read_206 rfl ?_
                              refine V_iconst 2 d_Mod_read_208 (by decide) ?_
                              refine V_iadd z109E tc_2 (by (first | decide +kernel | omega)) d_Mod_read_209 (fun z113 z113e z113E => ?_)
                              refine N_iald sk_130 z113E (by (first | decide +kernel | omega)) d_Mod_read_210 (fun z114 z114Z z114E z114e => ?_)
                              refine N_callVI [.int z110, .int z112, .int z114] [] cv_Mod_325 sk_116 rfl d_Mod_read_211 rfl (Nat.le_of_ble_eq_true rfl) (by decide) (by decide) (c_Mod_boreX h30 Ih30 z110 z110Z z110E z112 z112Z z112E z114 z114Z z114E w wZ wE K31 g gZ gE K32 x xZ xE K33 y yZ yE K34) (fun z115 h116 z115Z z115E p117 => ?_)
                              obtain ⟨hI118, fh116, p117⟩ := p117
                              have f119 : fr S_Mod_readZ h h116 := fr_call Fh30 fh116 rfl
                              have hB := RN_m (h := h) (k := kZ.toNat) (f := fZ.toNat) (n := v28Z.toNat) (W := wZ * gZ) (by (first | decide +kernel | omega)) rn9 nc9 (K33.trans xK.symm) (K34.trans yK.symm) z110E z112E z114E p117 (by rw [z110e, Fh30.1 130 _ rfl]; exact congrArg (h.1 130) (by (first | decide +kernel | omega))) (by rw [z112e, Fh30.1 130 _ rfl]; exact congrArg (h.1 130) (by (first | decide +kernel | omega))) (by rw [z114e, Fh30.1 130 _ rfl]; exact congrArg (h.1 130) (by (first | decide +kernel | omega)))
                              have A120 : ah h h116 20 := ah_fr fh116 rfl ah8
                              refine V_if_ge 256 z115E d_Mod_read_214 (by decide) (fun c121 => ?_) (fun c121 => ?_)
                              ·
                                have hb9 := (hB.1.resolve_left (fun q => absurd q.1 (by (first | decide +kernel | omega)))).2
                                obtain ⟨z122, z122E, z122e⟩ : ∃ y : Int32, y.toInt = v28Z + 1 ∧ y = v28 + Int32.ofInt 1 := ⟨_, ti_add v28E (by decide) (by (first | decide +kernel | omega)), rfl⟩
                                refine V_iinc 6 [some (.ref 116), some (.int k), some (.int l), some (.int f), some (.int n), some (.int v54), some (.int z122), some (.int v29), some (.int z109), none, none] d_Mod_read_256 rfl z122e.symm (by decide) rfl rfl ?_
                                obtain ⟨z123, z123E, z123e⟩ : ∃ y : Int32, y.toInt = v29Z + 1 ∧ y = v29 + Int32.ofInt 1 := ⟨_, ti_add v29E (by decide) (by (first | decide +kernel | omega)), rfl⟩
                                refine V_iinc 7 [some (.ref 116), some (.int k), some (.int l), some (.int f), some (.int n), some (.int v54), some (.int z122), some (.int z123), some (.int z109), none, none] d_Mod_read_259 rfl z123e.symm (by decide) rfl rfl ?_
                                refine V_goto 65 d_Mod_read_262 (by decide) ?_
                                refine V_drop 8 [some (.ref 116), some (.int k), some (.int l), some (.int f), some (.int n), some (.int v54), some (.int z122), some (.int z123), none, none, none] rfl ?_
                                exact ihL25 v54 v54Z z122 ((v28Z + 1)) z123 ((v29Z + 1)) h116 v54E z122E z123E hI118 f119 (kn_call fh116 K31 rfl) (kn_call fh116 K32 rfl) (kn_call fh116 K33 rfl) (kn_call fh116 K34 rfl) (by (first | decide +kernel | omega)) (by (first | decide +kernel | omega)) (by (first | decide +kernel | omega)) hB.2 A120 (by rw [show ((v28Z + 1)).toNat = (v28Z).toNat + 1 by (first | decide +kernel | omega)]; exact hb9) (by (first | decide +kernel | omega))
                              ·
                                obtain ⟨hb0, hb1, hb2⟩ := hB.1.resolve_right (fun q => absurd q.1 (by (first | decide +kernel | omega)))
                                have hwl := whl_lt (t := tvZ) (s := svZ) (l := lZ) (f := fZ) (n := nZ) (i := v29Z) (by (first | decide +kernel | omega)) (by (first | decide +kernel | omega))
                                refine V_iconst 0 d_Mod_read_217 (by decide) ?_
                                refine V_istore 9 [some (.ref 116), some (.int k), some (.int l), some (.int f), some (.int n), some (.int v54), some (.int v28), some (.int v29), some (.int z109), some (.int 0), none] d_Mod_read_218 (by decide) rfl rfl ?_
                                have L124 : ∀ (nn : Nat) (v126 : Int32) (v126Z : Int) (h127 : Hp), v126.toInt = v126Z → Inv h127 → fr S_Mod_readZ h h127 → h127.1 116 2 = w → h127.1 116 3 = g → h127.1 116 4 = x → h127.1 116 5 = y → 0 ≤ v126Z ∧ v126Z ≤ 20 → rst h h127 v126Z → nC h h127 → ah h h127 20 → 20 - v126Z < (nn : Int) → V R_Mod b_Mod_read 11 (some .int) 3 74 (q_Mod_readZ h k kZ l lZ f fZ n nZ w wZ g gZ x xZ y yZ) h127 220 [some (.ref 116), some (.int k), some (.int l), some (.int f), some (.int n), some (.int v54), some (.int v28), some (.int v29), some (.int z109), some (.int v126), none] [] := by
                                  intro nn
                                  induction nn with
                                  | zero => intro v126 v126Z h127 v126E Ih127 Fh127 K128 K129 K130 K131 q132 q133 q134 q135 hm136; exact absurd hm136 (by (first | decide +kernel | omega))
                                  | succ nn ihL124 =>
                                    intro v126 v126Z h127 v126E Ih127 Fh127 K128 K129 K130 K131 q132 q133 q134 q135 hm136
                                    have nc7 : nC h h127 := by assumption
                                    have ah7 : ah h h127 20 := by assumption
                                    refine V_iload d_Mod_read_220 rfl ?_
                                    refine V_bipush 20 d_Mod_read_222 (by decide) ?_
                                    refine V_icmp_ge 250 v126E tc_20 d_Mod_read_224 (by decide) (fun c137 => ?_) (fun c137 => ?_)
                                    ·
                                      refine V_bipush (-20) d_Mod_read_250 (by decide) ?_
                                      refine V_iload d_Mod_read_252 rfl ?_
                                      refine V_isub tc_m20 v29E (by (first | decide +kernel | omega)) d_Mod_read_254 (fun z138 z138e z138E => ?_)
                                      exact V_iret rfl d_Mod_read_255 ⟨z138, rfl, ⟨Ih127, Fh127, (Or.inr ⟨by (first | decide +kernel | omega), RDm_bad (m := (whl tvZ svZ lZ fZ nZ).toNat) (n := (v28Z).toNat) (by rw [← tvK, tvE, ← svK, svE]; omega) (by (first | decide +kernel | omega)) (by rw [z138E]; omega) rn9 hb2 nc7 (by assumption) (by (first | decide +kernel | omega))⟩)⟩⟩
                                    ·
                                      refine V_aload_n 0 d_Mod_read_227 rfl rfl ?_
                                      refine V_getR fa_Mod_7 sk_116 rfl d_Mod_read_228 ?_
                                      refine V_bipush 64 d_Mod_read_231 (by decide) ?_
                                      refine V_iload d_Mod_read_233 rfl ?_
                                      refine V_iadd tc_64 v126E (by (first | decide +kernel | omega)) d_Mod_read_235 (fun z139 z139e z139E => ?_)
                                      refine V_aload_n 0 d_Mod_read_236 rfl rfl ?_
                                      refine V_getR fa_Mod_53 sk_116 rfl d_Mod_read_237 ?_
                                      refine V_iload d_Mod_read_240 rfl ?_
                                      refine N_iald sk_131 v126E (by (first | decide +kernel | omega)) d_Mod_read_242 (fun z140 z140Z z140E z140e => ?_)
                                      refine N_iast sk_117 z139E (by (first | decide +kernel | omega)) d_Mod_read_243 (fun h141 eh141 => ?_)
                                      have hI142 : Inv h141 := inv_full Ih127 eh141 (st_lo (by (first | decide +kernel | omega)))
                                      have f143 : fr S_Mod_readZ h h141 := fr_put Fh127 eh141 rfl
                                      have Q144 : nC h h141 := nC_put nc7 eh141 (by (first | decide +kernel | omega))
                                      have Q145 : ah h h141 20 := ah_put ah7 eh141 (by decide)
                                      obtain ⟨z146, z146E, z146e⟩ : ∃ y : Int32, y.toInt = v126Z + 1 ∧ y = v126 + Int32.ofInt 1 := ⟨_, ti_add v126E (by decide) (by (first | decide +kernel | omega)), rfl⟩
                                      refine V_iinc 9 [some (.ref 116), some (.int k), some (.int l), some (.int f), some (.int n), some (.int v54), some (.int v28), some (.int v29), some (.int z109), some (.int z146), none] d_Mod_read_244 rfl z146e.symm (by decide) rfl rfl ?_
                                      refine V_goto 220 d_Mod_read_247 (by decide) ?_
                                      exact ihL124 z146 ((v126Z + 1)) h141 z146E hI142 f143 (kn_ne eh141 K128 (by decide)) (kn_ne eh141 K129 (by decide)) (kn_ne eh141 K130 (by decide)) (kn_ne eh141 K131 (by decide)) (by (first | decide +kernel | omega)) (rst_s (by assumption) ah7 (by (first | decide +kernel | omega)) eh141 (by assumption)) Q144 Q145 (by (first | decide +kernel | omega))
                                exact L124 (Int.toNat ((20 - 0 : Int) + 1)) 0 0 h116 tc_0 hI118 f119 (kn_call fh116 K31 rfl) (kn_call fh116 K32 rfl) (kn_call fh116 K33 rfl) (kn_call fh116 K34 rfl) (by (first | decide +kernel | omega)) rst_0 hB.2 A120 (by (first | decide +kernel | omega))
                          ·
                            refine V_iload_n 3 d_Mod_read_91 rfl rfl ?_
                            refine V_i2l d_Mod_read_92 (fun z147 z147e z147E => ?_)
                            have z147F : z147.toInt = fZ := z147E.trans fE
                            refine V_iconst 3 d_Mod_read_93 (by decide) ?_
                            refine V_iload d_Mod_read_94 rfl ?_
                            refine V_imul tc_3 v29E (by (first | decide +kernel | omega)) d_Mod_read_96 (fun z148 z148e z148E => ?_)
                            refine V_i2l d_Mod_read_97 (fun z149 z149e z149E => ?_)
                            have z149F : z149.toInt = (3 * v29Z) := z149E.trans z148E
                            refine N_ladd d_Mod_read_98 (fun z150 z150Z z150E z150e => ?_)
                            have g151 : z150Z = fZ + (3 * v29Z) := by rw [← z150E, z150e]; exact t64_add z147F z149F (by (first | decide +kernel | omega))
                            refine V_iload d_Mod_read_99 rfl ?_
                            refine V_i2l d_Mod_read_101 (fun z152 z152e z152E => ?_)
                            have z152F : z152.toInt = v55Z := z152E.trans v55E
                            refine N_ladd d_Mod_read_102 (fun z153 z153Z z153E z153e => ?_)
                            have g154 : z153Z = z150Z + v55Z := by rw [← z153E, z153e]; exact t64_add z150E z152F (by (first | decide +kernel | omega))
                            refine V_lstore 9 [some (.ref 116), some (.int k), some (.int l), some (.int f), some (.int n), some (.int v54), some (.int v28), some (.int v29), some (.int v55), some (.long z153), none] d_Mod_read_103 (by decide) rfl rfl ?_
                            refine V_aload_n 0 d_Mod_read_105 rfl rfl ?_
                            refine V_getR fa_Mod_44 sk_116 rfl d_Mod_read_106 ?_
                            refine V_iload_n 1 d_Mod_read_109 rfl rfl ?_
                            refine N_iald sk_128 kE (by (first | decide +kernel | omega)) d_Mod_read_110 (fun z155 z155Z z155E z155e => ?_)
                            have g156 : z155Z = tvZ := by rw [← z155E, z155e, (Fh30).1 128 _ rfl, ← tvK, tvE]
                            refine V_bipush (-4) d_Mod_read_111 (by decide) ?_
                            refine V_icmp_ne 120 z155E tc_m4 d_Mod_read_113 (by decide) (fun c157 => ?_) (fun c157 => ?_)
                            ·
                              refine V_aload_n 0 d_Mod_read_120 rfl rfl ?_
                              refine V_getR fa_Mod_44 sk_116 rfl d_Mod_read_121 ?_
                              refine V_iload_n 1 d_Mod_read_124 rfl rfl ?_
                              refine N_iald sk_128 kE (by (first | decide +kernel | omega)) d_Mod_read_125 (fun z158 z158Z z158E z158e => ?_)
                              have g159 : z158Z = tvZ := by rw [← z158E, z158e, (Fh30).1 128 _ rfl, ← tvK, tvE]
                              refine V_iload_n 2 d_Mod_read_126 rfl rfl ?_
                              refine V_icmp_eq 134 z158E lE d_Mod_read_127 (by decide) (fun c160 => ?_) (fun c160 => ?_)
                              ·
                                refine V_lload d_Mod_read_134 rfl ?_
                                refine V_lconst 0 d_Mod_read_136 (by decide) ?_
                                refine N_lcmp d_Mod_read_137 (fun z161 z161Z z161E z161e => ?_)
                                have g162 := lcmp_ti z153E tl_0 z161e z161E
                                refine V_if_lt 154 z161E d_Mod_read_138 (by decide) (fun c163 => ?_) (fun c163 => ?_)
                                ·
                                  refine V_iconst 2 d_Mod_read_154 (by decide) ?_
                                  refine V_goto 159 d_Mod_read_155 (by decide) ?_
                                  refine V_istore 5 [some (.ref 116), some (.int k), some (.int l), some (.int f), some (.int n), some (.int 2), some (.int v28), some (.int v29), some (.int v55), some (.long z153), none] d_Mod_read_159 (by decide) rfl rfl ?_
                                  obtain ⟨z164, z164E, z164e⟩ : ∃ y : Int32, y.toInt = v55Z + 1 ∧ y = v55 + Int32.ofInt 1 := ⟨_, ti_add v55E (by decide) (by (first | decide +kernel | omega)), rfl⟩
                                  refine V_iinc 8 [some (.ref 116), some (.int k), some (.int l), some (.int f), some (.int n), some (.int 2), some (.int v28), some (.int v29), some (.int z164), some (.long z153), none] d_Mod_read_161 rfl z164e.symm (by decide) rfl rfl ?_
                                  refine V_goto 80 d_Mod_read_164 (by decide) ?_
                                  refine V_drop 9 [some (.ref 116), some (.int k), some (.int l), some (.int f), some (.int n), some (.int 2), some (.int v28), some (.int v29), some (.int z164), none, none] rfl ?_
                                  exact ihL52 2 2 z164 ((v55Z + 1)) tc_2 z164E (by (first | decide +kernel | omega)) (by (first | decide +kernel | omega)) (by (first | decide +kernel | omega))
                                ·
                                  refine V_lload d_Mod_read_141 rfl ?_
                                  refine V_aload_n 0 d_Mod_read_143 rfl rfl ?_
                                  refine V_getR fa_Mod_47 sk_116 rfl d_Mod_read_144 ?_
                                  refine V_iload_n 1 d_Mod_read_147 rfl rfl ?_
                                  refine N_iald sk_129 kE (by (first | decide +kernel | omega)) d_Mod_read_148 (fun z165 z165Z z165E z165e => ?_)
                                  have g166 : 0 ≤ z165Z ∧ z165Z ≤ 40 := inv_at Ih30 z165E z165e rfl
                                  have g167 : z165Z = svZ := by rw [← z165E, z165e, (Fh30).1 129 _ rfl, ← svK, svE]
                                  refine V_i2l d_Mod_read_149 (fun z168 z168e z168E => ?_)
                                  have z168F : z168.toInt = z165Z := z168E.trans z165E
                                  refine N_lcmp d_Mod_read_150 (fun z169 z169Z z169E z169e => ?_)
                                  have g170 := lcmp_ti z153E z168F z169e z169E
                                  refine V_if_lt 158 z169E d_Mod_read_151 (by decide) (fun c171 => ?_) (fun c171 => ?_)
                                  ·
                                    refine V_iconst 0 d_Mod_read_158 (by decide) ?_
                                    refine V_istore 5 [some (.ref 116), some (.int k), some (.int l), some (.int f), some (.int n), some (.int 0), some (.int v28), some (.int v29), some (.int v55), some (.long z153), none] d_Mod_read_159 (by decide) rfl rfl ?_
                                    obtain ⟨z172, z172E, z172e⟩ : ∃ y : Int32, y.toInt = v55Z + 1 ∧ y = v55 + Int32.ofInt 1 := ⟨_, ti_add v55E (by decide) (by (first | decide +kernel | omega)), rfl⟩
                                    refine V_iinc 8 [some (.ref 116), some (.int k), some (.int l), some (.int f), some (.int n), some (.int 0), some (.int v28), some (.int v29), some (.int z172), some (.long z153), none] d_Mod_read_161 rfl z172e.symm (by decide) rfl rfl ?_
                                    refine V_goto 80 d_Mod_read_164 (by decide) ?_
                                    refine V_drop 9 [some (.ref 116), some (.int k), some (.int l), some (.int f), some (.int n), some (.int 0), some (.int v28), some (.int v29), some (.int z172), none, none] rfl ?_
                                    exact ihL52 0 0 z172 ((v55Z + 1)) tc_0 z172E (by (first | decide +kernel | omega)) (by (first | decide +kernel | omega)) (by (first | decide +kernel | omega))
                                  ·
                                    refine V_iconst 2 d_Mod_read_154 (by decide) ?_
                                    refine V_goto 159 d_Mod_read_155 (by decide) ?_
                                    refine V_istore 5 [some (.ref 116), some (.int k), some (.int l), some (.int f), some (.int n), some (.int 2), some (.int v28), some (.int v29), some (.int v55), some (.long z153), none] d_Mod_read_159 (by decide) rfl rfl ?_
                                    obtain ⟨z173, z173E, z173e⟩ : ∃ y : Int32, y.toInt = v55Z + 1 ∧ y = v55 + Int32.ofInt 1 := ⟨_, ti_add v55E (by decide) (by (first | decide +kernel | omega)), rfl⟩
                                    refine V_iinc 8 [some (.ref 116), some (.int k), some (.int l), some (.int f), some (.int n), some (.int 2), some (.int v28), some (.int v29), some (.int z173), some (.long z153), none] d_Mod_read_161 rfl z173e.symm (by decide) rfl rfl ?_
                                    refine V_goto 80 d_Mod_read_164 (by decide) ?_
                                    refine V_drop 9 [some (.ref 116), some (.int k), some (.int l), some (.int f), some (.int n), some (.int 2), some (.int v28), some (.int v29), some (.int z173), none, none] rfl ?_
                                    exact ihL52 2 2 z173 ((v55Z + 1)) tc_2 z173E (by (first | decide +kernel | omega)) (by (first | decide +kernel | omega)) (by (first | decide +kernel | omega))
                              ·
                                refine V_iconst 3 d_Mod_read_130 (by decide) ?_
                                refine V_goto 159 d_Mod_read_131 (by decide) ?_
                                refine V_istore 5 [some (.ref 116), some (.int k), some (.int l), some (.int f), some (.int n), some (.int 3), some (.int v28), some (.int v29), some (.int v55), some (.long z153), none] d_Mod_read_159 (by decide) rfl rfl ?_
                                obtain ⟨z174, z174E, z174e⟩ : ∃ y : Int32, y.toInt = v55Z + 1 ∧ y = v55 + Int32.ofInt 1 := ⟨_, ti_add v55E (by decide) (by (first | decide +kernel | omega)), rfl⟩
                                refine V_iinc 8 [some (.ref 116), some (.int k), some (.int l), some (.int f), some (.int n), some (.int 3), some (.int v28), some (.int v29), some (.int z174), some (.long z153), none] d_Mod_read_161 rfl z174e.symm (by decide) rfl rfl ?_
                                refine V_goto 80 d_Mod_read_164 (by decide) ?_
                                refine V_drop 9 [some (.ref 116), some (.int k), some (.int l), some (.int f), some (.int n), some (.int 3), some (.int v28), some (.int v29), some (.int z174), none, none] rfl ?_
                                exact ihL52 3 3 z174 ((v55Z + 1)) tc_3 z174E (by (first | decide +kernel | omega)) (by (first | decide +kernel | omega)) (by (first | decide +kernel | omega))
                            ·
                              refine V_iconst 1 d_Mod_read_116 (by decide) ?_
                              refine V_goto 159 d_Mod_read_117 (by decide) ?_
                              refine V_istore 5 [some (.ref 116), some (.int k), some (.int l), some (.int f), some (.int n), some (.int 1), some (.int v28), some (.int v29), some (.int v55), some (.long z153), none] d_Mod_read_159 (by decide) rfl rfl ?_
                              obtain ⟨z175, z175E, z175e⟩ : ∃ y : Int32, y.toInt = v55Z + 1 ∧ y = v55 + Int32.ofInt 1 := ⟨_, ti_add v55E (by decide) (by (first | decide +kernel | omega)), rfl⟩
                              refine V_iinc 8 [some (.ref 116), some (.int k), some (.int l), some (.int f), some (.int n), some (.int 1), some (.int v28), some (.int v29), some (.int z175), some (.long z153), none] d_Mod_read_161 rfl z175e.symm (by decide) rfl rfl ?_
                              refine V_goto 80 d_Mod_read_164 (by decide) ?_
                              refine V_drop 9 [some (.ref 116), some (.int k), some (.int l), some (.int f), some (.int n), some (.int 1), some (.int v28), some (.int v29), some (.int z175), none, none] rfl ?_
                              exact ihL52 1 1 z175 ((v55Z + 1)) tc_1 z175E (by (first | decide +kernel | omega)) (by (first | decide +kernel | omega)) (by (first | decide +kernel | omega))
                    exact L52 (Int.toNat ((3 - 0 : Int) + 1)) v27 v27Z 0 0 v27E tc_0 (by (first | decide +kernel | omega)) (by (first | decide +kernel | omega)) (by (first | decide +kernel | omega))
            exact L25 (Int.toNat ((nZ - 0 : Int) + 1)) 0 0 0 0 0 0 h15 tc_0 tc_0 tc_0 Ih15 Fh15 K16 K17 K18 K19 (by (first | decide +kernel | omega)) (by (first | decide +kernel | omega)) (by (first | decide +kernel | omega)) (nC_of q79) (by rw [show (20 : Int) = v14Z by (first | decide +kernel | omega)]; exact ah9) (MRN_0 q79) (by (first | decide +kernel | omega))
          ·
            refine V_aload_n 0 d_Mod_read_33 rfl rfl ?_
            refine V_getR fa_Mod_53 sk_116 rfl d_Mod_read_34 ?_
            refine V_iload d_Mod_read_37 rfl ?_
            refine V_aload_n 0 d_Mod_read_39 rfl rfl ?_
            refine V_getR fa_Mod_7 sk_116 rfl d_Mod_read_40 ?_
            refine V_bipush 64 d_Mod_read_43 (by decide) ?_
            refine V_iload d_Mod_read_45 rfl ?_
            refine V_iadd tc_64 v14E (by (first | decide +kernel | omega)) d_Mod_read_47 (fun z176 z176e z176E => ?_)
            refine N_iald sk_117 z176E (by (first | decide +kernel | omega)) d_Mod_read_48 (fun z177 z177Z z177E z177e => ?_)
            refine N_iast sk_131 v14E (by (first | decide +kernel | omega)) d_Mod_read_49 (fun h178 eh178 => ?_)
            have hI179 : Inv h178 := inv_full Ih15 eh178 rfl
            have f180 : fr S_Mod_readZ h h178 := fr_put Fh15 eh178 rfl
            have Q181 : s7 h h178 := s7_put q79 eh178 (by decide)
            obtain ⟨z182, z182E, z182e⟩ : ∃ y : Int32, y.toInt = v14Z + 1 ∧ y = v14 + Int32.ofInt 1 := ⟨_, ti_add v14E (by decide) (by (first | decide +kernel | omega)), rfl⟩
            refine V_iinc 5 [some (.ref 116), some (.int k), some (.int l), some (.int f), some (.int n), some (.int z182), none, none, none, none, none] d_Mod_read_50 rfl z182e.symm (by decide) rfl rfl ?_
            refine V_goto 26 d_Mod_read_53 (by decide) ?_
            exact ihL12 z182 ((v14Z + 1)) h178 z182E hI179 f180 (kn_ne eh178 K16 (by decide)) (kn_ne eh178 K17 (by decide)) (kn_ne eh178 K18 (by decide)) (kn_ne eh178 K19 (by decide)) (by (first | decide +kernel | omega)) (ah_s ah9 q79 (by (first | decide +kernel | omega)) eh178 (by assumption)) Q181 (by (first | decide +kernel | omega))
      exact L12 (Int.toNat ((20 - 0 : Int) + 1)) 0 0 h tc_0 hI f0 wK gK xK yK (by (first | decide +kernel | omega)) ah_0 s7_rf (by (first | decide +kernel | omega))
    ·
      replace p10 := p10.resolve_left (fun q => by (first | decide +kernel | omega))
      refine V_iconst (-1) d_Mod_read_21 (by decide) ?_
      exact V_iret rfl d_Mod_read_22 ⟨(-1), rfl, ⟨hI, f0, (Or.inl ⟨by (first | decide +kernel | omega), rfl, tc_m1⟩)⟩⟩
