section
abbrev q_Mod_doesBedFitX (h : Hp) (t : Bd) (a : Int32) (aZ : Int) (d : Int32) (dZ : Int) (w : Int32) (wZ : Int) (g : Int32) (gZ : Int) : Option Value → Hp → Prop := pInt (fun r h' => h = h' ∧ (twR r (fM (fun i => h.1 117 i) (fun i => h.1 117 (64 + i)) (wZ * gZ) dZ t)))
set_option maxRecDepth 100000 in
theorem c_Mod_doesBedFitX (h : Hp) (t : Bd) (hI : Inv h) (a : Int32) (aZ : Int) (aE : a.toInt = aZ) (d : Int32) (dZ : Int) (dE : d.toInt = dZ) (w : Int32) (wZ : Int) (wE : w.toInt = wZ) (wK : h.1 116 2 = w) (g : Int32) (gZ : Int) (gE : g.toInt = gZ) (gK : h.1 116 3 = g) (hy0 : BP a (inB t)) : Ct y_Mod_doesBedFit b_Mod_doesBedFit 6 (some .boolean) 2 42 [.ref 116, .int a, .int d] h (q_Mod_doesBedFitX h t a aZ d dZ w wZ g gZ) := by
  refine ct_ow R_Mod [some (.ref 116), some (.int a), some (.int d), none, none, none] rfl (by decide) rfl (Nat.le_of_ble_eq_true rfl) ?_
  have f0 : fr [] h h := fr_rf
  have g1 : 2 ≤ wZ ∧ wZ ≤ 4 := inv_at hI wE wK.symm rfl
  have g2 : 2 ≤ gZ ∧ gZ ≤ 4 := inv_at hI gE gK.symm rfl
  have m24 := mul24 (A := wZ) (B := gZ) (by (first | decide +kernel | omega)) (by (first | decide +kernel | omega))
  refine V_iconst 1 d_Mod_doesBedFit_0 (by decide) ?_
  refine V_istore_n 3 [some (.ref 116), some (.int a), some (.int d), some (.int 1), none, none] d_Mod_doesBedFit_1 rfl (by decide) rfl rfl ?_
  refine V_iconst 0 d_Mod_doesBedFit_2 (by decide) ?_
  refine V_istore 4 [some (.ref 116), some (.int a), some (.int d), some (.int 1), some (.int 0), none] d_Mod_doesBedFit_3 (by decide) rfl rfl ?_
  have L3 : ∀ (nn : Nat) (v5 : Int32) (v5Z : Int) (v6 : Int32) (v6Z : Int), v5.toInt = v5Z → v6.toInt = v6Z → 0 ≤ v6Z ∧ v6Z ≤ wZ * gZ → twR v5 (fM (fun i => h.1 117 i) (fun i => h.1 117 (64 + i)) v6Z dZ t) → 0 ≤ v5Z ∧ v5Z ≤ 1 → 16 - v6Z < (nn : Int) → V R_Mod b_Mod_doesBedFit 6 (some .boolean) 2 42 (q_Mod_doesBedFitX h t a aZ d dZ w wZ g gZ) h 5 [some (.ref 116), some (.int a), some (.int d), some (.int v5), some (.int v6), none] [] := by
    intro nn
    induction nn with
    | zero => intro v5 v5Z v6 v6Z v5E v6E q7 q8 q9 hm10; exact absurd hm10 (by (first | decide +kernel | omega))
    | succ nn ihL3 =>
      intro v5 v5Z v6 v6Z v5E v6E q7 q8 q9 hm10
      refine V_iload d_Mod_doesBedFit_5 rfl ?_
      refine V_aload_n 0 d_Mod_doesBedFit_7 rfl rfl ?_
      refine N_callVI [] [.int v6] cv_Mod_183 sk_116 rfl d_Mod_doesBedFit_8 rfl (Nat.le_of_ble_eq_true rfl) (by decide) (by decide) (c_Mod_cellMany h hI w wZ wE wK g gZ gE gK) (fun z11 h12 z11Z z11E p13 => ?_)
      obtain ⟨eh12, p13⟩ := p13
      subst eh12
      refine V_icmp_ge 85 v6E z11E d_Mod_doesBedFit_11 (by decide) (fun c14 => ?_) (fun c14 => ?_)
      ·
        refine V_iload_n 3 d_Mod_doesBedFit_85 rfl rfl ?_
        exact V_zret rfl (by rw [v5E]; omega) d_Mod_doesBedFit_86 ⟨v5, rfl, ⟨rfl, (by rw [show wZ * gZ = v6Z by (first | decide +kernel | omega)]; assumption)⟩⟩
      ·
        refine V_iload_n 1 d_Mod_doesBedFit_14 rfl rfl ?_
        refine V_iload d_Mod_doesBedFit_15 rfl ?_
        refine N_ishr d_Mod_doesBedFit_17 (fun z15 z15Z z15E z15e => ?_)
        refine V_iconst 1 d_Mod_doesBedFit_18 (by decide) ?_
        refine N_iand d_Mod_doesBedFit_19 (fun z16 z16Z z16E z16e => ?_)
        have hbit := BP_sh hy0 v6E (by (first | decide +kernel | omega)) z15e z16e z16E
        refine V_iconst 1 d_Mod_doesBedFit_20 (by decide) ?_
        refine V_icmp_ne 42 z16E tc_1 d_Mod_doesBedFit_21 (by decide) (fun c17 => ?_) (fun c17 => ?_)
        ·
          refine V_iconst 0 d_Mod_doesBedFit_42 (by decide) ?_
          have hv5 : ¬ (inB t (v6Z).toNat ∧ dZ ≤ (h.1 117 (64 + (v6Z).toNat)).toInt) := fun q => (hbit.resolve_left (fun q => absurd q.1 (by (first | decide +kernel | omega)))).2 q.1
          refine V_istore 5 [some (.ref 116), some (.int a), some (.int d), some (.int v5), some (.int v6), some (.int 0)] d_Mod_doesBedFit_43 (by decide) rfl rfl ?_
          refine V_iload_n 3 d_Mod_doesBedFit_45 rfl rfl ?_
          refine V_if_eq 77 v5E d_Mod_doesBedFit_46 (by decide) (fun c18 => ?_) (fun c18 => ?_)
          ·
            refine V_iconst 0 d_Mod_doesBedFit_77 (by decide) ?_
            have hq9 := fM_s (w := (fun i => h.1 117 i)) (b := (fun i => h.1 117 (64 + i))) (m := v6Z) (d := dZ) (F := v5Z) (G := 0) (t := t) (f := v5) (g := 0) (by (first | decide +kernel | omega)) (by assumption) v5E rfl (Or.inr ⟨Or.inl (by (first | decide +kernel | omega)), rfl⟩)
            refine V_istore_n 3 [some (.ref 116), some (.int a), some (.int d), some (.int 0), some (.int v6), some (.int 0)] d_Mod_doesBedFit_78 rfl (by decide) rfl rfl ?_
            obtain ⟨z19, z19E, z19e⟩ : ∃ y : Int32, y.toInt = v6Z + 1 ∧ y = v6 + Int32.ofInt 1 := ⟨_, ti_add v6E (by decide) (by (first | decide +kernel | omega)), rfl⟩
            refine V_iinc 4 [some (.ref 116), some (.int a), some (.int d), some (.int 0), some (.int z19), some (.int 0)] d_Mod_doesBedFit_79 rfl z19e.symm (by decide) rfl rfl ?_
            refine V_goto 5 d_Mod_doesBedFit_82 (by decide) ?_
            refine V_drop 5 [some (.ref 116), some (.int a), some (.int d), some (.int 0), some (.int z19), none] rfl ?_
            exact ihL3 0 0 z19 ((v6Z + 1)) tc_0 z19E (by (first | decide +kernel | omega)) hq9 (by (first | decide +kernel | omega)) (by (first | decide +kernel | omega))
          ·
            refine V_aload_n 0 d_Mod_doesBedFit_49 rfl rfl ?_
            refine V_getR fa_Mod_7 sk_116 rfl d_Mod_doesBedFit_50 ?_
            refine V_bipush 64 d_Mod_doesBedFit_53 (by decide) ?_
            refine V_iload d_Mod_doesBedFit_55 rfl ?_
            refine V_iadd tc_64 v6E (by (first | decide +kernel | omega)) d_Mod_doesBedFit_57 (fun z20 z20e z20E => ?_)
            refine N_iald sk_117 z20E (by (first | decide +kernel | omega)) d_Mod_doesBedFit_58 (fun z21 z21Z z21E z21e => ?_)
            have hb2 : (h.1 117 (64 + (v6Z).toNat)).toInt = z21Z := by rw [show 64 + (v6Z).toNat = (64 + v6Z).toNat by (first | decide +kernel | omega), ← z21e]; exact z21E
            refine V_if_eq 73 z21E d_Mod_doesBedFit_59 (by decide) (fun c22 => ?_) (fun c22 => ?_)
            ·
              refine V_iconst 1 d_Mod_doesBedFit_73 (by decide) ?_
              refine V_goto 78 d_Mod_doesBedFit_74 (by decide) ?_
              have hq9 := fM_s (w := (fun i => h.1 117 i)) (b := (fun i => h.1 117 (64 + i))) (m := v6Z) (d := dZ) (F := v5Z) (G := 1) (t := t) (f := v5) (g := 1) (by (first | decide +kernel | omega)) (by assumption) v5E rfl (Or.inl ⟨by (first | decide +kernel | omega), Or.inl (by show (h.1 117 (64 + (v6Z).toNat)).toInt = 0; omega), rfl⟩)
              refine V_istore_n 3 [some (.ref 116), some (.int a), some (.int d), some (.int 1), some (.int v6), some (.int 0)] d_Mod_doesBedFit_78 rfl (by decide) rfl rfl ?_
              obtain ⟨z23, z23E, z23e⟩ : ∃ y : Int32, y.toInt = v6Z + 1 ∧ y = v6 + Int32.ofInt 1 := ⟨_, ti_add v6E (by decide) (by (first | decide +kernel | omega)), rfl⟩
              refine V_iinc 4 [some (.ref 116), some (.int a), some (.int d), some (.int 1), some (.int z23), some (.int 0)] d_Mod_doesBedFit_79 rfl z23e.symm (by decide) rfl rfl ?_
              refine V_goto 5 d_Mod_doesBedFit_82 (by decide) ?_
              refine V_drop 5 [some (.ref 116), some (.int a), some (.int d), some (.int 1), some (.int z23), none] rfl ?_
              exact ihL3 1 1 z23 ((v6Z + 1)) tc_1 z23E (by (first | decide +kernel | omega)) hq9 (by (first | decide +kernel | omega)) (by (first | decide +kernel | omega))
            ·
              refine V_iload d_Mod_doesBedFit_62 rfl ?_
              refine V_aload_n 0 d_Mod_doesBedFit_64 rfl rfl ?_
              refine V_iload d_Mod_doesBedFit_65 rfl ?_
              refine N_callVI [.int v6] [.int 0] cv_Mod_192 sk_116 rfl d_Mod_doesBedFit_67 rfl (Nat.le_of_ble_eq_true rfl) (by decide) (by decide) (c_Mod_isWellY h hI v6 v6Z v6E (by (first | decide +kernel | omega))) (fun z24 h25 z24Z z24E p26 => ?_)
              obtain ⟨eh25, p26⟩ := p26
              subst eh25
              have hwl : z24Z = 1 ∧ (0 < (h.1 117 (v6Z).toNat).toInt ∧ (h.1 117 (v6Z).toNat).toInt ≤ (h.1 117 (64 + (v6Z).toNat)).toInt) ∨ z24Z = 0 ∧ ¬ (0 < (h.1 117 (v6Z).toNat).toInt ∧ (h.1 117 (v6Z).toNat).toInt ≤ (h.1 117 (64 + (v6Z).toNat)).toInt) := by have q9 := p26; rw [z24E, show 16 * 0 + (v6Z).toNat = (v6Z).toNat by (first | decide +kernel | omega), show 16 * 4 + (v6Z).toNat = 64 + (v6Z).toNat by (first | decide +kernel | omega)] at q9; exact q9
              refine V_icmp_ne 77 tc_0 z24E d_Mod_doesBedFit_70 (by decide) (fun c27 => ?_) (fun c27 => ?_)
              ·
                refine V_iconst 0 d_Mod_doesBedFit_77 (by decide) ?_
                have hq9 := fM_s (w := (fun i => h.1 117 i)) (b := (fun i => h.1 117 (64 + i))) (m := v6Z) (d := dZ) (F := v5Z) (G := 0) (t := t) (f := v5) (g := 0) (by (first | decide +kernel | omega)) (by assumption) v5E rfl (Or.inr ⟨Or.inr (fun q => q.elim (fun q => absurd (show (h.1 117 (64 + (v6Z).toNat)).toInt = 0 from q) (by (first | decide +kernel | omega))) (fun q => hv5 (q.mpr (hwl.resolve_right (fun q => absurd q.1 (by (first | decide +kernel | omega)))).2))), rfl⟩)
                refine V_istore_n 3 [some (.ref 116), some (.int a), some (.int d), some (.int 0), some (.int v6), some (.int 0)] d_Mod_doesBedFit_78 rfl (by decide) rfl rfl ?_
                obtain ⟨z28, z28E, z28e⟩ : ∃ y : Int32, y.toInt = v6Z + 1 ∧ y = v6 + Int32.ofInt 1 := ⟨_, ti_add v6E (by decide) (by (first | decide +kernel | omega)), rfl⟩
                refine V_iinc 4 [some (.ref 116), some (.int a), some (.int d), some (.int 0), some (.int z28), some (.int 0)] d_Mod_doesBedFit_79 rfl z28e.symm (by decide) rfl rfl ?_
                refine V_goto 5 d_Mod_doesBedFit_82 (by decide) ?_
                refine V_drop 5 [some (.ref 116), some (.int a), some (.int d), some (.int 0), some (.int z28), none] rfl ?_
                exact ihL3 0 0 z28 ((v6Z + 1)) tc_0 z28E (by (first | decide +kernel | omega)) hq9 (by (first | decide +kernel | omega)) (by (first | decide +kernel | omega))
              ·
                refine V_iconst 1 d_Mod_doesBedFit_73 (by decide) ?_
                refine V_goto 78 d_Mod_doesBedFit_74 (by decide) ?_
                have hq9 := fM_s (w := (fun i => h.1 117 i)) (b := (fun i => h.1 117 (64 + i))) (m := v6Z) (d := dZ) (F := v5Z) (G := 1) (t := t) (f := v5) (g := 1) (by (first | decide +kernel | omega)) (by assumption) v5E rfl (Or.inl ⟨by (first | decide +kernel | omega), Or.inr ⟨fun q => absurd q hv5, fun q => absurd q (hwl.resolve_left (fun q => absurd q.1 (by (first | decide +kernel | omega)))).2⟩, rfl⟩)
                refine V_istore_n 3 [some (.ref 116), some (.int a), some (.int d), some (.int 1), some (.int v6), some (.int 0)] d_Mod_doesBedFit_78 rfl (by decide) rfl rfl ?_
                obtain ⟨z29, z29E, z29e⟩ : ∃ y : Int32, y.toInt = v6Z + 1 ∧ y = v6 + Int32.ofInt 1 := ⟨_, ti_add v6E (by decide) (by (first | decide +kernel | omega)), rfl⟩
                refine V_iinc 4 [some (.ref 116), some (.int a), some (.int d), some (.int 1), some (.int z29), some (.int 0)] d_Mod_doesBedFit_79 rfl z29e.symm (by decide) rfl rfl ?_
                refine V_goto 5 d_Mod_doesBedFit_82 (by decide) ?_
                refine V_drop 5 [some (.ref 116), some (.int a), some (.int d), some (.int 1), some (.int z29), none] rfl ?_
                exact ihL3 1 1 z29 ((v6Z + 1)) tc_1 z29E (by (first | decide +kernel | omega)) hq9 (by (first | decide +kernel | omega)) (by (first | decide +kernel | omega))
        ·
          refine V_iload_n 2 d_Mod_doesBedFit_24 rfl rfl ?_
          refine V_aload_n 0 d_Mod_doesBedFit_25 rfl rfl ?_
          refine V_getR fa_Mod_7 sk_116 rfl d_Mod_doesBedFit_26 ?_
          refine V_bipush 64 d_Mod_doesBedFit_29 (by decide) ?_
          refine V_iload d_Mod_doesBedFit_31 rfl ?_
          refine V_iadd tc_64 v6E (by (first | decide +kernel | omega)) d_Mod_doesBedFit_33 (fun z30 z30e z30E => ?_)
          refine N_iald sk_117 z30E (by (first | decide +kernel | omega)) d_Mod_doesBedFit_34 (fun z31 z31Z z31E z31e => ?_)
          have hb1 : (h.1 117 (64 + (v6Z).toNat)).toInt = z31Z := by rw [show 64 + (v6Z).toNat = (64 + v6Z).toNat by (first | decide +kernel | omega), ← z31e]; exact z31E
          refine V_icmp_gt 42 dE z31E d_Mod_doesBedFit_35 (by decide) (fun c32 => ?_) (fun c32 => ?_)
          ·
            refine V_iconst 0 d_Mod_doesBedFit_42 (by decide) ?_
            have hv5 : ¬ (inB t (v6Z).toNat ∧ dZ ≤ (h.1 117 (64 + (v6Z).toNat)).toInt) := fun q => by have := q.2; omega
            refine V_istore 5 [some (.ref 116), some (.int a), some (.int d), some (.int v5), some (.int v6), some (.int 0)] d_Mod_doesBedFit_43 (by decide) rfl rfl ?_
            refine V_iload_n 3 d_Mod_doesBedFit_45 rfl rfl ?_
            refine V_if_eq 77 v5E d_Mod_doesBedFit_46 (by decide) (fun c33 => ?_) (fun c33 => ?_)
            ·
              refine V_iconst 0 d_Mod_doesBedFit_77 (by decide) ?_
              have hq9 := fM_s (w := (fun i => h.1 117 i)) (b := (fun i => h.1 117 (64 + i))) (m := v6Z) (d := dZ) (F := v5Z) (G := 0) (t := t) (f := v5) (g := 0) (by (first | decide +kernel | omega)) (by assumption) v5E rfl (Or.inr ⟨Or.inl (by (first | decide +kernel | omega)), rfl⟩)
              refine V_istore_n 3 [some (.ref 116), some (.int a), some (.int d), some (.int 0), some (.int v6), some (.int 0)] d_Mod_doesBedFit_78 rfl (by decide) rfl rfl ?_
              obtain ⟨z34, z34E, z34e⟩ : ∃ y : Int32, y.toInt = v6Z + 1 ∧ y = v6 + Int32.ofInt 1 := ⟨_, ti_add v6E (by decide) (by (first | decide +kernel | omega)), rfl⟩
              refine V_iinc 4 [some (.ref 116), some (.int a), some (.int d), some (.int 0), some (.int z34), some (.int 0)] d_Mod_doesBedFit_79 rfl z34e.symm (by decide) rfl rfl ?_
              refine V_goto 5 d_Mod_doesBedFit_82 (by decide) ?_
              refine V_drop 5 [some (.ref 116), some (.int a), some (.int d), some (.int 0), some (.int z34), none] rfl ?_
              exact ihL3 0 0 z34 ((v6Z + 1)) tc_0 z34E (by (first | decide +kernel | omega)) hq9 (by (first | decide +kernel | omega)) (by (first | decide +kernel | omega))
            ·
              refine V_aload_n 0 d_Mod_doesBedFit_49 rfl rfl ?_
              refine V_getR fa_Mod_7 sk_116 rfl d_Mod_doesBedFit_50 ?_
              refine V_bipush 64 d_Mod_doesBedFit_53 (by decide) ?_
              refine V_iload d_Mod_doesBedFit_55 rfl ?_
              refine V_iadd tc_64 v6E (by (first | decide +kernel | omega)) d_Mod_doesBedFit_57 (fun z35 z35e z35E => ?_)
              refine N_iald sk_117 z35E (by (first | decide +kernel | omega)) d_Mod_doesBedFit_58 (fun z36 z36Z z36E z36e => ?_)
              have hb2 : (h.1 117 (64 + (v6Z).toNat)).toInt = z36Z := by rw [show 64 + (v6Z).toNat = (64 + v6Z).toNat by (first | decide +kernel | omega), ← z36e]; exact z36E
              refine V_if_eq 73 z36E d_Mod_doesBedFit_59 (by decide) (fun c37 => ?_) (fun c37 => ?_)
              ·
                refine V_iconst 1 d_Mod_doesBedFit_73 (by decide) ?_
                refine V_goto 78 d_Mod_doesBedFit_74 (by decide) ?_
                have hq9 := fM_s (w := (fun i => h.1 117 i)) (b := (fun i => h.1 117 (64 + i))) (m := v6Z) (d := dZ) (F := v5Z) (G := 1) (t := t) (f := v5) (g := 1) (by (first | decide +kernel | omega)) (by assumption) v5E rfl (Or.inl ⟨by (first | decide +kernel | omega), Or.inl (by show (h.1 117 (64 + (v6Z).toNat)).toInt = 0; omega), rfl⟩)
                refine V_istore_n 3 [some (.ref 116), some (.int a), some (.int d), some (.int 1), some (.int v6), some (.int 0)] d_Mod_doesBedFit_78 rfl (by decide) rfl rfl ?_
                obtain ⟨z38, z38E, z38e⟩ : ∃ y : Int32, y.toInt = v6Z + 1 ∧ y = v6 + Int32.ofInt 1 := ⟨_, ti_add v6E (by decide) (by (first | decide +kernel | omega)), rfl⟩
                refine V_iinc 4 [some (.ref 116), some (.int a), some (.int d), some (.int 1), some (.int z38), some (.int 0)] d_Mod_doesBedFit_79 rfl z38e.symm (by decide) rfl rfl ?_
                refine V_goto 5 d_Mod_doesBedFit_82 (by decide) ?_
                refine V_drop 5 [some (.ref 116), some (.int a), some (.int d), some (.int 1), some (.int z38), none] rfl ?_
                exact ihL3 1 1 z38 ((v6Z + 1)) tc_1 z38E (by (first | decide +kernel | omega)) hq9 (by (first | decide +kernel | omega)) (by (first | decide +kernel | omega))
              ·
                refine V_iload d_Mod_doesBedFit_62 rfl ?_
                refine V_aload_n 0 d_Mod_doesBedFit_64 rfl rfl ?_
                refine V_iload d_Mod_doesBedFit_65 rfl ?_
                refine N_callVI [.int v6] [.int 0] cv_Mod_192 sk_116 rfl d_Mod_doesBedFit_67 rfl (Nat.le_of_ble_eq_true rfl) (by decide) (by decide) (c_Mod_isWellY h hI v6 v6Z v6E (by (first | decide +kernel | omega))) (fun z39 h40 z39Z z39E p41 => ?_)
                obtain ⟨eh40, p41⟩ := p41
                subst eh40
                have hwl : z39Z = 1 ∧ (0 < (h.1 117 (v6Z).toNat).toInt ∧ (h.1 117 (v6Z).toNat).toInt ≤ (h.1 117 (64 + (v6Z).toNat)).toInt) ∨ z39Z = 0 ∧ ¬ (0 < (h.1 117 (v6Z).toNat).toInt ∧ (h.1 117 (v6Z).toNat).toInt ≤ (h.1 117 (64 + (v6Z).toNat)).toInt) := by have q9 := p41; rw [z39E, show 16 * 0 + (v6Z).toNat = (v6Z).toNat by (first | decide +kernel | omega), show 16 * 4 + (v6Z).toNat = 64 + (v6Z).toNat by (first | decide +kernel | omega)] at q9; exact q9
                refine V_icmp_ne 77 tc_0 z39E d_Mod_doesBedFit_70 (by decide) (fun c42 => ?_) (fun c42 => ?_)
                ·
                  refine V_iconst 0 d_Mod_doesBedFit_77 (by decide) ?_
                  have hq9 := fM_s (w := (fun i => h.1 117 i)) (b := (fun i => h.1 117 (64 + i))) (m := v6Z) (d := dZ) (F := v5Z) (G := 0) (t := t) (f := v5) (g := 0) (by (first | decide +kernel | omega)) (by assumption) v5E rfl (Or.inr ⟨Or.inr (fun q => q.elim (fun q => absurd (show (h.1 117 (64 + (v6Z).toNat)).toInt = 0 from q) (by (first | decide +kernel | omega))) (fun q => hv5 (q.mpr (hwl.resolve_right (fun q => absurd q.1 (by (first | decide +kernel | omega)))).2))), rfl⟩)
                  refine V_istore_n 3 [some (.ref 116), some (.int a), some (.int d), some (.int 0), some (.int v6), some (.int 0)] d_Mod_doesBedFit_78 rfl (by decide) rfl rfl ?_
                  obtain ⟨z43, z43E, z43e⟩ : ∃ y : Int32, y.toInt = v6Z + 1 ∧ y = v6 + Int32.ofInt 1 := ⟨_, ti_add v6E (by decide) (by (first | decide +kernel | omega)), rfl⟩
                  refine V_iinc 4 [some (.ref 116), some (.int a), some (.int d), some (.int 0), some (.int z43), some (.int 0)] d_Mod_doesBedFit_79 rfl z43e.symm (by decide) rfl rfl ?_
                  refine V_goto 5 d_Mod_doesBedFit_82 (by decide) ?_
                  refine V_drop 5 [some (.ref 116), some (.int a), some (.int d), some (.int 0), some (.int z43), none] rfl ?_
                  exact ihL3 0 0 z43 ((v6Z + 1)) tc_0 z43E (by (first | decide +kernel | omega)) hq9 (by (first | decide +kernel | omega)) (by (first | decide +kernel | omega))
                ·
                  refine V_iconst 1 d_Mod_doesBedFit_73 (by decide) ?_
                  refine V_goto 78 d_Mod_doesBedFit_74 (by decide) ?_
                  have hq9 := fM_s (w := (fun i => h.1 117 i)) (b := (fun i => h.1 117 (64 + i))) (m := v6Z) (d := dZ) (F := v5Z) (G := 1) (t := t) (f := v5) (g := 1) (by (first | decide +kernel | omega)) (by assumption) v5E rfl (Or.inl ⟨by (first | decide +kernel | omega), Or.inr ⟨fun q => absurd q hv5, fun q => absurd q (hwl.resolve_left (fun q => absurd q.1 (by (first | decide +kernel | omega)))).2⟩, rfl⟩)
                  refine V_istore_n 3 [some (.ref 116), some (.int a), some (.int d), some (.int 1), some (.int v6), some (.int 0)] d_Mod_doesBedFit_78 rfl (by decide) rfl rfl ?_
                  obtain ⟨z44, z44E, z44e⟩ : ∃ y : Int32, y.toInt = v6Z + 1 ∧ y = v6 + Int32.ofInt 1 := ⟨_, ti_add v6E (by decide) (by (first | decide +kernel | omega)), rfl⟩
                  refine V_iinc 4 [some (.ref 116), some (.int a), some (.int d), some (.int 1), some (.int z44), some (.int 0)] d_Mod_doesBedFit_79 rfl z44e.symm (by decide) rfl rfl ?_
                  refine V_goto 5 d_Mod_doesBedFit_82 (by decide) ?_
                  refine V_drop 5 [some (.ref 116), some (.int a), some (.int d), some (.int 1), some (.int z44), none] rfl ?_
                  exact ihL3 1 1 z44 ((v6Z + 1)) tc_1 z44E (by (first | decide +kernel | omega)) hq9 (by (first | decide +kernel | omega)) (by (first | decide +kernel | omega))
          ·
            refine V_iconst 1 d_Mod_doesBedFit_38 (by decide) ?_
            refine V_goto 43 d_Mod_doesBedFit_39 (by decide) ?_
            have hv5 : (inB t (v6Z).toNat ∧ dZ ≤ (h.1 117 (64 + (v6Z).toNat)).toInt) := ⟨(hbit.resolve_right (fun q => absurd q.1 (by (first | decide +kernel | omega)))).2, by (first | decide +kernel | omega)⟩
            refine V_istore 5 [some (.ref 116), some (.int a), some (.int d), some (.int v5), some (.int v6), some (.int 1)] d_Mod_doesBedFit_43 (by decide) rfl rfl ?_
            refine V_iload_n 3 d_Mod_doesBedFit_45 rfl rfl ?_
            refine V_if_eq 77 v5E d_Mod_doesBedFit_46 (by decide) (fun c45 => ?_) (fun c45 => ?_)
            ·
              refine V_iconst 0 d_Mod_doesBedFit_77 (by decide) ?_
              have hq9 := fM_s (w := (fun i => h.1 117 i)) (b := (fun i => h.1 117 (64 + i))) (m := v6Z) (d := dZ) (F := v5Z) (G := 0) (t := t) (f := v5) (g := 0) (by (first | decide +kernel | omega)) (by assumption) v5E rfl (Or.inr ⟨Or.inl (by (first | decide +kernel | omega)), rfl⟩)
              refine V_istore_n 3 [some (.ref 116), some (.int a), some (.int d), some (.int 0), some (.int v6), some (.int 1)] d_Mod_doesBedFit_78 rfl (by decide) rfl rfl ?_
              obtain ⟨z46, z46E, z46e⟩ : ∃ y : Int32, y.toInt = v6Z + 1 ∧ y = v6 + Int32.ofInt 1 := ⟨_, ti_add v6E (by decide) (by (first | decide +kernel | omega)), rfl⟩
              refine V_iinc 4 [some (.ref 116), some (.int a), some (.int d), some (.int 0), some (.int z46), some (.int 1)] d_Mod_doesBedFit_79 rfl z46e.symm (by decide) rfl rfl ?_
              refine V_goto 5 d_Mod_doesBedFit_82 (by decide) ?_
              refine V_drop 5 [some (.ref 116), some (.int a), some (.int d), some (.int 0), some (.int z46), none] rfl ?_
              exact ihL3 0 0 z46 ((v6Z + 1)) tc_0 z46E (by (first | decide +kernel | omega)) hq9 (by (first | decide +kernel | omega)) (by (first | decide +kernel | omega))
            ·
              refine V_aload_n 0 d_Mod_doesBedFit_49 rfl rfl ?_
              refine V_getR fa_Mod_7 sk_116 rfl d_Mod_doesBedFit_50 ?_
              refine V_bipush 64 d_Mod_doesBedFit_53 (by decide) ?_
              refine V_iload d_Mod_doesBedFit_55 rfl ?_
              refine V_iadd tc_64 v6E (by (first | decide +kernel | omega)) d_Mod_doesBedFit_57 (fun z47 z47e z47E => ?_)
              refine N_iald sk_117 z47E (by (first | decide +kernel | omega)) d_Mod_doesBedFit_58 (fun z48 z48Z z48E z48e => ?_)
              have hb2 : (h.1 117 (64 + (v6Z).toNat)).toInt = z48Z := by rw [show 64 + (v6Z).toNat = (64 + v6Z).toNat by (first | decide +kernel | omega), ← z48e]; exact z48E
              refine V_if_eq 73 z48E d_Mod_doesBedFit_59 (by decide) (fun c49 => ?_) (fun c49 => ?_)
              ·
                refine V_iconst 1 d_Mod_doesBedFit_73 (by decide) ?_
                refine V_goto 78 d_Mod_doesBedFit_74 (by decide) ?_
                have hq9 := fM_s (w := (fun i => h.1 117 i)) (b := (fun i => h.1 117 (64 + i))) (m := v6Z) (d := dZ) (F := v5Z) (G := 1) (t := t) (f := v5) (g := 1) (by (first | decide +kernel | omega)) (by assumption) v5E rfl (Or.inl ⟨by (first | decide +kernel | omega), Or.inl (by show (h.1 117 (64 + (v6Z).toNat)).toInt = 0; omega), rfl⟩)
                refine V_istore_n 3 [some (.ref 116), some (.int a), some (.int d), some (.int 1), some (.int v6), some (.int 1)] d_Mod_doesBedFit_78 rfl (by decide) rfl rfl ?_
                obtain ⟨z50, z50E, z50e⟩ : ∃ y : Int32, y.toInt = v6Z + 1 ∧ y = v6 + Int32.ofInt 1 := ⟨_, ti_add v6E (by decide) (by (first | decide +kernel | omega)), rfl⟩
                refine V_iinc 4 [some (.ref 116), some (.int a), some (.int d), some (.int 1), some (.int z50), some (.int 1)] d_Mod_doesBedFit_79 rfl z50e.symm (by decide) rfl rfl ?_
                refine V_goto 5 d_Mod_doesBedFit_82 (by decide) ?_
                refine V_drop 5 [some (.ref 116), some (.int a), some (.int d), some (.int 1), some (.int z50), none] rfl ?_
                exact ihL3 1 1 z50 ((v6Z + 1)) tc_1 z50E (by (first | decide +kernel | omega)) hq9 (by (first | decide +kernel | omega)) (by (first | decide +kernel | omega))
              ·
                refine V_iload d_Mod_doesBedFit_62 rfl ?_
                refine V_aload_n 0 d_Mod_doesBedFit_64 rfl rfl ?_
                refine V_iload d_Mod_doesBedFit_65 rfl ?_
                refine N_callVI [.int v6] [.int 1] cv_Mod_192 sk_116 rfl d_Mod_doesBedFit_67 rfl (Nat.le_of_ble_eq_true rfl) (by decide) (by decide) (c_Mod_isWellY h hI v6 v6Z v6E (by (first | decide +kernel | omega))) (fun z51 h52 z51Z z51E p53 => ?_)
                obtain ⟨eh52, p53⟩ := p53
                subst eh52
                have hwl : z51Z = 1 ∧ (0 < (h.1 117 (v6Z).toNat).toInt ∧ (h.1 117 (v6Z).toNat).toInt ≤ (h.1 117 (64 + (v6Z).toNat)).toInt) ∨ z51Z = 0 ∧ ¬ (0 < (h.1 117 (v6Z).toNat).toInt ∧ (h.1 117 (v6Z).toNat).toInt ≤ (h.1 117 (64 + (v6Z).toNat)).toInt) := by have q9 := p53; rw [z51E, show 16 * 0 + (v6Z).toNat = (v6Z).toNat by (first | decide +kernel | omega), show 16 * 4 + (v6Z).toNat = 64 + (v6Z).toNat by (first | decide +kernel | omega)] at q9; exact q9
                refine V_icmp_ne 77 tc_1 z51E d_Mod_doesBedFit_70 (by decide) (fun c54 => ?_) (fun c54 => ?_)
                ·
                  refine V_iconst 0 d_Mod_doesBedFit_77 (by decide) ?_
                  have hq9 := fM_s (w := (fun i => h.1 117 i)) (b := (fun i => h.1 117 (64 + i))) (m := v6Z) (d := dZ) (F := v5Z) (G := 0) (t := t) (f := v5) (g := 0) (by (first | decide +kernel | omega)) (by assumption) v5E rfl (Or.inr ⟨Or.inr (fun q => q.elim (fun q => absurd (show (h.1 117 (64 + (v6Z).toNat)).toInt = 0 from q) (by (first | decide +kernel | omega))) (fun q => (hwl.resolve_left (fun q => absurd q.1 (by (first | decide +kernel | omega)))).2 (q.mp hv5))), rfl⟩)
                  refine V_istore_n 3 [some (.ref 116), some (.int a), some (.int d), some (.int 0), some (.int v6), some (.int 1)] d_Mod_doesBedFit_78 rfl (by decide) rfl rfl ?_
                  obtain ⟨z55, z55E, z55e⟩ : ∃ y : Int32, y.toInt = v6Z + 1 ∧ y = v6 + Int32.ofInt 1 := ⟨_, ti_add v6E (by decide) (by (first | decide +kernel | omega)), rfl⟩
                  refine V_iinc 4 [some (.ref 116), some (.int a), some (.int d), some (.int 0), some (.int z55), some (.int 1)] d_Mod_doesBedFit_79 rfl z55e.symm (by decide) rfl rfl ?_
                  refine V_goto 5 d_Mod_doesBedFit_82 (by decide) ?_
                  refine V_drop 5 [some (.ref 116), some (.int a), some (.int d), some (.int 0), some (.int z55), none] rfl ?_
                  exact ihL3 0 0 z55 ((v6Z + 1)) tc_0 z55E (by (first | decide +kernel | omega)) hq9 (by (first | decide +kernel | omega)) (by (first | decide +kernel | omega))
                ·
                  refine V_iconst 1 d_Mod_doesBedFit_73 (by decide) ?_
                  refine V_goto 78 d_Mod_doesBedFit_74 (by decide) ?_
                  have hq9 := fM_s (w := (fun i => h.1 117 i)) (b := (fun i => h.1 117 (64 + i))) (m := v6Z) (d := dZ) (F := v5Z) (G := 1) (t := t) (f := v5) (g := 1) (by (first | decide +kernel | omega)) (by assumption) v5E rfl (Or.inl ⟨by (first | decide +kernel | omega), Or.inr ⟨fun _ => (hwl.resolve_right (fun q => absurd q.1 (by (first | decide +kernel | omega)))).2, fun _ => hv5⟩, rfl⟩)
                  refine V_istore_n 3 [some (.ref 116), some (.int a), some (.int d), some (.int 1), some (.int v6), some (.int 1)] d_Mod_doesBedFit_78 rfl (by decide) rfl rfl ?_
                  obtain ⟨z56, z56E, z56e⟩ : ∃ y : Int32, y.toInt = v6Z + 1 ∧ y = v6 + Int32.ofInt 1 := ⟨_, ti_add v6E (by decide) (by (first | decide +kernel | omega)), rfl⟩
                  refine V_iinc 4 [some (.ref 116), some (.int a), some (.int d), some (.int 1), some (.int z56), some (.int 1)] d_Mod_doesBedFit_79 rfl z56e.symm (by decide) rfl rfl ?_
                  refine V_goto 5 d_Mod_doesBedFit_82 (by decide) ?_
                  refine V_drop 5 [some (.ref 116), some (.int a), some (.int d), some (.int 1), some (.int z56), none] rfl ?_
                  exact ihL3 1 1 z56 ((v6Z + 1)) tc_1 z56E (by (first | decide +kernel | omega)) hq9 (by (first | decide +kernel | omega)) (by (first | decide +kernel | omega))
  exact L3 (Int.toNat ((16 - 0 : Int) + 1)) 1 1 0 0 tc_1 tc_0 (by (first | decide +kernel | omega)) fM_0 (by (first | decide +kernel | omega)) (by (first | decide +kernel | omega))
def S_Mod_bedsX : List (Nat × Option Nat) := [(125, none), (116, some 28)]
abbrev q_Mod_bedsX (h : Hp) (a : Int32) (aZ : Int) (w : Int32) (wZ : Int) (g : Int32) (gZ : Int) : Option Value → Hp → Prop := pInt (fun r h' => Inv h' ∧ fr S_Mod_bedsX h h' ∧ (BDa (fB (fun i => h.1 117 i) (fun i => h.1 117 (64 + i)) (wZ * gZ)) (mlL wZ.toNat gZ.toNat (wZ * gZ).toNat) (wZ * gZ) aZ r (-4)))
set_option maxRecDepth 100000 in
theorem c_Mod_bedsX (h : Hp) (hI : Inv h) (a : Int32) (aZ : Int) (aE : a.toInt = aZ) (w : Int32) (wZ : Int) (wE : w.toInt = wZ) (wK : h.1 116 2 = w) (g : Int32) (gZ : Int) (gE : g.toInt = gZ) (gK : h.1 116 3 = g) : Ct y_Mod_beds b_Mod_beds 8 (some .int) 3 67 [.ref 116, .int a] h (q_Mod_bedsX h a aZ w wZ g gZ) := by
  refine ct_ow R_Mod [some (.ref 116), some (.int a), none, none, none, none, none, none] rfl (by decide) rfl (Nat.le_of_ble_eq_true rfl) ?_
  have f0 : fr S_Mod_bedsX h h := fr_rf
  have g1 : 2 ≤ wZ ∧ wZ ≤ 4 := inv_at hI wE wK.symm rfl
  have g2 : 2 ≤ gZ ∧ gZ ≤ 4 := inv_at hI gE gK.symm rfl
  have m24 := mul24 (A := wZ) (B := gZ) (by (first | decide +kernel | omega)) (by (first | decide +kernel | omega))
  have hl9 := ml_48 (w := wZ) (g := gZ) (by (first | decide +kernel | omega)) (by (first | decide +kernel | omega))
  refine V_iload_n 1 d_Mod_beds_0 rfl rfl ?_
  refine V_i2l d_Mod_beds_1 (fun z3 z3e z3E => ?_)
  have z3F : z3.toInt = aZ := z3E.trans aE
  refine V_lconst 0 d_Mod_beds_2 (by decide) ?_
  refine V_ldc2 d_Mod_beds_3 wl_Mod_186 ?_
  refine N_callSI [.long z3, .long 0, .long 3] [] cs_Mod_95 d_Mod_beds_6 rfl (Nat.le_of_ble_eq_true rfl) (by decide) (by decide) (c_Mod_in h z3 aZ z3F 0 0 tl_0 3 3 tl_3) (fun z4 h5 z4Z z4E p6 => ?_)
  obtain ⟨eh5, p6⟩ := p6
  subst eh5
  refine V_if_ne 14 z4E d_Mod_beds_9 (by decide) (fun c7 => ?_) (fun c7 => ?_)
  ·
    refine V_aload_n 0 d_Mod_beds_14 rfl rfl ?_
    refine N_callVV [] [] cv_Mod_295 sk_116 rfl d_Mod_beds_15 rfl (Nat.le_of_ble_eq_true rfl) (by decide) (by decide) (c_Mod_findBedsX h hI w wZ wE wK g gZ gE gK) (fun h9 p10 => ?_)
    obtain ⟨hI11, fh9, p10⟩ := p10
    have f12 : fr S_Mod_bedsX h h9 := fr_call f0 fh9 rfl
    refine V_iconst 0 d_Mod_beds_18 (by decide) ?_
    refine V_istore_n 2 [some (.ref 116), some (.int a), some (.int 0), none, none, none, none, none] d_Mod_beds_19 rfl (by decide) rfl rfl ?_
    refine V_iconst 1 d_Mod_beds_20 (by decide) ?_
    refine V_aload_n 0 d_Mod_beds_21 rfl rfl ?_
    refine N_callVI [] [.int 1] cv_Mod_183 sk_116 rfl d_Mod_beds_22 rfl (Nat.le_of_ble_eq_true rfl) (by decide) (by decide) (c_Mod_cellMany h9 hI11 w wZ wE (kn_call fh9 wK rfl) g gZ gE (kn_call fh9 gK rfl)) (fun z13 h14 z13Z z13E p15 => ?_)
    obtain ⟨eh14, p15⟩ := p15
    subst eh14
    refine N_ishl d_Mod_beds_25 (fun z16 z16Z z16E z16e => ?_)
    refine V_iconst 1 d_Mod_beds_26 (by decide) ?_
    refine N_isubw d_Mod_beds_27 (fun z17 z17Z z17E z17e => ?_)
    have hall : BP z17 (fun j => (j : Int) < wZ * gZ) := all_BP (W := wZ * gZ) p15.2.2 (by (first | decide +kernel | omega)) z16e z17e
    refine V_istore_n 3 [some (.ref 116), some (.int a), some (.int 0), some (.int z17), none, none, none, none] d_Mod_beds_28 rfl (by decide) rfl rfl ?_
    refine V_iconst 0 d_Mod_beds_29 (by decide) ?_
    refine V_istore 4 [some (.ref 116), some (.int a), some (.int 0), some (.int z17), some (.int 0), none, none, none] d_Mod_beds_30 (by decide) rfl rfl ?_
    refine V_bipush (-4) d_Mod_beds_32 (by decide) ?_
    refine V_istore 5 [some (.ref 116), some (.int a), some (.int 0), some (.int z17), some (.int 0), some (.int (-4)), none, none] d_Mod_beds_34 (by decide) rfl rfl ?_
    refine V_iconst 0 d_Mod_beds_36 (by decide) ?_
    refine V_istore 6 [some (.ref 116), some (.int a), some (.int 0), some (.int z17), some (.int 0), some (.int (-4)), some (.int 0), none] d_Mod_beds_37 (by decide) rfl rfl ?_
    have L18 : ∀ (nn : Nat) (v20 : Int32) (v20Z : Int) (v21 : Int32) (v21Z : Int) (v22 : Int32) (v22Z : Int) (v23 : Int32) (v23Z : Int) (v24 : Int32) (v24Z : Int), v20.toInt = v20Z → v21.toInt = v21Z → v22.toInt = v22Z → v23.toInt = v23Z → v24.toInt = v24Z → 0 ≤ v24Z ∧ v24Z ≤ ((mlL wZ.toNat gZ.toNat (wZ * gZ).toNat).length : Int) → v20Z = (cd (fB (fun i => h.1 117 i) (fun i => h.1 117 (64 + i)) (wZ * gZ)) ((mlL wZ.toNat gZ.toNat (wZ * gZ).toNat).take (v24Z).toNat) 9 : Nat) → BP v21 (allG (fB (fun i => h.1 117 i) (fun i => h.1 117 (64 + i)) (wZ * gZ)) (PrM (mlL wZ.toNat gZ.toNat (wZ * gZ).toNat) (v24Z).toNat 1) (wZ * gZ)) → BP v22 (anyG (fB (fun i => h.1 117 i) (fun i => h.1 117 (64 + i)) (wZ * gZ)) (PrM (mlL wZ.toNat gZ.toNat (wZ * gZ).toNat) (v24Z).toNat 1)) → depG (fB (fun i => h.1 117 i) (fun i => h.1 117 (64 + i)) (wZ * gZ)) (PrM (mlL wZ.toNat gZ.toNat (wZ * gZ).toNat) (v24Z).toNat 1) v23Z (-4) → 48 - v24Z < (nn : Int) → V R_Mod b_Mod_beds 8 (some .int) 3 67 (q_Mod_bedsX h a aZ w wZ g gZ) h9 39 [some (.ref 116), some (.int a), some (.int v20), some (.int v21), some (.int v22), some (.int v23), some (.int v24), none] [] := by
      intro nn
      induction nn with
      | zero => intro v20 v20Z v21 v21Z v22 v22Z v23 v23Z v24 v24Z v20E v21E v22E v23E v24E q25 q26 q27 q28 q29 hm30; exact absurd hm30 (by (first | decide +kernel | omega))
      | succ nn ihL18 =>
        intro v20 v20Z v21 v21Z v22 v22Z v23 v23Z v24 v24Z v20E v21E v22E v23E v24E q25 q26 q27 q28 q29 hm30
        refine V_iload d_Mod_beds_39 rfl ?_
        refine V_aload_n 0 d_Mod_beds_41 rfl rfl ?_
        refine N_getI fa_Mod_289 sk_116 rfl d_Mod_beds_42 (fun z31 z31Z z31E z31e => ?_)
        have g32 : 0 ≤ z31Z ∧ z31Z ≤ 48 := inv_at hI11 z31E z31e rfl
        have hsz : z31Z = ((mlL wZ.toNat gZ.toNat (wZ * gZ).toNat).length : Int) := by rw [← z31E, show z31 = h9.1 116 28 from (z31e.symm).symm]; exact p10.2
        refine V_icmp_ge 127 v24E z31E d_Mod_beds_45 (by decide) (fun c33 => ?_) (fun c33 => ?_)
        ·
          have hfin2 : v20Z = (cd (fB (fun i => h.1 117 i) (fun i => h.1 117 (64 + i)) (wZ * gZ)) (mlL wZ.toNat gZ.toNat (wZ * gZ).toNat) 9 : Nat) := by have q9 : v20Z = (cd (fB (fun i => h.1 117 i) (fun i => h.1 117 (64 + i)) (wZ * gZ)) ((mlL wZ.toNat gZ.toNat (wZ * gZ).toNat).take (v24Z).toNat) 9 : Nat) := (by assumption); rw [List.take_of_length_le (by (first | decide +kernel | omega))] at q9; exact q9
          have hfin3 : BP v21 (allG (fB (fun i => h.1 117 i) (fun i => h.1 117 (64 + i)) (wZ * gZ)) (PrA (mlL wZ.toNat gZ.toNat (wZ * gZ).toNat)) (wZ * gZ)) := by have q9 : BP v21 (allG (fB (fun i => h.1 117 i) (fun i => h.1 117 (64 + i)) (wZ * gZ)) (PrM (mlL wZ.toNat gZ.toNat (wZ * gZ).toNat) (v24Z).toNat 1) (wZ * gZ)) := (by assumption); rw [PrM_e (by (first | decide +kernel | omega))] at q9; exact q9
          have hfin4 : BP v22 (anyG (fB (fun i => h.1 117 i) (fun i => h.1 117 (64 + i)) (wZ * gZ)) (PrA (mlL wZ.toNat gZ.toNat (wZ * gZ).toNat))) := by have q9 : BP v22 (anyG (fB (fun i => h.1 117 i) (fun i => h.1 117 (64 + i)) (wZ * gZ)) (PrM (mlL wZ.toNat gZ.toNat (wZ * gZ).toNat) (v24Z).toNat 1)) := (by assumption); rw [PrM_e (by (first | decide +kernel | omega))] at q9; exact q9
          have hfin5 : depG (fB (fun i => h.1 117 i) (fun i => h.1 117 (64 + i)) (wZ * gZ)) (PrA (mlL wZ.toNat gZ.toNat (wZ * gZ).toNat)) v23Z (-4) := by have q9 : depG (fB (fun i => h.1 117 i) (fun i => h.1 117 (64 + i)) (wZ * gZ)) (PrM (mlL wZ.toNat gZ.toNat (wZ * gZ).toNat) (v24Z).toNat 1) v23Z (-4) := (by assumption); rw [PrM_e (by (first | decide +kernel | omega))] at q9; exact q9
          refine V_iload_n 1 d_Mod_beds_127 rfl rfl ?_
          refine V_if_eq 135 aE d_Mod_beds_128 (by decide) (fun c34 => ?_) (fun c34 => ?_)
          ·
            refine V_iload_n 1 d_Mod_beds_135 rfl rfl ?_
            refine V_if_ne 143 aE d_Mod_beds_136 (by decide) (fun c35 => ?_) (fun c35 => ?_)
            ·
              exact absurd c35 (by (first | decide +kernel | omega))
            ·
              refine V_iload_n 2 d_Mod_beds_139 rfl rfl ?_
              refine V_goto 145 d_Mod_beds_140 (by decide) ?_
              exact V_iret rfl d_Mod_beds_145 ⟨v20, rfl, ⟨hI11, f12, (Or.inl ⟨by (first | decide +kernel | omega), Or.inl ⟨by (first | decide +kernel | omega), v20E.trans hfin2⟩⟩)⟩⟩
          ·
            refine V_iload_n 2 d_Mod_beds_131 rfl rfl ?_
            refine V_if_ne 146 v20E d_Mod_beds_132 (by decide) (fun c36 => ?_) (fun c36 => ?_)
            ·
              refine V_iload_n 1 d_Mod_beds_146 rfl rfl ?_
              refine V_iconst 1 d_Mod_beds_147 (by decide) ?_
              refine V_icmp_ne 155 aE tc_1 d_Mod_beds_148 (by decide) (fun c37 => ?_) (fun c37 => ?_)
              ·
                refine V_iload_n 1 d_Mod_beds_155 rfl rfl ?_
                refine V_iconst 2 d_Mod_beds_156 (by decide) ?_
                refine V_icmp_ne 176 aE tc_2 d_Mod_beds_157 (by decide) (fun c38 => ?_) (fun c38 => ?_)
                ·
                  refine V_iload d_Mod_beds_176 rfl ?_
                  exact V_iret rfl d_Mod_beds_178 ⟨v23, rfl, ⟨hI11, f12, (Or.inl ⟨by (first | decide +kernel | omega), Or.inr (Or.inr ⟨by (first | decide +kernel | omega), Or.inr (Or.inr ⟨by (first | decide +kernel | omega), by rw [v23E]; exact hfin5⟩)⟩)⟩)⟩⟩
                ·
                  refine V_iconst 1 d_Mod_beds_160 (by decide) ?_
                  refine V_aload_n 0 d_Mod_beds_161 rfl rfl ?_
                  refine N_callVI [] [.int 1] cv_Mod_183 sk_116 rfl d_Mod_beds_162 rfl (Nat.le_of_ble_eq_true rfl) (by decide) (by decide) (c_Mod_cellMany h9 hI11 w wZ wE (kn_call fh9 wK rfl) g gZ gE (kn_call fh9 gK rfl)) (fun z39 h40 z39Z z39E p41 => ?_)
                  obtain ⟨eh40, p41⟩ := p41
                  subst eh40
                  refine N_ishl d_Mod_beds_165 (fun z42 z42Z z42E z42e => ?_)
                  refine V_iconst 1 d_Mod_beds_166 (by decide) ?_
                  refine N_isubw d_Mod_beds_167 (fun z43 z43Z z43E z43e => ?_)
                  have hal2 : BP z43 (fun j => (j : Int) < wZ * gZ) := all_BP (W := wZ * gZ) p41.2.2 (by (first | decide +kernel | omega)) z42e z43e
                  refine V_iload d_Mod_beds_168 rfl ?_
                  refine V_iconst (-1) d_Mod_beds_170 (by decide) ?_
                  refine N_ixor d_Mod_beds_171 (fun z44 z44Z z44E z44e => ?_)
                  refine N_iand d_Mod_beds_172 (fun z45 z45Z z45E z45e => ?_)
                  have hr2 := BDM_2 (z := 0) hal2 hfin4 (by (first | decide +kernel | omega)) z44e z45e
                  refine V_goto 178 d_Mod_beds_173 (by decide) ?_
                  exact V_iret rfl d_Mod_beds_178 ⟨z45, rfl, ⟨hI11, f12, (Or.inl ⟨by (first | decide +kernel | omega), Or.inr (Or.inr ⟨by (first | decide +kernel | omega), Or.inr (Or.inl ⟨by (first | decide +kernel | omega), hr2⟩)⟩)⟩)⟩⟩
              ·
                refine V_iload_n 3 d_Mod_beds_151 rfl rfl ?_
                refine V_goto 178 d_Mod_beds_152 (by decide) ?_
                exact V_iret rfl d_Mod_beds_178 ⟨v21, rfl, ⟨hI11, f12, (Or.inl ⟨by (first | decide +kernel | omega), Or.inr (Or.inr ⟨by (first | decide +kernel | omega), Or.inl ⟨by (first | decide +kernel | omega), hfin3⟩⟩)⟩)⟩⟩
            ·
              refine V_iload_n 1 d_Mod_beds_135 rfl rfl ?_
              refine V_if_ne 143 aE d_Mod_beds_136 (by decide) (fun c46 => ?_) (fun c46 => ?_)
              ·
                refine V_bipush (-4) d_Mod_beds_143 (by decide) ?_
                exact V_iret rfl d_Mod_beds_145 ⟨(-4), rfl, ⟨hI11, f12, (Or.inl ⟨by (first | decide +kernel | omega), Or.inr (Or.inl ⟨by (first | decide +kernel | omega), by (first | decide +kernel | omega), tc_m4⟩)⟩)⟩⟩
              ·
                exact absurd c46 (by (first | decide +kernel | omega))
        ·
          obtain ⟨t0, ht0⟩ : ∃ t0 : Bd, (mlL wZ.toNat gZ.toNat (wZ * gZ).toNat)[(v24Z).toNat]? = some t0 := ⟨_, List.getElem?_eq_getElem (by (first | decide +kernel | omega))⟩
          refine V_iconst 1 d_Mod_beds_48 (by decide) ?_
          refine V_istore 7 [some (.ref 116), some (.int a), some (.int v20), some (.int v21), some (.int v22), some (.int v23), some (.int v24), some (.int 1)] d_Mod_beds_49 (by decide) rfl rfl ?_
          have L47 : ∀ (nn : Nat) (v49 : Int32) (v49Z : Int) (v50 : Int32) (v50Z : Int) (v51 : Int32) (v51Z : Int) (v52 : Int32) (v52Z : Int) (v53 : Int32) (v53Z : Int), v49.toInt = v49Z → v50.toInt = v50Z → v51.toInt = v51Z → v52.toInt = v52Z → v53.toInt = v53Z → 1 ≤ v53Z ∧ v53Z ≤ 10 → v49Z = (cd (fB (fun i => h.1 117 i) (fun i => h.1 117 (64 + i)) (wZ * gZ)) ((mlL wZ.toNat gZ.toNat (wZ * gZ).toNat).take (v24Z).toNat) 9 + cd (fB (fun i => h.1 117 i) (fun i => h.1 117 (64 + i)) (wZ * gZ)) [t0] (v53Z - 1).toNat : Nat) → BP v50 (allG (fB (fun i => h.1 117 i) (fun i => h.1 117 (64 + i)) (wZ * gZ)) (PrM (mlL wZ.toNat gZ.toNat (wZ * gZ).toNat) (v24Z).toNat v53Z) (wZ * gZ)) → BP v51 (anyG (fB (fun i => h.1 117 i) (fun i => h.1 117 (64 + i)) (wZ * gZ)) (PrM (mlL wZ.toNat gZ.toNat (wZ * gZ).toNat) (v24Z).toNat v53Z)) → depG (fB (fun i => h.1 117 i) (fun i => h.1 117 (64 + i)) (wZ * gZ)) (PrM (mlL wZ.toNat gZ.toNat (wZ * gZ).toNat) (v24Z).toNat v53Z) v52Z (-4) → 10 - v53Z < (nn : Int) → V R_Mod b_Mod_beds 8 (some .int) 3 67 (q_Mod_bedsX h a aZ w wZ g gZ) h9 51 [some (.ref 116), some (.int a), some (.int v49), some (.int v50), some (.int v51), some (.int v52), some (.int v24), some (.int v53)] [] := by
            intro nn
            induction nn with
            | zero => intro v49 v49Z v50 v50Z v51 v51Z v52 v52Z v53 v53Z v49E v50E v51E v52E v53E q54 q55 q56 q57 q58 hm59; exact absurd hm59 (by (first | decide +kernel | omega))
            | succ nn ihL47 =>
              intro v49 v49Z v50 v50Z v51 v51Z v52 v52Z v53 v53Z v49E v50E v51E v52E v53E q54 q55 q56 q57 q58 hm59
              refine V_iload d_Mod_beds_51 rfl ?_
              refine V_bipush 9 d_Mod_beds_53 (by decide) ?_
              refine V_icmp_gt 121 v53E tc_9 d_Mod_beds_55 (by decide) (fun c60 => ?_) (fun c60 => ?_)
              ·
                obtain ⟨z61, z61E, z61e⟩ : ∃ y : Int32, y.toInt = v24Z + 1 ∧ y = v24 + Int32.ofInt 1 := ⟨_, ti_add v24E (by decide) (by (first | decide +kernel | omega)), rfl⟩
                refine V_iinc 6 [some (.ref 116), some (.int a), some (.int v49), some (.int v50), some (.int v51), some (.int v52), some (.int z61), some (.int v53)] d_Mod_beds_121 rfl z61e.symm (by decide) rfl rfl ?_
                refine V_goto 39 d_Mod_beds_124 (by decide) ?_
                refine V_drop 7 [some (.ref 116), some (.int a), some (.int v49), some (.int v50), some (.int v51), some (.int v52), some (.int z61), none] rfl ?_
                exact ihL18 v49 v49Z v50 v50Z v51 v51Z v52 v52Z z61 ((v24Z + 1)) v49E v50E v51E v52E z61E (by (first | decide +kernel | omega)) (by rw [show (v24Z + 1).toNat = (v24Z).toNat + 1 by (first | decide +kernel | omega)]; exact cnt_Mk (f := (fB (fun i => h.1 117 i) (fun i => h.1 117 (64 + i)) (wZ * gZ))) (d := v53Z) (by assumption) (by (first | decide +kernel | omega)) ht0) (by rw [show (v24Z + 1).toNat = (v24Z).toNat + 1 by (first | decide +kernel | omega), ← PrM_k (d := v53Z) (by (first | decide +kernel | omega)) ht0]; assumption) (by rw [show (v24Z + 1).toNat = (v24Z).toNat + 1 by (first | decide +kernel | omega), ← PrM_k (d := v53Z) (by (first | decide +kernel | omega)) ht0]; assumption) (by rw [show (v24Z + 1).toNat = (v24Z).toNat + 1 by (first | decide +kernel | omega), ← PrM_k (d := v53Z) (by (first | decide +kernel | omega)) ht0]; assumption) (by (first | decide +kernel | omega))
              ·
                have hcn : v49Z = (cd (fB (fun i => h.1 117 i) (fun i => h.1 117 (64 + i)) (wZ * gZ)) ((mlL wZ.toNat gZ.toNat (wZ * gZ).toNat).take (v24Z).toNat) 9 + cd (fB (fun i => h.1 117 i) (fun i => h.1 117 (64 + i)) (wZ * gZ)) [t0] (v53Z - 1).toNat : Nat) := by assumption
                have hal : BP v50 (allG (fB (fun i => h.1 117 i) (fun i => h.1 117 (64 + i)) (wZ * gZ)) (PrM (mlL wZ.toNat gZ.toNat (wZ * gZ).toNat) (v24Z).toNat v53Z) (wZ * gZ)) := by assumption
                have han : BP v51 (anyG (fB (fun i => h.1 117 i) (fun i => h.1 117 (64 + i)) (wZ * gZ)) (PrM (mlL wZ.toNat gZ.toNat (wZ * gZ).toNat) (v24Z).toNat v53Z)) := by assumption
                have hde : depG (fB (fun i => h.1 117 i) (fun i => h.1 117 (64 + i)) (wZ * gZ)) (PrM (mlL wZ.toNat gZ.toNat (wZ * gZ).toNat) (v24Z).toNat v53Z) v52Z (-4) := by assumption
                have hcb := cd_le (fB (fun i => h.1 117 i) (fun i => h.1 117 (64 + i)) (wZ * gZ)) ((mlL wZ.toNat gZ.toNat (wZ * gZ).toNat).take (v24Z).toNat) 9
                have hcb2 : cd (fB (fun i => h.1 117 i) (fun i => h.1 117 (64 + i)) (wZ * gZ)) [t0] (v53Z - 1).toNat ≤ (v53Z - 1).toNat * 1 := cd_le _ _ _
                have hcb3 : ((mlL wZ.toNat gZ.toNat (wZ * gZ).toNat).take (v24Z).toNat).length ≤ 48 := by rw [List.length_take]; omega
                refine V_aload_n 0 d_Mod_beds_58 rfl rfl ?_
                refine V_aload_n 0 d_Mod_beds_59 rfl rfl ?_
                refine V_getR fa_Mod_35 sk_116 rfl d_Mod_beds_60 ?_
                refine V_iload d_Mod_beds_63 rfl ?_
                refine N_iald sk_125 v24E (by (first | decide +kernel | omega)) d_Mod_beds_65 (fun z62 z62Z z62E z62e => ?_)
                have hb4 : BP z62 (inB t0) := by rw [z62e]; exact p10.1 _ t0 ht0
                refine V_iload d_Mod_beds_66 rfl ?_
                refine N_callVI [.int z62, .int v53] [] cv_Mod_298 sk_116 rfl d_Mod_beds_68 rfl (Nat.le_of_ble_eq_true rfl) (by decide) (by decide) (c_Mod_doesBedFitX h9 t0 hI11 z62 z62Z z62E v53 v53Z v53E w wZ wE (kn_call fh9 wK rfl) g gZ gE (kn_call fh9 gK rfl) hb4) (fun z63 h64 z63Z z63E p65 => ?_)
                obtain ⟨eh64, p65⟩ := p65
                subst eh64
                have := twR_01 p65
                rw [show h9.1 117 = h.1 117 from funext (fun i => f12.1 117 i rfl)] at p65
                have hff := twR_cg p65 (fM_fB (by (first | decide +kernel | omega)))
                refine V_if_eq 115 z63E d_Mod_beds_71 (by decide) (fun c66 => ?_) (fun c66 => ?_)
                ·
                  have hfit := (hff.resolve_left (fun q => absurd q.1 (by (first | decide +kernel | omega)))).2
                  obtain ⟨z67, z67E, z67e⟩ : ∃ y : Int32, y.toInt = v53Z + 1 ∧ y = v53 + Int32.ofInt 1 := ⟨_, ti_add v53E (by decide) (by (first | decide +kernel | omega)), rfl⟩
                  refine V_iinc 7 [some (.ref 116), some (.int a), some (.int v49), some (.int v50), some (.int v51), some (.int v52), some (.int v24), some (.int z67)] d_Mod_beds_115 rfl z67e.symm (by decide) rfl rfl ?_
                  refine V_goto 51 d_Mod_beds_118 (by decide) ?_
                  exact ihL47 v49 v49Z v50 v50Z v51 v51Z v52 v52Z z67 ((v53Z + 1)) v49E v50E v51E v52E z67E (by (first | decide +kernel | omega)) ((cnt_M (L := (mlL wZ.toNat gZ.toNat (wZ * gZ).toNat)) (f := (fB (fun i => h.1 117 i) (fun i => h.1 117 (64 + i)) (wZ * gZ))) (by (first | decide +kernel | omega)) hcn).2 hfit) (allG_n (PrM_s (by (first | decide +kernel | omega)) ht0) hal hfit) (anyG_n (PrM_s (by (first | decide +kernel | omega)) ht0) han hfit) (depG_n (PrM_s (by (first | decide +kernel | omega)) ht0) hde hfit) (by (first | decide +kernel | omega))
                ·
                  have hfit := (hff.resolve_right (fun q => absurd q.1 (by (first | decide +kernel | omega)))).2
                  refine V_iload_n 3 d_Mod_beds_74 rfl rfl ?_
                  refine V_aload_n 0 d_Mod_beds_75 rfl rfl ?_
                  refine V_getR fa_Mod_35 sk_116 rfl d_Mod_beds_76 ?_
                  refine V_iload d_Mod_beds_79 rfl ?_
                  refine N_iald sk_125 v24E (by (first | decide +kernel | omega)) d_Mod_beds_81 (fun z68 z68Z z68E z68e => ?_)
                  have hb5 : BP z68 (inB t0) := by rw [z68e]; exact p10.1 _ t0 ht0
                  refine N_iand d_Mod_beds_82 (fun z69 z69Z z69E z69e => ?_)
                  refine V_istore_n 3 [some (.ref 116), some (.int a), some (.int v49), some (.int z69), some (.int v51), some (.int v52), some (.int v24), some (.int v53)] d_Mod_beds_83 rfl (by decide) rfl rfl ?_
                  refine V_iload d_Mod_beds_84 rfl ?_
                  refine V_aload_n 0 d_Mod_beds_86 rfl rfl ?_
                  refine V_getR fa_Mod_35 sk_116 rfl d_Mod_beds_87 ?_
                  refine V_iload d_Mod_beds_90 rfl ?_
                  refine N_iald sk_125 v24E (by (first | decide +kernel | omega)) d_Mod_beds_92 (fun z70 z70Z z70E z70e => ?_)
                  have hb6 : BP z70 (inB t0) := by rw [z70e]; exact p10.1 _ t0 ht0
                  refine N_ior d_Mod_beds_93 (fun z71 z71Z z71E z71e => ?_)
                  refine V_istore 4 [some (.ref 116), some (.int a), some (.int v49), some (.int z69), some (.int z71), some (.int v52), some (.int v24), some (.int v53)] d_Mod_beds_94 (by decide) rfl rfl ?_
                  refine V_iload d_Mod_beds_96 rfl ?_
                  refine V_iload d_Mod_beds_98 rfl ?_
                  refine V_icmp_le 108 v53E v52E d_Mod_beds_100 (by decide) (fun c72 => ?_) (fun c72 => ?_)
                  ·
                    refine V_iload d_Mod_beds_108 rfl ?_
                    refine V_istore 5 [some (.ref 116), some (.int a), some (.int v49), some (.int z69), some (.int z71), some (.int v52), some (.int v24), some (.int v53)] d_Mod_beds_110 (by decide) rfl rfl ?_
                    obtain ⟨z73, z73E, z73e⟩ : ∃ y : Int32, y.toInt = v49Z + 1 ∧ y = v49 + Int32.ofInt 1 := ⟨_, ti_add v49E (by decide) (by (first | decide +kernel | omega)), rfl⟩
                    refine V_iinc 2 [some (.ref 116), some (.int a), some (.int z73), some (.int z69), some (.int z71), some (.int v52), some (.int v24), some (.int v53)] d_Mod_beds_112 rfl z73e.symm (by decide) rfl rfl ?_
                    obtain ⟨z74, z74E, z74e⟩ : ∃ y : Int32, y.toInt = v53Z + 1 ∧ y = v53 + Int32.ofInt 1 := ⟨_, ti_add v53E (by decide) (by (first | decide +kernel | omega)), rfl⟩
                    refine V_iinc 7 [some (.ref 116), some (.int a), some (.int z73), some (.int z69), some (.int z71), some (.int v52), some (.int v24), some (.int z74)] d_Mod_beds_115 rfl z74e.symm (by decide) rfl rfl ?_
                    refine V_goto 51 d_Mod_beds_118 (by decide) ?_
                    exact ihL47 z73 ((v49Z + 1)) z69 z69Z z71 z71Z v52 v52Z z74 ((v53Z + 1)) z73E z69E z71E v52E z74E (by (first | decide +kernel | omega)) ((cnt_M (L := (mlL wZ.toNat gZ.toNat (wZ * gZ).toNat)) (f := (fB (fun i => h.1 117 i) (fun i => h.1 117 (64 + i)) (wZ * gZ))) (by (first | decide +kernel | omega)) hcn).1 hfit) (allG_y (PrM_s (by (first | decide +kernel | omega)) ht0) hal hb5 hfit z69e) (anyG_y (PrM_s (by (first | decide +kernel | omega)) ht0) han hb6 hfit z71e) (depG_y (PrM_s (by (first | decide +kernel | omega)) ht0) hde hfit (by (first | decide +kernel | omega)) (by (first | decide +kernel | omega))) (by (first | decide +kernel | omega))
                  ·
                    refine V_iload d_Mod_beds_103 rfl ?_
                    refine V_goto 110 d_Mod_beds_105 (by decide) ?_
                    refine V_istore 5 [some (.ref 116), some (.int a), some (.int v49), some (.int z69), some (.int z71), some (.int v53), some (.int v24), some (.int v53)] d_Mod_beds_110 (by decide) rfl rfl ?_
                    obtain ⟨z75, z75E, z75e⟩ : ∃ y : Int32, y.toInt = v49Z + 1 ∧ y = v49 + Int32.ofInt 1 := ⟨_, ti_add v49E (by decide) (by (first | decide +kernel | omega)), rfl⟩
                    refine V_iinc 2 [some (.ref 116), some (.int a), some (.int z75), some (.int z69), some (.int z71), some (.int v53), some (.int v24), some (.int v53)] d_Mod_beds_112 rfl z75e.symm (by decide) rfl rfl ?_
                    obtain ⟨z76, z76E, z76e⟩ : ∃ y : Int32, y.toInt = v53Z + 1 ∧ y = v53 + Int32.ofInt 1 := ⟨_, ti_add v53E (by decide) (by (first | decide +kernel | omega)), rfl⟩
                    refine V_iinc 7 [some (.ref 116), some (.int a), some (.int z75), some (.int z69), some (.int z71), some (.int v53), some (.int v24), some (.int z76)] d_Mod_beds_115 rfl z76e.symm (by decide) rfl rfl ?_
                    refine V_goto 51 d_Mod_beds_118 (by decide) ?_
                    exact ihL47 z75 ((v49Z + 1)) z69 z69Z z71 z71Z v53 v53Z z76 ((v53Z + 1)) z75E z69E z71E v53E z76E (by (first | decide +kernel | omega)) ((cnt_M (L := (mlL wZ.toNat gZ.toNat (wZ * gZ).toNat)) (f := (fB (fun i => h.1 117 i) (fun i => h.1 117 (64 + i)) (wZ * gZ))) (by (first | decide +kernel | omega)) hcn).1 hfit) (allG_y (PrM_s (by (first | decide +kernel | omega)) ht0) hal hb5 hfit z69e) (anyG_y (PrM_s (by (first | decide +kernel | omega)) ht0) han hb6 hfit z71e) (depG_y (PrM_s (by (first | decide +kernel | omega)) ht0) hde hfit (by (first | decide +kernel | omega)) (by (first | decide +kernel | omega))) (by (first | decide +kernel | omega))
          exact L47 (Int.toNat ((10 - 1 : Int) + 1)) v20 v20Z v21 v21Z v22 v22Z v23 v23Z 1 1 v20E v21E v22E v23E tc_1 (by (first | decide +kernel | omega)) (show v20Z = (cd (fB (fun i => h.1 117 i) (fun i => h.1 117 (64 + i)) (wZ * gZ)) ((mlL wZ.toNat gZ.toNat (wZ * gZ).toNat).take (v24Z).toNat) 9 + 0 : Nat) from by assumption) (by assumption) (by assumption) (by assumption) (by (first | decide +kernel | omega))
    exact L18 (Int.toNat ((48 - 0 : Int) + 1)) 0 0 z17 z17Z 0 0 (-4) ((-4)) 0 0 tc_0 z17E tc_0 tc_m4 tc_0 (by (first | decide +kernel | omega)) rfl (G_00 PrM_0 hall) (G_01 PrM_0) (G_02 PrM_0) (by (first | decide +kernel | omega))
  ·
    refine V_iconst (-1) d_Mod_beds_12 (by decide) ?_
    exact V_iret rfl d_Mod_beds_13 ⟨(-1), rfl, ⟨hI, f0, (Or.inr ⟨by (first | decide +kernel | omega), tc_m1⟩)⟩⟩
abbrev q_Mod_bedsByX (h : Hp) (L : List Bd) (c : Int32) (cZ : Int) (d : Int32) (dZ : Int) (b : Int32) (bZ : Int) (w : Int32) (wZ : Int) (g : Int32) (gZ : Int) (q : Int32) (qZ : Int) : Option Value → Hp → Prop := pInt (fun r h' => h = h' ∧ (r.toInt = (cd (fun x t => (fB (fun i => h.1 117 i) (fun i => h.1 117 (64 + i)) (wZ * gZ)) x t ∧ ((inB t cZ.toNat ∧ x ≤ dZ) ↔ bZ = 1)) L 9 : Nat) ∧ 0 ≤ r.toInt ∧ r.toInt ≤ 432))
set_option maxRecDepth 100000 in
theorem c_Mod_bedsByX (h : Hp) (L : List Bd) (hI : Inv h) (c : Int32) (cZ : Int) (cE : c.toInt = cZ) (d : Int32) (dZ : Int) (dE : d.toInt = dZ) (b : Int32) (bZ : Int) (bE : b.toInt = bZ) (w : Int32) (wZ : Int) (wE : w.toInt = wZ) (wK : h.1 116 2 = w) (g : Int32) (gZ : Int) (gE : g.toInt = gZ) (gK : h.1 116 3 = g) (q : Int32) (qZ : Int) (qE : q.toInt = qZ) (qK : h.1 116 28 = q) (hy0 : HZ h 125 116 28 L) (hy1 : L.length ≤ 48) (hy2 : 0 ≤ cZ ∧ cZ ≤ 15) (hy3 : 1 ≤ dZ ∧ dZ ≤ 9) (hy4 : 0 ≤ bZ ∧ bZ ≤ 1) : Ct y_Mod_bedsBy b_Mod_bedsBy 8 (some .int) 3 67 [.ref 116, .int c, .int d, .int b] h (q_Mod_bedsByX h L c cZ d dZ b bZ w wZ g gZ q qZ) := by
  refine ct_ow R_Mod [some (.ref 116), some (.int c), some (.int d), some (.int b), none, none, none, none] rfl (by decide) rfl (Nat.le_of_ble_eq_true rfl) ?_
  have f0 : fr [] h h := fr_rf
  have g1 : 2 ≤ wZ ∧ wZ ≤ 4 := inv_at hI wE wK.symm rfl
  have g2 : 2 ≤ gZ ∧ gZ ≤ 4 := inv_at hI gE gK.symm rfl
  have g3 : 0 ≤ qZ ∧ qZ ≤ 48 := inv_at hI qE qK.symm rfl
  have m24 := mul24 (A := wZ) (B := gZ) (by (first | decide +kernel | omega)) (by (first | decide +kernel | omega))
  refine V_iconst 0 d_Mod_bedsBy_0 (by decide) ?_
  refine V_istore 4 [some (.ref 116), some (.int c), some (.int d), some (.int b), some (.int 0), none, none, none] d_Mod_bedsBy_1 (by decide) rfl rfl ?_
  refine V_iconst 0 d_Mod_bedsBy_3 (by decide) ?_
  refine V_istore 5 [some (.ref 116), some (.int c), some (.int d), some (.int b), some (.int 0), some (.int 0), none, none] d_Mod_bedsBy_4 (by decide) rfl rfl ?_
  have L4 : ∀ (nn : Nat) (v6 : Int32) (v6Z : Int) (v7 : Int32) (v7Z : Int), v6.toInt = v6Z → v7.toInt = v7Z → 0 ≤ v7Z ∧ v7Z ≤ (L.length : Int) → v6Z = (cd (fun x t => (fB (fun i => h.1 117 i) (fun i => h.1 117 (64 + i)) (wZ * gZ)) x t ∧ ((inB t cZ.toNat ∧ x ≤ dZ) ↔ bZ = 1)) (L.take (v7Z).toNat) 9 : Nat) → 48 - v7Z < (nn : Int) → V R_Mod b_Mod_bedsBy 8 (some .int) 3 67 (q_Mod_bedsByX h L c cZ d dZ b bZ w wZ g gZ q qZ) h 6 [some (.ref 116), some (.int c), some (.int d), some (.int b), some (.int v6), some (.int v7), none, none] [] := by
    intro nn
    induction nn with
    | zero => intro v6 v6Z v7 v7Z v6E v7E q8 q9 hm10; exact absurd hm10 (by (first | decide +kernel | omega))
    | succ nn ihL4 =>
      intro v6 v6Z v7 v7Z v6E v7E q8 q9 hm10
      refine V_iload d_Mod_bedsBy_6 rfl ?_
      refine V_aload_n 0 d_Mod_bedsBy_8 rfl rfl ?_
      refine N_getK fa_Mod_289 sk_116 rfl d_Mod_bedsBy_9 qK ?_
      have hsz : qZ = (L.length : Int) := by rw [← qE, show q = h.1 116 28 from (qK).symm]; exact hy0.2
      refine V_icmp_ge 100 v7E qE d_Mod_bedsBy_12 (by decide) (fun c11 => ?_) (fun c11 => ?_)
      ·
        have hfin : v6Z = (cd (fun x t => (fB (fun i => h.1 117 i) (fun i => h.1 117 (64 + i)) (wZ * gZ)) x t ∧ ((inB t cZ.toNat ∧ x ≤ dZ) ↔ bZ = 1)) L 9 : Nat) := G_e (W := 0) (k := (v7Z).toNat) (by (first | decide +kernel | omega)) (by assumption)
        have hfb := cd_le (fun x t => (fB (fun i => h.1 117 i) (fun i => h.1 117 (64 + i)) (wZ * gZ)) x t ∧ ((inB t cZ.toNat ∧ x ≤ dZ) ↔ bZ = 1)) L 9
        refine V_iload d_Mod_bedsBy_100 rfl ?_
        exact V_iret rfl d_Mod_bedsBy_102 ⟨v6, rfl, ⟨rfl, ⟨by rw [v6E]; exact hfin, by rw [v6E]; omega, by rw [v6E]; omega⟩⟩⟩
      ·
        obtain ⟨t0, ht0⟩ : ∃ t0 : Bd, L[(v7Z).toNat]? = some t0 := ⟨_, List.getElem?_eq_getElem (by (first | decide +kernel | omega))⟩
        refine V_iconst 1 d_Mod_bedsBy_15 (by decide) ?_
        refine V_istore 6 [some (.ref 116), some (.int c), some (.int d), some (.int b), some (.int v6), some (.int v7), some (.int 1), none] d_Mod_bedsBy_16 (by decide) rfl rfl ?_
        have L12 : ∀ (nn : Nat) (v14 : Int32) (v14Z : Int) (v15 : Int32) (v15Z : Int), v14.toInt = v14Z → v15.toInt = v15Z → 1 ≤ v15Z ∧ v15Z ≤ 10 → v14Z = (cd (fun x t => (fB (fun i => h.1 117 i) (fun i => h.1 117 (64 + i)) (wZ * gZ)) x t ∧ ((inB t cZ.toNat ∧ x ≤ dZ) ↔ bZ = 1)) (L.take (v7Z).toNat) 9 + cd (fun x t => (fB (fun i => h.1 117 i) (fun i => h.1 117 (64 + i)) (wZ * gZ)) x t ∧ ((inB t cZ.toNat ∧ x ≤ dZ) ↔ bZ = 1)) [t0] (v15Z - 1).toNat : Nat) → 10 - v15Z < (nn : Int) → V R_Mod b_Mod_bedsBy 8 (some .int) 3 67 (q_Mod_bedsByX h L c cZ d dZ b bZ w wZ g gZ q qZ) h 18 [some (.ref 116), some (.int c), some (.int d), some (.int b), some (.int v14), some (.int v7), some (.int v15), none] [] := by
          intro nn
          induction nn with
          | zero => intro v14 v14Z v15 v15Z v14E v15E q16 q17 hm18; exact absurd hm18 (by (first | decide +kernel | omega))
          | succ nn ihL12 =>
            intro v14 v14Z v15 v15Z v14E v15E q16 q17 hm18
            refine V_iload d_Mod_bedsBy_18 rfl ?_
            refine V_bipush 9 d_Mod_bedsBy_20 (by decide) ?_
            refine V_icmp_gt 94 v15E tc_9 d_Mod_bedsBy_22 (by decide) (fun c19 => ?_) (fun c19 => ?_)
            ·
              obtain ⟨z20, z20E, z20e⟩ : ∃ y : Int32, y.toInt = v7Z + 1 ∧ y = v7 + Int32.ofInt 1 := ⟨_, ti_add v7E (by decide) (by (first | decide +kernel | omega)), rfl⟩
              refine V_iinc 5 [some (.ref 116), some (.int c), some (.int d), some (.int b), some (.int v14), some (.int z20), some (.int v15), none] d_Mod_bedsBy_94 rfl z20e.symm (by decide) rfl rfl ?_
              refine V_goto 6 d_Mod_bedsBy_97 (by decide) ?_
              refine V_drop 6 [some (.ref 116), some (.int c), some (.int d), some (.int b), some (.int v14), some (.int z20), none, none] rfl ?_
              exact ihL4 v14 v14Z z20 ((v7Z + 1)) v14E z20E (by (first | decide +kernel | omega)) (by rw [show (v7Z + 1).toNat = (v7Z).toNat + 1 by (first | decide +kernel | omega)]; exact cnt_Mk (f := (fun x t => (fB (fun i => h.1 117 i) (fun i => h.1 117 (64 + i)) (wZ * gZ)) x t ∧ ((inB t cZ.toNat ∧ x ≤ dZ) ↔ bZ = 1))) (d := v15Z) (by assumption) (by (first | decide +kernel | omega)) ht0) (by (first | decide +kernel | omega))
            ·
              have hcn : v14Z = (cd (fun x t => (fB (fun i => h.1 117 i) (fun i => h.1 117 (64 + i)) (wZ * gZ)) x t ∧ ((inB t cZ.toNat ∧ x ≤ dZ) ↔ bZ = 1)) (L.take (v7Z).toNat) 9 + cd (fun x t => (fB (fun i => h.1 117 i) (fun i => h.1 117 (64 + i)) (wZ * gZ)) x t ∧ ((inB t cZ.toNat ∧ x ≤ dZ) ↔ bZ = 1)) [t0] (v15Z - 1).toNat : Nat) := by assumption
              have hcb := cd_le (fun x t => (fB (fun i => h.1 117 i) (fun i => h.1 117 (64 + i)) (wZ * gZ)) x t ∧ ((inB t cZ.toNat ∧ x ≤ dZ) ↔ bZ = 1)) (L.take (v7Z).toNat) 9
              have hcb2 : cd (fun x t => (fB (fun i => h.1 117 i) (fun i => h.1 117 (64 + i)) (wZ * gZ)) x t ∧ ((inB t cZ.toNat ∧ x ≤ dZ) ↔ bZ = 1)) [t0] (v15Z - 1).toNat ≤ (v15Z - 1).toNat * 1 := cd_le _ _ _
              have hcb3 : (L.take (v7Z).toNat).length ≤ 48 := by rw [List.length_take]; omega
              refine V_aload_n 0 d_Mod_bedsBy_25 rfl rfl ?_
              refine V_getR fa_Mod_35 sk_116 rfl d_Mod_bedsBy_26 ?_
              refine V_iload d_Mod_bedsBy_29 rfl ?_
              refine N_iald sk_125 v7E (by (first | decide +kernel | omega)) d_Mod_bedsBy_31 (fun z21 z21Z z21E z21e => ?_)
              have hb1 : BP z21 (inB t0) := by rw [z21e]; exact hy0.1 _ t0 ht0
              refine V_iload_n 1 d_Mod_bedsBy_32 rfl rfl ?_
              refine N_ishr d_Mod_bedsBy_33 (fun z22 z22Z z22E z22e => ?_)
              refine V_iconst 1 d_Mod_bedsBy_34 (by decide) ?_
              refine N_iand d_Mod_bedsBy_35 (fun z23 z23Z z23E z23e => ?_)
              have hbit := BP_sh hb1 cE (by (first | decide +kernel | omega)) z22e z23e z23E
              refine V_iconst 1 d_Mod_bedsBy_36 (by decide) ?_
              refine V_icmp_ne 50 z23E tc_1 d_Mod_bedsBy_37 (by decide) (fun c24 => ?_) (fun c24 => ?_)
              ·
                refine V_iconst 0 d_Mod_bedsBy_50 (by decide) ?_
                have hv7 : ¬ (inB t0 cZ.toNat ∧ v15Z ≤ dZ) := fun q => (hbit.resolve_left (fun q => absurd q.1 (by (first | decide +kernel | omega)))).2 q.1
                refine V_istore 7 [some (.ref 116), some (.int c), some (.int d), some (.int b), some (.int v14), some (.int v7), some (.int v15), some (.int 0)] d_Mod_bedsBy_51 (by decide) rfl rfl ?_
                refine V_iload d_Mod_bedsBy_53 rfl ?_
                refine V_iload d_Mod_bedsBy_55 rfl ?_
                refine V_iload_n 3 d_Mod_bedsBy_57 rfl rfl ?_
                refine V_icmp_ne 81 tc_0 bE d_Mod_bedsBy_58 (by decide) (fun c25 => ?_) (fun c25 => ?_)
                ·
                  refine V_iconst 0 d_Mod_bedsBy_81 (by decide) ?_
                  refine N_callSI [.int 0] [.int v14] cs_Mod_196 d_Mod_bedsBy_82 rfl (Nat.le_of_ble_eq_true rfl) (by decide) (by decide) (c_Mod_flag h 0 0 tc_0) (fun z26 h27 z26Z z26E p28 => ?_)
                  obtain ⟨eh27, p28⟩ := p28
                  subst eh27
                  have hp9 : ¬ ((fun x t => (fB (fun i => h.1 117 i) (fun i => h.1 117 (64 + i)) (wZ * gZ)) x t ∧ ((inB t cZ.toNat ∧ x ≤ dZ) ↔ bZ = 1)) v15Z t0) := fun q => hv7 (q.2.mpr (by (first | decide +kernel | omega)))
                  have hz9 : z26Z = 0 := by have := p28; omega
                  refine V_iadd v14E z26E (by (first | decide +kernel | omega)) d_Mod_bedsBy_85 (fun z29 z29e z29E => ?_)
                  refine V_istore 4 [some (.ref 116), some (.int c), some (.int d), some (.int b), some (.int z29), some (.int v7), some (.int v15), some (.int 0)] d_Mod_bedsBy_86 (by decide) rfl rfl ?_
                  obtain ⟨z30, z30E, z30e⟩ : ∃ y : Int32, y.toInt = v15Z + 1 ∧ y = v15 + Int32.ofInt 1 := ⟨_, ti_add v15E (by decide) (by (first | decide +kernel | omega)), rfl⟩
                  refine V_iinc 6 [some (.ref 116), some (.int c), some (.int d), some (.int b), some (.int z29), some (.int v7), some (.int z30), some (.int 0)] d_Mod_bedsBy_88 rfl z30e.symm (by decide) rfl rfl ?_
                  refine V_goto 18 d_Mod_bedsBy_91 (by decide) ?_
                  refine V_drop 7 [some (.ref 116), some (.int c), some (.int d), some (.int b), some (.int z29), some (.int v7), some (.int z30), none] rfl ?_
                  exact ihL12 z29 ((v14Z + z26Z)) z30 ((v15Z + 1)) z29E z30E (by (first | decide +kernel | omega)) (by have q9 := (cnt_M (L := L) (f := (fun x t => (fB (fun i => h.1 117 i) (fun i => h.1 117 (64 + i)) (wZ * gZ)) x t ∧ ((inB t cZ.toNat ∧ x ≤ dZ) ↔ bZ = 1))) (by (first | decide +kernel | omega)) hcn).2 hp9; rw [hz9]; rw [Int.add_zero]; exact q9) (by (first | decide +kernel | omega))
                ·
                  refine V_aload_n 0 d_Mod_bedsBy_61 rfl rfl ?_
                  refine V_aload_n 0 d_Mod_bedsBy_62 rfl rfl ?_
                  refine V_getR fa_Mod_35 sk_116 rfl d_Mod_bedsBy_63 ?_
                  refine V_iload d_Mod_bedsBy_66 rfl ?_
                  refine N_iald sk_125 v7E (by (first | decide +kernel | omega)) d_Mod_bedsBy_68 (fun z31 z31Z z31E z31e => ?_)
                  have hb2 : BP z31 (inB t0) := by rw [z31e]; exact hy0.1 _ t0 ht0
                  refine V_iload d_Mod_bedsBy_69 rfl ?_
                  refine N_callVI [.int z31, .int v15] [.int v14] cv_Mod_298 sk_116 rfl d_Mod_bedsBy_71 rfl (Nat.le_of_ble_eq_true rfl) (by decide) (by decide) (c_Mod_doesBedFitX h t0 hI z31 z31Z z31E v15 v15Z v15E w wZ wE wK g gZ gE gK hb2) (fun z32 h33 z32Z z32E p34 => ?_)
                  obtain ⟨eh33, p34⟩ := p34
                  subst eh33
                  have := twR_01 p34
                  have hff := twR_cg p34 (fM_fB (by (first | decide +kernel | omega)))
                  refine V_if_eq 81 z32E d_Mod_bedsBy_74 (by decide) (fun c35 => ?_) (fun c35 => ?_)
                  ·
                    refine V_iconst 0 d_Mod_bedsBy_81 (by decide) ?_
                    refine N_callSI [.int 0] [.int v14] cs_Mod_196 d_Mod_bedsBy_82 rfl (Nat.le_of_ble_eq_true rfl) (by decide) (by decide) (c_Mod_flag h 0 0 tc_0) (fun z36 h37 z36Z z36E p38 => ?_)
                    obtain ⟨eh37, p38⟩ := p38
                    subst eh37
                    have hp9 : ¬ ((fun x t => (fB (fun i => h.1 117 i) (fun i => h.1 117 (64 + i)) (wZ * gZ)) x t ∧ ((inB t cZ.toNat ∧ x ≤ dZ) ↔ bZ = 1)) v15Z t0) := fun q => (hff.resolve_left (fun q => absurd q.1 (by (first | decide +kernel | omega)))).2 q.1
                    have hz9 : z36Z = 0 := by have := p38; omega
                    refine V_iadd v14E z36E (by (first | decide +kernel | omega)) d_Mod_bedsBy_85 (fun z39 z39e z39E => ?_)
                    refine V_istore 4 [some (.ref 116), some (.int c), some (.int d), some (.int b), some (.int z39), some (.int v7), some (.int v15), some (.int 0)] d_Mod_bedsBy_86 (by decide) rfl rfl ?_
                    obtain ⟨z40, z40E, z40e⟩ : ∃ y : Int32, y.toInt = v15Z + 1 ∧ y = v15 + Int32.ofInt 1 := ⟨_, ti_add v15E (by decide) (by (first | decide +kernel | omega)), rfl⟩
                    refine V_iinc 6 [some (.ref 116), some (.int c), some (.int d), some (.int b), some (.int z39), some (.int v7), some (.int z40), some (.int 0)] d_Mod_bedsBy_88 rfl z40e.symm (by decide) rfl rfl ?_
                    refine V_goto 18 d_Mod_bedsBy_91 (by decide) ?_
                    refine V_drop 7 [some (.ref 116), some (.int c), some (.int d), some (.int b), some (.int z39), some (.int v7), some (.int z40), none] rfl ?_
                    exact ihL12 z39 ((v14Z + z36Z)) z40 ((v15Z + 1)) z39E z40E (by (first | decide +kernel | omega)) (by have q9 := (cnt_M (L := L) (f := (fun x t => (fB (fun i => h.1 117 i) (fun i => h.1 117 (64 + i)) (wZ * gZ)) x t ∧ ((inB t cZ.toNat ∧ x ≤ dZ) ↔ bZ = 1))) (by (first | decide +kernel | omega)) hcn).2 hp9; rw [hz9]; rw [Int.add_zero]; exact q9) (by (first | decide +kernel | omega))
                  ·
                    refine V_iconst 1 d_Mod_bedsBy_77 (by decide) ?_
                    refine V_goto 82 d_Mod_bedsBy_78 (by decide) ?_
                    refine N_callSI [.int 1] [.int v14] cs_Mod_196 d_Mod_bedsBy_82 rfl (Nat.le_of_ble_eq_true rfl) (by decide) (by decide) (c_Mod_flag h 1 1 tc_1) (fun z41 h42 z41Z z41E p43 => ?_)
                    obtain ⟨eh42, p43⟩ := p43
                    subst eh42
                    have hp9 : ((fun x t => (fB (fun i => h.1 117 i) (fun i => h.1 117 (64 + i)) (wZ * gZ)) x t ∧ ((inB t cZ.toNat ∧ x ≤ dZ) ↔ bZ = 1)) v15Z t0) := ⟨(hff.resolve_right (fun q => absurd q.1 (by (first | decide +kernel | omega)))).2, fun q => absurd q hv7, fun q => absurd q (by (first | decide +kernel | omega))⟩
                    have hz9 : z41Z = 1 := by have := p43; omega
                    refine V_iadd v14E z41E (by (first | decide +kernel | omega)) d_Mod_bedsBy_85 (fun z44 z44e z44E => ?_)
                    refine V_istore 4 [some (.ref 116), some (.int c), some (.int d), some (.int b), some (.int z44), some (.int v7), some (.int v15), some (.int 0)] d_Mod_bedsBy_86 (by decide) rfl rfl ?_
                    obtain ⟨z45, z45E, z45e⟩ : ∃ y : Int32, y.toInt = v15Z + 1 ∧ y = v15 + Int32.ofInt 1 := ⟨_, ti_add v15E (by decide) (by (first | decide +kernel | omega)), rfl⟩
                    refine V_iinc 6 [some (.ref 116), some (.int c), some (.int d), some (.int b), some (.int z44), some (.int v7), some (.int z45), some (.int 0)] d_Mod_bedsBy_88 rfl z45e.symm (by decide) rfl rfl ?_
                    refine V_goto 18 d_Mod_bedsBy_91 (by decide) ?_
                    refine V_drop 7 [some (.ref 116), some (.int c), some (.int d), some (.int b), some (.int z44), some (.int v7), some (.int z45), none] rfl ?_
                    exact ihL12 z44 ((v14Z + z41Z)) z45 ((v15Z + 1)) z44E z45E (by (first | decide +kernel | omega)) (by have q9 := (cnt_M (L := L) (f := (fun x t => (fB (fun i => h.1 117 i) (fun i => h.1 117 (64 + i)) (wZ * gZ)) x t ∧ ((inB t cZ.toNat ∧ x ≤ dZ) ↔ bZ = 1))) (by (first | decide +kernel | omega)) hcn).1 hp9; rw [hz9]; exact q9) (by (first | decide +kernel | omega))
              ·
                refine V_iload d_Mod_bedsBy_40 rfl ?_
                refine V_iload_n 2 d_Mod_bedsBy_42 rfl rfl ?_
                refine V_icmp_gt 50 v15E dE d_Mod_bedsBy_43 (by decide) (fun c46 => ?_) (fun c46 => ?_)
                ·
                  refine V_iconst 0 d_Mod_bedsBy_50 (by decide) ?_
                  have hv7 : ¬ (inB t0 cZ.toNat ∧ v15Z ≤ dZ) := fun q => by have := q.2; omega
                  refine V_istore 7 [some (.ref 116), some (.int c), some (.int d), some (.int b), some (.int v14), some (.int v7), some (.int v15), some (.int 0)] d_Mod_bedsBy_51 (by decide) rfl rfl ?_
                  refine V_iload d_Mod_bedsBy_53 rfl ?_
                  refine V_iload d_Mod_bedsBy_55 rfl ?_
                  refine V_iload_n 3 d_Mod_bedsBy_57 rfl rfl ?_
                  refine V_icmp_ne 81 tc_0 bE d_Mod_bedsBy_58 (by decide) (fun c47 => ?_) (fun c47 => ?_)
                  ·
                    refine V_iconst 0 d_Mod_bedsBy_81 (by decide) ?_
                    refine N_callSI [.int 0] [.int v14] cs_Mod_196 d_Mod_bedsBy_82 rfl (Nat.le_of_ble_eq_true rfl) (by decide) (by decide) (c_Mod_flag h 0 0 tc_0) (fun z48 h49 z48Z z48E p50 => ?_)
                    obtain ⟨eh49, p50⟩ := p50
                    subst eh49
                    have hp9 : ¬ ((fun x t => (fB (fun i => h.1 117 i) (fun i => h.1 117 (64 + i)) (wZ * gZ)) x t ∧ ((inB t cZ.toNat ∧ x ≤ dZ) ↔ bZ = 1)) v15Z t0) := fun q => hv7 (q.2.mpr (by (first | decide +kernel | omega)))
                    have hz9 : z48Z = 0 := by have := p50; omega
                    refine V_iadd v14E z48E (by (first | decide +kernel | omega)) d_Mod_bedsBy_85 (fun z51 z51e z51E => ?_)
                    refine V_istore 4 [some (.ref 116), some (.int c), some (.int d), some (.int b), some (.int z51), some (.int v7), some (.int v15), some (.int 0)] d_Mod_bedsBy_86 (by decide) rfl rfl ?_
                    obtain ⟨z52, z52E, z52e⟩ : ∃ y : Int32, y.toInt = v15Z + 1 ∧ y = v15 + Int32.ofInt 1 := ⟨_, ti_add v15E (by decide) (by (first | decide +kernel | omega)), rfl⟩
                    refine V_iinc 6 [some (.ref 116), some (.int c), some (.int d), some (.int b), some (.int z51), some (.int v7), some (.int z52), some (.int 0)] d_Mod_bedsBy_88 rfl z52e.symm (by decide) rfl rfl ?_
                    refine V_goto 18 d_Mod_bedsBy_91 (by decide) ?_
                    refine V_drop 7 [some (.ref 116), some (.int c), some (.int d), some (.int b), some (.int z51), some (.int v7), some (.int z52), none] rfl ?_
                    exact ihL12 z51 ((v14Z + z48Z)) z52 ((v15Z + 1)) z51E z52E (by (first | decide +kernel | omega)) (by have q9 := (cnt_M (L := L) (f := (fun x t => (fB (fun i => h.1 117 i) (fun i => h.1 117 (64 + i)) (wZ * gZ)) x t ∧ ((inB t cZ.toNat ∧ x ≤ dZ) ↔ bZ = 1))) (by (first | decide +kernel | omega)) hcn).2 hp9; rw [hz9]; rw [Int.add_zero]; exact q9) (by (first | decide +kernel | omega))
                  ·
                    refine V_aload_n 0 d_Mod_bedsBy_61 rfl rfl ?_
                    refine V_aload_n 0 d_Mod_bedsBy_62 rfl rfl ?_
                    refine V_getR fa_Mod_35 sk_116 rfl d_Mod_bedsBy_63 ?_
                    refine V_iload d_Mod_bedsBy_66 rfl ?_
                    refine N_iald sk_125 v7E (by (first | decide +kernel | omega)) d_Mod_bedsBy_68 (fun z53 z53Z z53E z53e => ?_)
                    have hb2 : BP z53 (inB t0) := by rw [z53e]; exact hy0.1 _ t0 ht0
                    refine V_iload d_Mod_bedsBy_69 rfl ?_
                    refine N_callVI [.int z53, .int v15] [.int v14] cv_Mod_298 sk_116 rfl d_Mod_bedsBy_71 rfl (Nat.le_of_ble_eq_true rfl) (by decide) (by decide) (c_Mod_doesBedFitX h t0 hI z53 z53Z z53E v15 v15Z v15E w wZ wE wK g gZ gE gK hb2) (fun z54 h55 z54Z z54E p56 => ?_)
                    obtain ⟨eh55, p56⟩ := p56
                    subst eh55
                    have := twR_01 p56
                    have hff := twR_cg p56 (fM_fB (by (first | decide +kernel | omega)))
                    refine V_if_eq 81 z54E d_Mod_bedsBy_74 (by decide) (fun c57 => ?_) (fun c57 => ?_)
                    ·
                      refine V_iconst 0 d_Mod_bedsBy_81 (by decide) ?_
                      refine N_callSI [.int 0] [.int v14] cs_Mod_196 d_Mod_bedsBy_82 rfl (Nat.le_of_ble_eq_true rfl) (by decide) (by decide) (c_Mod_flag h 0 0 tc_0) (fun z58 h59 z58Z z58E p60 => ?_)
                      obtain ⟨eh59, p60⟩ := p60
                      subst eh59
                      have hp9 : ¬ ((fun x t => (fB (fun i => h.1 117 i) (fun i => h.1 117 (64 + i)) (wZ * gZ)) x t ∧ ((inB t cZ.toNat ∧ x ≤ dZ) ↔ bZ = 1)) v15Z t0) := fun q => (hff.resolve_left (fun q => absurd q.1 (by (first | decide +kernel | omega)))).2 q.1
                      have hz9 : z58Z = 0 := by have := p60; omega
                      refine V_iadd v14E z58E (by (first | decide +kernel | omega)) d_Mod_bedsBy_85 (fun z61 z61e z61E => ?_)
                      refine V_istore 4 [some (.ref 116), some (.int c), some (.int d), some (.int b), some (.int z61), some (.int v7), some (.int v15), some (.int 0)] d_Mod_bedsBy_86 (by decide) rfl rfl ?_
                      obtain ⟨z62, z62E, z62e⟩ : ∃ y : Int32, y.toInt = v15Z + 1 ∧ y = v15 + Int32.ofInt 1 := ⟨_, ti_add v15E (by decide) (by (first | decide +kernel | omega)), rfl⟩
                      refine V_iinc 6 [some (.ref 116), some (.int c), some (.int d), some (.int b), some (.int z61), some (.int v7), some (.int z62), some (.int 0)] d_Mod_bedsBy_88 rfl z62e.symm (by decide) rfl rfl ?_
                      refine V_goto 18 d_Mod_bedsBy_91 (by decide) ?_
                      refine V_drop 7 [some (.ref 116), some (.int c), some (.int d), some (.int b), some (.int z61), some (.int v7), some (.int z62), none] rfl ?_
                      exact ihL12 z61 ((v14Z + z58Z)) z62 ((v15Z + 1)) z61E z62E (by (first | decide +kernel | omega)) (by have q9 := (cnt_M (L := L) (f := (fun x t => (fB (fun i => h.1 117 i) (fun i => h.1 117 (64 + i)) (wZ * gZ)) x t ∧ ((inB t cZ.toNat ∧ x ≤ dZ) ↔ bZ = 1))) (by (first | decide +kernel | omega)) hcn).2 hp9; rw [hz9]; rw [Int.add_zero]; exact q9) (by (first | decide +kernel | omega))
                    ·
                      refine V_iconst 1 d_Mod_bedsBy_77 (by decide) ?_
                      refine V_goto 82 d_Mod_bedsBy_78 (by decide) ?_
                      refine N_callSI [.int 1] [.int v14] cs_Mod_196 d_Mod_bedsBy_82 rfl (Nat.le_of_ble_eq_true rfl) (by decide) (by decide) (c_Mod_flag h 1 1 tc_1) (fun z63 h64 z63Z z63E p65 => ?_)
                      obtain ⟨eh64, p65⟩ := p65
                      subst eh64
                      have hp9 : ((fun x t => (fB (fun i => h.1 117 i) (fun i => h.1 117 (64 + i)) (wZ * gZ)) x t ∧ ((inB t cZ.toNat ∧ x ≤ dZ) ↔ bZ = 1)) v15Z t0) := ⟨(hff.resolve_right (fun q => absurd q.1 (by (first | decide +kernel | omega)))).2, fun q => absurd q hv7, fun q => absurd q (by (first | decide +kernel | omega))⟩
                      have hz9 : z63Z = 1 := by have := p65; omega
                      refine V_iadd v14E z63E (by (first | decide +kernel | omega)) d_Mod_bedsBy_85 (fun z66 z66e z66E => ?_)
                      refine V_istore 4 [some (.ref 116), some (.int c), some (.int d), some (.int b), some (.int z66), some (.int v7), some (.int v15), some (.int 0)] d_Mod_bedsBy_86 (by decide) rfl rfl ?_
                      obtain ⟨z67, z67E, z67e⟩ : ∃ y : Int32, y.toInt = v15Z + 1 ∧ y = v15 + Int32.ofInt 1 := ⟨_, ti_add v15E (by decide) (by (first | decide +kernel | omega)), rfl⟩
                      refine V_iinc 6 [some (.ref 116), some (.int c), some (.int d), some (.int b), some (.int z66), some (.int v7), some (.int z67), some (.int 0)] d_Mod_bedsBy_88 rfl z67e.symm (by decide) rfl rfl ?_
                      refine V_goto 18 d_Mod_bedsBy_91 (by decide) ?_
                      refine V_drop 7 [some (.ref 116), some (.int c), some (.int d), some (.int b), some (.int z66), some (.int v7), some (.int z67), none] rfl ?_
                      exact ihL12 z66 ((v14Z + z63Z)) z67 ((v15Z + 1)) z66E z67E (by (first | decide +kernel | omega)) (by have q9 := (cnt_M (L := L) (f := (fun x t => (fB (fun i => h.1 117 i) (fun i => h.1 117 (64 + i)) (wZ * gZ)) x t ∧ ((inB t cZ.toNat ∧ x ≤ dZ) ↔ bZ = 1))) (by (first | decide +kernel | omega)) hcn).1 hp9; rw [hz9]; exact q9) (by (first | decide +kernel | omega))
                ·
                  refine V_iconst 1 d_Mod_bedsBy_46 (by decide) ?_
                  refine V_goto 51 d_Mod_bedsBy_47 (by decide) ?_
                  have hv7 : (inB t0 cZ.toNat ∧ v15Z ≤ dZ) := ⟨(hbit.resolve_right (fun q => absurd q.1 (by (first | decide +kernel | omega)))).2, by (first | decide +kernel | omega)⟩
                  refine V_istore 7 [some (.ref 116), some (.int c), some (.int d), some (.int b), some (.int v14), some (.int v7), some (.int v15), some (.int 1)] d_Mod_bedsBy_51 (by decide) rfl rfl ?_
                  refine V_iload d_Mod_bedsBy_53 rfl ?_
                  refine V_iload d_Mod_bedsBy_55 rfl ?_
                  refine V_iload_n 3 d_Mod_bedsBy_57 rfl rfl ?_
                  refine V_icmp_ne 81 tc_1 bE d_Mod_bedsBy_58 (by decide) (fun c68 => ?_) (fun c68 => ?_)
                  ·
                    refine V_iconst 0 d_Mod_bedsBy_81 (by decide) ?_
                    refine N_callSI [.int 0] [.int v14] cs_Mod_196 d_Mod_bedsBy_82 rfl (Nat.le_of_ble_eq_true rfl) (by decide) (by decide) (c_Mod_flag h 0 0 tc_0) (fun z69 h70 z69Z z69E p71 => ?_)
                    obtain ⟨eh70, p71⟩ := p71
                    subst eh70
                    have hp9 : ¬ ((fun x t => (fB (fun i => h.1 117 i) (fun i => h.1 117 (64 + i)) (wZ * gZ)) x t ∧ ((inB t cZ.toNat ∧ x ≤ dZ) ↔ bZ = 1)) v15Z t0) := fun q => absurd (q.2.mp hv7) (by (first | decide +kernel | omega))
                    have hz9 : z69Z = 0 := by have := p71; omega
                    refine V_iadd v14E z69E (by (first | decide +kernel | omega)) d_Mod_bedsBy_85 (fun z72 z72e z72E => ?_)
                    refine V_istore 4 [some (.ref 116), some (.int c), some (.int d), some (.int b), some (.int z72), some (.int v7), some (.int v15), some (.int 1)] d_Mod_bedsBy_86 (by decide) rfl rfl ?_
                    obtain ⟨z73, z73E, z73e⟩ : ∃ y : Int32, y.toInt = v15Z + 1 ∧ y = v15 + Int32.ofInt 1 := ⟨_, ti_add v15E (by decide) (by (first | decide +kernel | omega)), rfl⟩
                    refine V_iinc 6 [some (.ref 116), some (.int c), some (.int d), some (.int b), some (.int z72), some (.int v7), some (.int z73), some (.int 1)] d_Mod_bedsBy_88 rfl z73e.symm (by decide) rfl rfl ?_
                    refine V_goto 18 d_Mod_bedsBy_91 (by decide) ?_
                    refine V_drop 7 [some (.ref 116), some (.int c), some (.int d), some (.int b), some (.int z72), some (.int v7), some (.int z73), none] rfl ?_
                    exact ihL12 z72 ((v14Z + z69Z)) z73 ((v15Z + 1)) z72E z73E (by (first | decide +kernel | omega)) (by have q9 := (cnt_M (L := L) (f := (fun x t => (fB (fun i => h.1 117 i) (fun i => h.1 117 (64 + i)) (wZ * gZ)) x t ∧ ((inB t cZ.toNat ∧ x ≤ dZ) ↔ bZ = 1))) (by (first | decide +kernel | omega)) hcn).2 hp9; rw [hz9]; rw [Int.add_zero]; exact q9) (by (first | decide +kernel | omega))
                  ·
                    refine V_aload_n 0 d_Mod_bedsBy_61 rfl rfl ?_
                    refine V_aload_n 0 d_Mod_bedsBy_62 rfl rfl ?_
                    refine V_getR fa_Mod_35 sk_116 rfl d_Mod_bedsBy_63 ?_
                    refine V_iload d_Mod_bedsBy_66 rfl ?_
                    refine N_iald sk_125 v7E (by (first | decide +kernel | omega)) d_Mod_bedsBy_68 (fun z74 z74Z z74E z74e => ?_)
                    have hb2 : BP z74 (inB t0) := by rw [z74e]; exact hy0.1 _ t0 ht0
                    refine V_iload d_Mod_bedsBy_69 rfl ?_
                    refine N_callVI [.int z74, .int v15] [.int v14] cv_Mod_298 sk_116 rfl d_Mod_bedsBy_71 rfl (Nat.le_of_ble_eq_true rfl) (by decide) (by decide) (c_Mod_doesBedFitX h t0 hI z74 z74Z z74E v15 v15Z v15E w wZ wE wK g gZ gE gK hb2) (fun z75 h76 z75Z z75E p77 => ?_)
                    obtain ⟨eh76, p77⟩ := p77
                    subst eh76
                    have := twR_01 p77
                    have hff := twR_cg p77 (fM_fB (by (first | decide +kernel | omega)))
                    refine V_if_eq 81 z75E d_Mod_bedsBy_74 (by decide) (fun c78 => ?_) (fun c78 => ?_)
                    ·
                      refine V_iconst 0 d_Mod_bedsBy_81 (by decide) ?_
                      refine N_callSI [.int 0] [.int v14] cs_Mod_196 d_Mod_bedsBy_82 rfl (Nat.le_of_ble_eq_true rfl) (by decide) (by decide) (c_Mod_flag h 0 0 tc_0) (fun z79 h80 z79Z z79E p81 => ?_)
                      obtain ⟨eh80, p81⟩ := p81
                      subst eh80
                      have hp9 : ¬ ((fun x t => (fB (fun i => h.1 117 i) (fun i => h.1 117 (64 + i)) (wZ * gZ)) x t ∧ ((inB t cZ.toNat ∧ x ≤ dZ) ↔ bZ = 1)) v15Z t0) := fun q => (hff.resolve_left (fun q => absurd q.1 (by (first | decide +kernel | omega)))).2 q.1
                      have hz9 : z79Z = 0 := by have := p81; omega
                      refine V_iadd v14E z79E (by (first | decide +kernel | omega)) d_Mod_bedsBy_85 (fun z82 z82e z82E => ?_)
                      refine V_istore 4 [some (.ref 116), some (.int c), some (.int d), some (.int b), some (.int z82), some (.int v7), some (.int v15), some (.int 1)] d_Mod_bedsBy_86 (by decide) rfl rfl ?_
                      obtain ⟨z83, z83E, z83e⟩ : ∃ y : Int32, y.toInt = v15Z + 1 ∧ y = v15 + Int32.ofInt 1 := ⟨_, ti_add v15E (by decide) (by (first | decide +kernel | omega)), rfl⟩
                      refine V_iinc 6 [some (.ref 116), some (.int c), some (.int d), some (.int b), some (.int z82), some (.int v7), some (.int z83), some (.int 1)] d_Mod_bedsBy_88 rfl z83e.symm (by decide) rfl rfl ?_
                      refine V_goto 18 d_Mod_bedsBy_91 (by decide) ?_
                      refine V_drop 7 [some (.ref 116), some (.int c), some (.int d), some (.int b), some (.int z82), some (.int v7), some (.int z83), none] rfl ?_
                      exact ihL12 z82 ((v14Z + z79Z)) z83 ((v15Z + 1)) z82E z83E (by (first | decide +kernel | omega)) (by have q9 := (cnt_M (L := L) (f := (fun x t => (fB (fun i => h.1 117 i) (fun i => h.1 117 (64 + i)) (wZ * gZ)) x t ∧ ((inB t cZ.toNat ∧ x ≤ dZ) ↔ bZ = 1))) (by (first | decide +kernel | omega)) hcn).2 hp9; rw [hz9]; rw [Int.add_zero]; exact q9) (by (first | decide +kernel | omega))
                    ·
                      refine V_iconst 1 d_Mod_bedsBy_77 (by decide) ?_
                      refine V_goto 82 d_Mod_bedsBy_78 (by decide) ?_
                      refine N_callSI [.int 1] [.int v14] cs_Mod_196 d_Mod_bedsBy_82 rfl (Nat.le_of_ble_eq_true rfl) (by decide) (by decide) (c_Mod_flag h 1 1 tc_1) (fun z84 h85 z84Z z84E p86 => ?_)
                      obtain ⟨eh85, p86⟩ := p86
                      subst eh85
                      have hp9 : ((fun x t => (fB (fun i => h.1 117 i) (fun i => h.1 117 (64 + i)) (wZ * gZ)) x t ∧ ((inB t cZ.toNat ∧ x ≤ dZ) ↔ bZ = 1)) v15Z t0) := ⟨(hff.resolve_right (fun q => absurd q.1 (by (first | decide +kernel | omega)))).2, fun _ => by (first | decide +kernel | omega), fun _ => hv7⟩
                      have hz9 : z84Z = 1 := by have := p86; omega
                      refine V_iadd v14E z84E (by (first | decide +kernel | omega)) d_Mod_bedsBy_85 (fun z87 z87e z87E => ?_)
                      refine V_istore 4 [some (.ref 116), some (.int c), some (.int d), some (.int b), some (.int z87), some (.int v7), some (.int v15), some (.int 1)] d_Mod_bedsBy_86 (by decide) rfl rfl ?_
                      obtain ⟨z88, z88E, z88e⟩ : ∃ y : Int32, y.toInt = v15Z + 1 ∧ y = v15 + Int32.ofInt 1 := ⟨_, ti_add v15E (by decide) (by (first | decide +kernel | omega)), rfl⟩
                      refine V_iinc 6 [some (.ref 116), some (.int c), some (.int d), some (.int b), some (.int z87), some (.int v7), some (.int z88), some (.int 1)] d_Mod_bedsBy_88 rfl z88e.symm (by decide) rfl rfl ?_
                      refine V_goto 18 d_Mod_bedsBy_91 (by decide) ?_
                      refine V_drop 7 [some (.ref 116), some (.int c), some (.int d), some (.int b), some (.int z87), some (.int v7), some (.int z88), none] rfl ?_
                      exact ihL12 z87 ((v14Z + z84Z)) z88 ((v15Z + 1)) z87E z88E (by (first | decide +kernel | omega)) (by have q9 := (cnt_M (L := L) (f := (fun x t => (fB (fun i => h.1 117 i) (fun i => h.1 117 (64 + i)) (wZ * gZ)) x t ∧ ((inB t cZ.toNat ∧ x ≤ dZ) ↔ bZ = 1))) (by (first | decide +kernel | omega)) hcn).1 hp9; rw [hz9]; exact q9) (by (first | decide +kernel | omega))
        exact L12 (Int.toNat ((10 - 1 : Int) + 1)) v6 v6Z 1 1 v6E tc_1 (by (first | decide +kernel | omega)) (show v6Z = (cd (fun x t => (fB (fun i => h.1 117 i) (fun i => h.1 117 (64 + i)) (wZ * gZ)) x t ∧ ((inB t cZ.toNat ∧ x ≤ dZ) ↔ bZ = 1)) (L.take (v7Z).toNat) 9 + 0 : Nat) from by assumption) (by (first | decide +kernel | omega))
  exact L4 (Int.toNat ((48 - 0 : Int) + 1)) 0 0 0 0 tc_0 tc_0 (by (first | decide +kernel | omega)) rfl (by (first | decide +kernel | omega))
def S_Mod_next_X : List (Nat × Option Nat) := [(125, none), (116, some 28)]
abbrev q_Mod_next_X (h : Hp) (d : Int32) (dZ : Int) (a : Int32) (aZ : Int) (w : Int32) (wZ : Int) (g : Int32) (gZ : Int) : Option Value → Hp → Prop := pInt (fun r h' => Inv h' ∧ fr S_Mod_next_X h h' ∧ (TSa ((1 ≤ dZ ∧ dZ ≤ 9) ∧ (aZ = 0 ∨ aZ = 1)) r (tsr (nx (fun i => (h.1 117 (64 + i)).toInt) dZ (wM (fB (fun i => h.1 117 i) (fun i => h.1 117 (64 + i)) (wZ * gZ)) (mlL wZ.toNat gZ.toNat (wZ * gZ).toNat) dZ) ((cd (fun x t => (fB (fun i => h.1 117 i) (fun i => h.1 117 (64 + i)) (wZ * gZ)) x t ∧ (inB t 0 ∧ x ≤ dZ)) (mlL wZ.toNat gZ.toNat (wZ * gZ).toNat) 9 : Nat) + (cd (fun x t => (fB (fun i => h.1 117 i) (fun i => h.1 117 (64 + i)) (wZ * gZ)) x t ∧ ¬ (inB t 0 ∧ x ≤ dZ)) (mlL wZ.toNat gZ.toNat (wZ * gZ).toNat) 9 : Nat) : Int) (wZ * gZ).toNat) aZ)))
set_option maxRecDepth 100000 in
theorem c_Mod_next_X (h : Hp) (hI : Inv h) (d : Int32) (dZ : Int) (dE : d.toInt = dZ) (a : Int32) (aZ : Int) (aE : a.toInt = aZ) (w : Int32) (wZ : Int) (wE : w.toInt = wZ) (wK : h.1 116 2 = w) (g : Int32) (gZ : Int) (gE : g.toInt = gZ) (gK : h.1 116 3 = g) : Ct y_Mod_next_ b_Mod_next_ 9 (some .int) 4 94 [.ref 116, .int d, .int a] h (q_Mod_next_X h d dZ a aZ w wZ g gZ) := by
  refine ct_ow R_Mod [some (.ref 116), some (.int d), some (.int a), none, none, none, none, none, none] rfl (by decide) rfl (Nat.le_of_ble_eq_true rfl) ?_
  have f0 : fr S_Mod_next_X h h := fr_rf
  have g1 : 2 ≤ wZ ∧ wZ ≤ 4 := inv_at hI wE wK.symm rfl
  have g2 : 2 ≤ gZ ∧ gZ ≤ 4 := inv_at hI gE gK.symm rfl
  have m24 := mul24 (A := wZ) (B := gZ) (by (first | decide +kernel | omega)) (by (first | decide +kernel | omega))
  have hl9 := ml_48 (w := wZ) (g := gZ) (by (first | decide +kernel | omega)) (by (first | decide +kernel | omega))
  refine V_iload_n 1 d_Mod_next__0 rfl rfl ?_
  refine V_i2l d_Mod_next__1 (fun z3 z3e z3E => ?_)
  have z3F : z3.toInt = dZ := z3E.trans dE
  refine V_lconst 1 d_Mod_next__2 (by decide) ?_
  refine V_ldc2 d_Mod_next__3 wl_Mod_208 ?_
  refine N_callSI [.long z3, .long 1, .long 9] [] cs_Mod_95 d_Mod_next__6 rfl (Nat.le_of_ble_eq_true rfl) (by decide) (by decide) (c_Mod_in h z3 dZ z3F 1 1 tl_1 9 9 tl_9) (fun z4 h5 z4Z z4E p6 => ?_)
  obtain ⟨eh5, p6⟩ := p6
  subst eh5
  refine V_if_eq 22 z4E d_Mod_next__9 (by decide) (fun c7 => ?_) (fun c7 => ?_)
  ·
    refine V_iconst (-1) d_Mod_next__22 (by decide) ?_
    exact V_iret rfl d_Mod_next__23 ⟨(-1), rfl, ⟨hI, f0, (Or.inr ⟨by (first | decide +kernel | omega), tc_m1⟩)⟩⟩
  ·
    refine V_iload_n 2 d_Mod_next__12 rfl rfl ?_
    refine V_i2l d_Mod_next__13 (fun z8 z8e z8E => ?_)
    have z8F : z8.toInt = aZ := z8E.trans aE
    refine V_lconst 0 d_Mod_next__14 (by decide) ?_
    refine V_lconst 1 d_Mod_next__15 (by decide) ?_
    refine N_callSI [.long z8, .long 0, .long 1] [] cs_Mod_95 d_Mod_next__16 rfl (Nat.le_of_ble_eq_true rfl) (by decide) (by decide) (c_Mod_in h z8 aZ z8F 0 0 tl_0 1 1 tl_1) (fun z9 h10 z9Z z9E p11 => ?_)
    obtain ⟨eh10, p11⟩ := p11
    subst eh10
    refine V_if_ne 24 z9E d_Mod_next__19 (by decide) (fun c12 => ?_) (fun c12 => ?_)
    ·
      refine V_aload_n 0 d_Mod_next__24 rfl rfl ?_
      refine N_callVV [] [] cv_Mod_295 sk_116 rfl d_Mod_next__25 rfl (Nat.le_of_ble_eq_true rfl) (by decide) (by decide) (c_Mod_findBedsX h hI w wZ wE wK g gZ gE gK) (fun h14 p15 => ?_)
      obtain ⟨hI16, fh14, p15⟩ := p15
      have f17 : fr S_Mod_next_X h h14 := fr_call f0 fh14 rfl
      refine V_aload_n 0 d_Mod_next__28 rfl rfl ?_
      refine V_iconst 0 d_Mod_next__29 (by decide) ?_
      refine V_iload_n 1 d_Mod_next__30 rfl rfl ?_
      refine V_iconst 1 d_Mod_next__31 (by decide) ?_
      obtain ⟨z18, z18Z, z18E, z18e⟩ : ∃ (y : Int32) (Y : Int), y.toInt = Y ∧ y = h14.1 116 28 := ⟨_, _, rfl, rfl⟩
      have g19 : 0 ≤ z18Z ∧ z18Z ≤ 48 := inv_at hI16 z18E z18e rfl
      refine N_callVI [.int 0, .int d, .int 1] [] cv_Mod_301 sk_116 rfl d_Mod_next__32 rfl (Nat.le_of_ble_eq_true rfl) (by decide) (by decide) (c_Mod_bedsByX h14 (mlL wZ.toNat gZ.toNat (wZ * gZ).toNat) hI16 0 0 tc_0 d dZ dE 1 1 tc_1 w wZ wE (kn_call fh14 wK rfl) g gZ gE (kn_call fh14 gK rfl) z18 z18Z z18E z18e.symm p15 hl9.2 (by (first | decide +kernel | omega)) (by (first | decide +kernel | omega)) (by (first | decide +kernel | omega))) (fun z20 h21 z20Z z20E p22 => ?_)
      obtain ⟨eh21, p22⟩ := p22
      subst eh21
      have ha01 : z20Z = (cd (fun x t => (fB (fun i => h.1 117 i) (fun i => h.1 117 (64 + i)) (wZ * gZ)) x t ∧ (inB t 0 ∧ x ≤ dZ)) (mlL wZ.toNat gZ.toNat (wZ * gZ).toNat) 9 : Nat) := by have q9 := p22.1; rw [show h14.1 117 = h.1 117 from funext (fun i => f17.1 117 i rfl), by_1 rfl] at q9; exact z20E.symm.trans q9
      have := p22.2
      refine V_aload_n 0 d_Mod_next__35 rfl rfl ?_
      refine V_iconst 0 d_Mod_next__36 (by decide) ?_
      refine V_iload_n 1 d_Mod_next__37 rfl rfl ?_
      refine V_iconst 0 d_Mod_next__38 (by decide) ?_
      refine N_callVI [.int 0, .int d, .int 0] [.int z20] cv_Mod_301 sk_116 rfl d_Mod_next__39 rfl (Nat.le_of_ble_eq_true rfl) (by decide) (by decide) (c_Mod_bedsByX h14 (mlL wZ.toNat gZ.toNat (wZ * gZ).toNat) hI16 0 0 tc_0 d dZ dE 0 0 tc_0 w wZ wE (kn_call fh14 wK rfl) g gZ gE (kn_call fh14 gK rfl) z18 z18Z z18E z18e.symm p15 hl9.2 (by (first | decide +kernel | omega)) (by (first | decide +kernel | omega)) (by (first | decide +kernel | omega))) (fun z23 h24 z23Z z23E p25 => ?_)
      obtain ⟨eh24, p25⟩ := p25
      subst eh24
      have ha00 : z23Z = (cd (fun x t => (fB (fun i => h.1 117 i) (fun i => h.1 117 (64 + i)) (wZ * gZ)) x t ∧ ¬ (inB t 0 ∧ x ≤ dZ)) (mlL wZ.toNat gZ.toNat (wZ * gZ).toNat) 9 : Nat) := by have q9 := p25.1; rw [show h14.1 117 = h.1 117 from funext (fun i => f17.1 117 i rfl), by_0 rfl] at q9; exact z23E.symm.trans q9
      have := p25.2
      refine V_iadd z20E z23E (by (first | decide +kernel | omega)) d_Mod_next__42 (fun z26 z26e z26E => ?_)
      have hf0 : (z20Z + z23Z) = ((cd (fun x t => (fB (fun i => h.1 117 i) (fun i => h.1 117 (64 + i)) (wZ * gZ)) x t ∧ (inB t 0 ∧ x ≤ dZ)) (mlL wZ.toNat gZ.toNat (wZ * gZ).toNat) 9 : Nat) + (cd (fun x t => (fB (fun i => h.1 117 i) (fun i => h.1 117 (64 + i)) (wZ * gZ)) x t ∧ ¬ (inB t 0 ∧ x ≤ dZ)) (mlL wZ.toNat gZ.toNat (wZ * gZ).toNat) 9 : Nat) : Int) := by rw [ha01, ha00]
      refine V_istore_n 3 [some (.ref 116), some (.int d), some (.int a), some (.int z26), none, none, none, none, none] d_Mod_next__43 rfl (by decide) rfl rfl ?_
      refine V_bipush (-4) d_Mod_next__44 (by decide) ?_
      refine V_istore 4 [some (.ref 116), some (.int d), some (.int a), some (.int z26), some (.int (-4)), none, none, none, none] d_Mod_next__46 (by decide) rfl rfl ?_
      refine V_iconst 0 d_Mod_next__48 (by decide) ?_
      refine V_istore 5 [some (.ref 116), some (.int d), some (.int a), some (.int z26), some (.int (-4)), some (.int 0), none, none, none] d_Mod_next__49 (by decide) rfl rfl ?_
      have L27 : ∀ (nn : Nat) (v29 : Int32) (v29Z : Int) (v30 : Int32) (v30Z : Int) (v31 : Int32) (v31Z : Int), v29.toInt = v29Z → v30.toInt = v30Z → v31.toInt = v31Z → 0 ≤ v31Z ∧ v31Z ≤ wZ * gZ → v29Z = (nx (fun i => (h.1 117 (64 + i)).toInt) dZ (wM (fB (fun i => h.1 117 i) (fun i => h.1 117 (64 + i)) (wZ * gZ)) (mlL wZ.toNat gZ.toNat (wZ * gZ).toNat) dZ) ((cd (fun x t => (fB (fun i => h.1 117 i) (fun i => h.1 117 (64 + i)) (wZ * gZ)) x t ∧ (inB t 0 ∧ x ≤ dZ)) (mlL wZ.toNat gZ.toNat (wZ * gZ).toNat) 9 : Nat) + (cd (fun x t => (fB (fun i => h.1 117 i) (fun i => h.1 117 (64 + i)) (wZ * gZ)) x t ∧ ¬ (inB t 0 ∧ x ≤ dZ)) (mlL wZ.toNat gZ.toNat (wZ * gZ).toNat) 9 : Nat) : Int) (v31Z).toNat).1 → v30Z = (nx (fun i => (h.1 117 (64 + i)).toInt) dZ (wM (fB (fun i => h.1 117 i) (fun i => h.1 117 (64 + i)) (wZ * gZ)) (mlL wZ.toNat gZ.toNat (wZ * gZ).toNat) dZ) ((cd (fun x t => (fB (fun i => h.1 117 i) (fun i => h.1 117 (64 + i)) (wZ * gZ)) x t ∧ (inB t 0 ∧ x ≤ dZ)) (mlL wZ.toNat gZ.toNat (wZ * gZ).toNat) 9 : Nat) + (cd (fun x t => (fB (fun i => h.1 117 i) (fun i => h.1 117 (64 + i)) (wZ * gZ)) x t ∧ ¬ (inB t 0 ∧ x ≤ dZ)) (mlL wZ.toNat gZ.toNat (wZ * gZ).toNat) 9 : Nat) : Int) (v31Z).toNat).2 → 16 - v31Z < (nn : Int) → V R_Mod b_Mod_next_ 9 (some .int) 4 94 (q_Mod_next_X h d dZ a aZ w wZ g gZ) h14 51 [some (.ref 116), some (.int d), some (.int a), some (.int v29), some (.int v30), some (.int v31), none, none, none] [] := by
        intro nn
        induction nn with
        | zero => intro v29 v29Z v30 v30Z v31 v31Z v29E v30E v31E q32 q33 q34 hm35; exact absurd hm35 (by (first | decide +kernel | omega))
        | succ nn ihL27 =>
          intro v29 v29Z v30 v30Z v31 v31Z v29E v30E v31E q32 q33 q34 hm35
          refine V_iload d_Mod_next__51 rfl ?_
          refine V_aload_n 0 d_Mod_next__53 rfl rfl ?_
          refine N_callVI [] [.int v31] cv_Mod_183 sk_116 rfl d_Mod_next__54 rfl (Nat.le_of_ble_eq_true rfl) (by decide) (by decide) (c_Mod_cellMany h14 hI16 w wZ wE (kn_call fh14 wK rfl) g gZ gE (kn_call fh14 gK rfl)) (fun z36 h37 z36Z z36E p38 => ?_)
          obtain ⟨eh37, p38⟩ := p38
          subst eh37
          refine V_icmp_ge 144 v31E z36E d_Mod_next__57 (by decide) (fun c39 => ?_) (fun c39 => ?_)
          ·
            refine V_iload d_Mod_next__144 rfl ?_
            refine V_bipush (-4) d_Mod_next__146 (by decide) ?_
            refine V_icmp_ne 156 v30E tc_m4 d_Mod_next__148 (by decide) (fun c40 => ?_) (fun c40 => ?_)
            ·
              refine V_iload_n 2 d_Mod_next__156 rfl rfl ?_
              refine V_if_ne 165 aE d_Mod_next__157 (by decide) (fun c41 => ?_) (fun c41 => ?_)
              ·
                refine V_iload_n 3 d_Mod_next__165 rfl rfl ?_
                exact V_iret rfl d_Mod_next__166 ⟨v29, rfl, ⟨hI16, f17, (Or.inl ⟨by (first | decide +kernel | omega), tsr_1 (A := v29Z) (B := v30Z) (by have q9 : v29Z = (nx (fun i => (h.1 117 (64 + i)).toInt) dZ (wM (fB (fun i => h.1 117 i) (fun i => h.1 117 (64 + i)) (wZ * gZ)) (mlL wZ.toNat gZ.toNat (wZ * gZ).toNat) dZ) ((cd (fun x t => (fB (fun i => h.1 117 i) (fun i => h.1 117 (64 + i)) (wZ * gZ)) x t ∧ (inB t 0 ∧ x ≤ dZ)) (mlL wZ.toNat gZ.toNat (wZ * gZ).toNat) 9 : Nat) + (cd (fun x t => (fB (fun i => h.1 117 i) (fun i => h.1 117 (64 + i)) (wZ * gZ)) x t ∧ ¬ (inB t 0 ∧ x ≤ dZ)) (mlL wZ.toNat gZ.toNat (wZ * gZ).toNat) 9 : Nat) : Int) (v31Z).toNat).1 := (by assumption); rw [show (v31Z).toNat = (wZ * gZ).toNat by (first | decide +kernel | omega)] at q9; exact q9) (by have q9 : v30Z = (nx (fun i => (h.1 117 (64 + i)).toInt) dZ (wM (fB (fun i => h.1 117 i) (fun i => h.1 117 (64 + i)) (wZ * gZ)) (mlL wZ.toNat gZ.toNat (wZ * gZ).toNat) dZ) ((cd (fun x t => (fB (fun i => h.1 117 i) (fun i => h.1 117 (64 + i)) (wZ * gZ)) x t ∧ (inB t 0 ∧ x ≤ dZ)) (mlL wZ.toNat gZ.toNat (wZ * gZ).toNat) 9 : Nat) + (cd (fun x t => (fB (fun i => h.1 117 i) (fun i => h.1 117 (64 + i)) (wZ * gZ)) x t ∧ ¬ (inB t 0 ∧ x ≤ dZ)) (mlL wZ.toNat gZ.toNat (wZ * gZ).toNat) 9 : Nat) : Int) (v31Z).toNat).2 := (by assumption); rw [show (v31Z).toNat = (wZ * gZ).toNat by (first | decide +kernel | omega)] at q9; exact q9) (by (try rw [v29E]); omega)⟩)⟩⟩
              ·
                refine V_iload d_Mod_next__160 rfl ?_
                refine V_goto 166 d_Mod_next__162 (by decide) ?_
                exact V_iret rfl d_Mod_next__166 ⟨v30, rfl, ⟨hI16, f17, (Or.inl ⟨by (first | decide +kernel | omega), tsr_1 (A := v29Z) (B := v30Z) (by have q9 : v29Z = (nx (fun i => (h.1 117 (64 + i)).toInt) dZ (wM (fB (fun i => h.1 117 i) (fun i => h.1 117 (64 + i)) (wZ * gZ)) (mlL wZ.toNat gZ.toNat (wZ * gZ).toNat) dZ) ((cd (fun x t => (fB (fun i => h.1 117 i) (fun i => h.1 117 (64 + i)) (wZ * gZ)) x t ∧ (inB t 0 ∧ x ≤ dZ)) (mlL wZ.toNat gZ.toNat (wZ * gZ).toNat) 9 : Nat) + (cd (fun x t => (fB (fun i => h.1 117 i) (fun i => h.1 117 (64 + i)) (wZ * gZ)) x t ∧ ¬ (inB t 0 ∧ x ≤ dZ)) (mlL wZ.toNat gZ.toNat (wZ * gZ).toNat) 9 : Nat) : Int) (v31Z).toNat).1 := (by assumption); rw [show (v31Z).toNat = (wZ * gZ).toNat by (first | decide +kernel | omega)] at q9; exact q9) (by have q9 : v30Z = (nx (fun i => (h.1 117 (64 + i)).toInt) dZ (wM (fB (fun i => h.1 117 i) (fun i => h.1 117 (64 + i)) (wZ * gZ)) (mlL wZ.toNat gZ.toNat (wZ * gZ).toNat) dZ) ((cd (fun x t => (fB (fun i => h.1 117 i) (fun i => h.1 117 (64 + i)) (wZ * gZ)) x t ∧ (inB t 0 ∧ x ≤ dZ)) (mlL wZ.toNat gZ.toNat (wZ * gZ).toNat) 9 : Nat) + (cd (fun x t => (fB (fun i => h.1 117 i) (fun i => h.1 117 (64 + i)) (wZ * gZ)) x t ∧ ¬ (inB t 0 ∧ x ≤ dZ)) (mlL wZ.toNat gZ.toNat (wZ * gZ).toNat) 9 : Nat) : Int) (v31Z).toNat).2 := (by assumption); rw [show (v31Z).toNat = (wZ * gZ).toNat by (first | decide +kernel | omega)] at q9; exact q9) (by (try rw [v30E]); omega)⟩)⟩⟩
            ·
              refine V_bipush (-4) d_Mod_next__151 (by decide) ?_
              refine V_goto 166 d_Mod_next__153 (by decide) ?_
              exact V_iret rfl d_Mod_next__166 ⟨(-4), rfl, ⟨hI16, f17, (Or.inl ⟨by (first | decide +kernel | omega), tsr_1 (A := v29Z) (B := v30Z) (by have q9 : v29Z = (nx (fun i => (h.1 117 (64 + i)).toInt) dZ (wM (fB (fun i => h.1 117 i) (fun i => h.1 117 (64 + i)) (wZ * gZ)) (mlL wZ.toNat gZ.toNat (wZ * gZ).toNat) dZ) ((cd (fun x t => (fB (fun i => h.1 117 i) (fun i => h.1 117 (64 + i)) (wZ * gZ)) x t ∧ (inB t 0 ∧ x ≤ dZ)) (mlL wZ.toNat gZ.toNat (wZ * gZ).toNat) 9 : Nat) + (cd (fun x t => (fB (fun i => h.1 117 i) (fun i => h.1 117 (64 + i)) (wZ * gZ)) x t ∧ ¬ (inB t 0 ∧ x ≤ dZ)) (mlL wZ.toNat gZ.toNat (wZ * gZ).toNat) 9 : Nat) : Int) (v31Z).toNat).1 := (by assumption); rw [show (v31Z).toNat = (wZ * gZ).toNat by (first | decide +kernel | omega)] at q9; exact q9) (by have q9 : v30Z = (nx (fun i => (h.1 117 (64 + i)).toInt) dZ (wM (fB (fun i => h.1 117 i) (fun i => h.1 117 (64 + i)) (wZ * gZ)) (mlL wZ.toNat gZ.toNat (wZ * gZ).toNat) dZ) ((cd (fun x t => (fB (fun i => h.1 117 i) (fun i => h.1 117 (64 + i)) (wZ * gZ)) x t ∧ (inB t 0 ∧ x ≤ dZ)) (mlL wZ.toNat gZ.toNat (wZ * gZ).toNat) 9 : Nat) + (cd (fun x t => (fB (fun i => h.1 117 i) (fun i => h.1 117 (64 + i)) (wZ * gZ)) x t ∧ ¬ (inB t 0 ∧ x ≤ dZ)) (mlL wZ.toNat gZ.toNat (wZ * gZ).toNat) 9 : Nat) : Int) (v31Z).toNat).2 := (by assumption); rw [show (v31Z).toNat = (wZ * gZ).toNat by (first | decide +kernel | omega)] at q9; exact q9) (by (try rw [tc_m4]); omega)⟩)⟩⟩
          ·
            refine V_aload_n 0 d_Mod_next__60 rfl rfl ?_
            refine V_getR fa_Mod_7 sk_116 rfl d_Mod_next__61 ?_
            refine V_bipush 64 d_Mod_next__64 (by decide) ?_
            refine V_iload d_Mod_next__66 rfl ?_
            refine V_iadd tc_64 v31E (by (first | decide +kernel | omega)) d_Mod_next__68 (fun z42 z42e z42E => ?_)
            refine N_iald sk_117 z42E (by (first | decide +kernel | omega)) d_Mod_next__69 (fun z43 z43Z z43E z43e => ?_)
            have hbo : z43Z = (h.1 117 (64 + (v31Z).toNat)).toInt := by rw [← z43E, z43e, f17.1 117 _ rfl, show 64 + (v31Z).toNat = (64 + v31Z).toNat by (first | decide +kernel | omega)]
            refine V_iload_n 1 d_Mod_next__70 rfl rfl ?_
            refine V_icmp_ge 138 z43E dE d_Mod_next__71 (by decide) (fun c44 => ?_) (fun c44 => ?_)
            ·
              have hs9 := nx_n (b := fun i => (h.1 117 (64 + i)).toInt) (d := dZ) (w := wM (fB (fun i => h.1 117 i) (fun i => h.1 117 (64 + i)) (wZ * gZ)) (mlL wZ.toNat gZ.toNat (wZ * gZ).toNat) dZ) (f0 := ((cd (fun x t => (fB (fun i => h.1 117 i) (fun i => h.1 117 (64 + i)) (wZ * gZ)) x t ∧ (inB t 0 ∧ x ≤ dZ)) (mlL wZ.toNat gZ.toNat (wZ * gZ).toNat) 9 : Nat) + (cd (fun x t => (fB (fun i => h.1 117 i) (fun i => h.1 117 (64 + i)) (wZ * gZ)) x t ∧ ¬ (inB t 0 ∧ x ≤ dZ)) (mlL wZ.toNat gZ.toNat (wZ * gZ).toNat) 9 : Nat) : Int)) (C := v31Z) (by (first | decide +kernel | omega)) (by assumption) (by assumption) (by show ¬ ((h.1 117 (64 + (v31Z).toNat)).toInt < dZ ∧ _); omega)
              obtain ⟨z45, z45E, z45e⟩ : ∃ y : Int32, y.toInt = v31Z + 1 ∧ y = v31 + Int32.ofInt 1 := ⟨_, ti_add v31E (by decide) (by (first | decide +kernel | omega)), rfl⟩
              refine V_iinc 5 [some (.ref 116), some (.int d), some (.int a), some (.int v29), some (.int v30), some (.int z45), none, none, none] d_Mod_next__138 rfl z45e.symm (by decide) rfl rfl ?_
              refine V_goto 51 d_Mod_next__141 (by decide) ?_
              exact ihL27 v29 v29Z v30 v30Z z45 ((v31Z + 1)) v29E v30E z45E (by (first | decide +kernel | omega)) hs9.1 hs9.2 (by (first | decide +kernel | omega))
            ·
              refine V_aload_n 0 d_Mod_next__74 rfl rfl ?_
              refine V_iload d_Mod_next__75 rfl ?_
              refine V_iload_n 1 d_Mod_next__77 rfl rfl ?_
              refine V_iconst 1 d_Mod_next__78 (by decide) ?_
              refine N_callVI [.int v31, .int d, .int 1] [] cv_Mod_301 sk_116 rfl d_Mod_next__79 rfl (Nat.le_of_ble_eq_true rfl) (by decide) (by decide) (c_Mod_bedsByX h14 (mlL wZ.toNat gZ.toNat (wZ * gZ).toNat) hI16 v31 v31Z v31E d dZ dE 1 1 tc_1 w wZ wE (kn_call fh14 wK rfl) g gZ gE (kn_call fh14 gK rfl) z18 z18Z z18E z18e.symm p15 hl9.2 (by (first | decide +kernel | omega)) (by (first | decide +kernel | omega)) (by (first | decide +kernel | omega))) (fun z46 h47 z46Z z46E p48 => ?_)
              obtain ⟨eh47, p48⟩ := p48
              subst eh47
              have hb1 : z46Z = (cd (fun x t => (fB (fun i => h.1 117 i) (fun i => h.1 117 (64 + i)) (wZ * gZ)) x t ∧ (inB t (v31Z).toNat ∧ x ≤ dZ)) (mlL wZ.toNat gZ.toNat (wZ * gZ).toNat) 9 : Nat) := by have q9 := p48.1; rw [show h14.1 117 = h.1 117 from funext (fun i => f17.1 117 i rfl), by_1 rfl] at q9; exact z46E.symm.trans q9
              have := p48.2
              refine V_istore 6 [some (.ref 116), some (.int d), some (.int a), some (.int v29), some (.int v30), some (.int v31), some (.int z46), none, none] d_Mod_next__82 (by decide) rfl rfl ?_
              refine V_aload_n 0 d_Mod_next__84 rfl rfl ?_
              refine V_iload d_Mod_next__85 rfl ?_
              refine V_iload_n 1 d_Mod_next__87 rfl rfl ?_
              refine V_iconst 0 d_Mod_next__88 (by decide) ?_
              refine N_callVI [.int v31, .int d, .int 0] [] cv_Mod_301 sk_116 rfl d_Mod_next__89 rfl (Nat.le_of_ble_eq_true rfl) (by decide) (by decide) (c_Mod_bedsByX h14 (mlL wZ.toNat gZ.toNat (wZ * gZ).toNat) hI16 v31 v31Z v31E d dZ dE 0 0 tc_0 w wZ wE (kn_call fh14 wK rfl) g gZ gE (kn_call fh14 gK rfl) z18 z18Z z18E z18e.symm p15 hl9.2 (by (first | decide +kernel | omega)) (by (first | decide +kernel | omega)) (by (first | decide +kernel | omega))) (fun z49 h50 z49Z z49E p51 => ?_)
              obtain ⟨eh50, p51⟩ := p51
              subst eh50
              have hb0 : z49Z = (cd (fun x t => (fB (fun i => h.1 117 i) (fun i => h.1 117 (64 + i)) (wZ * gZ)) x t ∧ ¬ (inB t (v31Z).toNat ∧ x ≤ dZ)) (mlL wZ.toNat gZ.toNat (wZ * gZ).toNat) 9 : Nat) := by have q9 := p51.1; rw [show h14.1 117 = h.1 117 from funext (fun i => f17.1 117 i rfl), by_0 rfl] at q9; exact z49E.symm.trans q9
              have := p51.2
              refine V_istore 7 [some (.ref 116), some (.int d), some (.int a), some (.int v29), some (.int v30), some (.int v31), some (.int z46), some (.int z49), none] d_Mod_next__92 (by decide) rfl rfl ?_
              refine V_iload d_Mod_next__94 rfl ?_
              refine V_iload d_Mod_next__96 rfl ?_
              refine V_icmp_le 106 z46E z49E d_Mod_next__98 (by decide) (fun c52 => ?_) (fun c52 => ?_)
              ·
                refine V_iload d_Mod_next__106 rfl ?_
                refine V_istore 8 [some (.ref 116), some (.int d), some (.int a), some (.int v29), some (.int v30), some (.int v31), some (.int z46), some (.int z49), some (.int z49)] d_Mod_next__108 (by decide) rfl rfl ?_
                have hx9 : z49Z = wM (fB (fun i => h.1 117 i) (fun i => h.1 117 (64 + i)) (wZ * gZ)) (mlL wZ.toNat gZ.toNat (wZ * gZ).toNat) dZ (v31Z).toNat := by unfold wM; rw [← hb1, ← hb0]; exact mx2_1 (by (first | decide +kernel | omega))
                refine V_iload d_Mod_next__110 rfl ?_
                refine V_iload_n 3 d_Mod_next__112 rfl rfl ?_
                refine V_icmp_ge 121 z49E v29E d_Mod_next__113 (by decide) (fun c53 => ?_) (fun c53 => ?_)
                ·
                  refine V_iload d_Mod_next__121 rfl ?_
                  refine V_istore 4 [some (.ref 116), some (.int d), some (.int a), some (.int v29), some (.int v30), some (.int v31), some (.int z46), some (.int z49), some (.int z49)] d_Mod_next__123 (by decide) rfl rfl ?_
                  refine V_iload d_Mod_next__125 rfl ?_
                  refine V_iload_n 3 d_Mod_next__127 rfl rfl ?_
                  refine V_icmp_ge 136 z49E v29E d_Mod_next__128 (by decide) (fun c54 => ?_) (fun c54 => ?_)
                  ·
                    refine V_iload_n 3 d_Mod_next__136 rfl rfl ?_
                    refine V_istore_n 3 [some (.ref 116), some (.int d), some (.int a), some (.int v29), some (.int v30), some (.int v31), some (.int z46), some (.int z49), some (.int z49)] d_Mod_next__137 rfl (by decide) rfl rfl ?_
                    have hs9 := nx_n (b := fun i => (h.1 117 (64 + i)).toInt) (d := dZ) (w := wM (fB (fun i => h.1 117 i) (fun i => h.1 117 (64 + i)) (wZ * gZ)) (mlL wZ.toNat gZ.toNat (wZ * gZ).toNat) dZ) (f0 := ((cd (fun x t => (fB (fun i => h.1 117 i) (fun i => h.1 117 (64 + i)) (wZ * gZ)) x t ∧ (inB t 0 ∧ x ≤ dZ)) (mlL wZ.toNat gZ.toNat (wZ * gZ).toNat) 9 : Nat) + (cd (fun x t => (fB (fun i => h.1 117 i) (fun i => h.1 117 (64 + i)) (wZ * gZ)) x t ∧ ¬ (inB t 0 ∧ x ≤ dZ)) (mlL wZ.toNat gZ.toNat (wZ * gZ).toNat) 9 : Nat) : Int)) (C := v31Z) (by (first | decide +kernel | omega)) (by assumption) (by assumption) (by rw [← hx9]; omega)
                    obtain ⟨z55, z55E, z55e⟩ : ∃ y : Int32, y.toInt = v31Z + 1 ∧ y = v31 + Int32.ofInt 1 := ⟨_, ti_add v31E (by decide) (by (first | decide +kernel | omega)), rfl⟩
                    refine V_iinc 5 [some (.ref 116), some (.int d), some (.int a), some (.int v29), some (.int v30), some (.int z55), some (.int z46), some (.int z49), some (.int z49)] d_Mod_next__138 rfl z55e.symm (by decide) rfl rfl ?_
                    refine V_goto 51 d_Mod_next__141 (by decide) ?_
                    refine V_drop 6 [some (.ref 116), some (.int d), some (.int a), some (.int v29), some (.int v30), some (.int z55), none, some (.int z49), some (.int z49)] rfl ?_
                    refine V_drop 7 [some (.ref 116), some (.int d), some (.int a), some (.int v29), some (.int v30), some (.int z55), none, none, some (.int z49)] rfl ?_
                    refine V_drop 8 [some (.ref 116), some (.int d), some (.int a), some (.int v29), some (.int v30), some (.int z55), none, none, none] rfl ?_
                    exact ihL27 v29 v29Z v30 v30Z z55 ((v31Z + 1)) v29E v30E z55E (by (first | decide +kernel | omega)) hs9.1 hs9.2 (by (first | decide +kernel | omega))
                  ·
                    exact absurd c54 (by (first | decide +kernel | omega))
                ·
                  refine V_iload d_Mod_next__116 rfl ?_
                  refine V_goto 123 d_Mod_next__118 (by decide) ?_
                  refine V_istore 4 [some (.ref 116), some (.int d), some (.int a), some (.int v29), some (.int v31), some (.int v31), some (.int z46), some (.int z49), some (.int z49)] d_Mod_next__123 (by decide) rfl rfl ?_
                  refine V_iload d_Mod_next__125 rfl ?_
                  refine V_iload_n 3 d_Mod_next__127 rfl rfl ?_
                  refine V_icmp_ge 136 z49E v29E d_Mod_next__128 (by decide) (fun c56 => ?_) (fun c56 => ?_)
                  ·
                    exact absurd c56 (by (first | decide +kernel | omega))
                  ·
                    refine V_iload d_Mod_next__131 rfl ?_
                    refine V_goto 137 d_Mod_next__133 (by decide) ?_
                    refine V_istore_n 3 [some (.ref 116), some (.int d), some (.int a), some (.int z49), some (.int v31), some (.int v31), some (.int z46), some (.int z49), some (.int z49)] d_Mod_next__137 rfl (by decide) rfl rfl ?_
                    have hs9 := nx_y (b := fun i => (h.1 117 (64 + i)).toInt) (d := dZ) (w := wM (fB (fun i => h.1 117 i) (fun i => h.1 117 (64 + i)) (wZ * gZ)) (mlL wZ.toNat gZ.toNat (wZ * gZ).toNat) dZ) (f0 := ((cd (fun x t => (fB (fun i => h.1 117 i) (fun i => h.1 117 (64 + i)) (wZ * gZ)) x t ∧ (inB t 0 ∧ x ≤ dZ)) (mlL wZ.toNat gZ.toNat (wZ * gZ).toNat) 9 : Nat) + (cd (fun x t => (fB (fun i => h.1 117 i) (fun i => h.1 117 (64 + i)) (wZ * gZ)) x t ∧ ¬ (inB t 0 ∧ x ≤ dZ)) (mlL wZ.toNat gZ.toNat (wZ * gZ).toNat) 9 : Nat) : Int)) (C := v31Z) (by (first | decide +kernel | omega)) (by show (h.1 117 (64 + (v31Z).toNat)).toInt < dZ; omega) (by assumption) hx9 (by (first | decide +kernel | omega))
                    obtain ⟨z57, z57E, z57e⟩ : ∃ y : Int32, y.toInt = v31Z + 1 ∧ y = v31 + Int32.ofInt 1 := ⟨_, ti_add v31E (by decide) (by (first | decide +kernel | omega)), rfl⟩
                    refine V_iinc 5 [some (.ref 116), some (.int d), some (.int a), some (.int z49), some (.int v31), some (.int z57), some (.int z46), some (.int z49), some (.int z49)] d_Mod_next__138 rfl z57e.symm (by decide) rfl rfl ?_
                    refine V_goto 51 d_Mod_next__141 (by decide) ?_
                    refine V_drop 6 [some (.ref 116), some (.int d), some (.int a), some (.int z49), some (.int v31), some (.int z57), none, some (.int z49), some (.int z49)] rfl ?_
                    refine V_drop 7 [some (.ref 116), some (.int d), some (.int a), some (.int z49), some (.int v31), some (.int z57), none, none, some (.int z49)] rfl ?_
                    refine V_drop 8 [some (.ref 116), some (.int d), some (.int a), some (.int z49), some (.int v31), some (.int z57), none, none, none] rfl ?_
                    exact ihL27 z49 z49Z v31 v31Z z57 ((v31Z + 1)) z49E v31E z57E (by (first | decide +kernel | omega)) hs9.1 hs9.2 (by (first | decide +kernel | omega))
              ·
                refine V_iload d_Mod_next__101 rfl ?_
                refine V_goto 108 d_Mod_next__103 (by decide) ?_
                refine V_istore 8 [some (.ref 116), some (.int d), some (.int a), some (.int v29), some (.int v30), some (.int v31), some (.int z46), some (.int z49), some (.int z46)] d_Mod_next__108 (by decide) rfl rfl ?_
                have hx9 : z46Z = wM (fB (fun i => h.1 117 i) (fun i => h.1 117 (64 + i)) (wZ * gZ)) (mlL wZ.toNat gZ.toNat (wZ * gZ).toNat) dZ (v31Z).toNat := by unfold wM; rw [← hb1, ← hb0]; exact mx2_1 (by (first | decide +kernel | omega))
                refine V_iload d_Mod_next__110 rfl ?_
                refine V_iload_n 3 d_Mod_next__112 rfl rfl ?_
                refine V_icmp_ge 121 z46E v29E d_Mod_next__113 (by decide) (fun c58 => ?_) (fun c58 => ?_)
                ·
                  refine V_iload d_Mod_next__121 rfl ?_
                  refine V_istore 4 [some (.ref 116), some (.int d), some (.int a), some (.int v29), some (.int v30), some (.int v31), some (.int z46), some (.int z49), some (.int z46)] d_Mod_next__123 (by decide) rfl rfl ?_
                  refine V_iload d_Mod_next__125 rfl ?_
                  refine V_iload_n 3 d_Mod_next__127 rfl rfl ?_
                  refine V_icmp_ge 136 z46E v29E d_Mod_next__128 (by decide) (fun c59 => ?_) (fun c59 => ?_)
                  ·
                    refine V_iload_n 3 d_Mod_next__136 rfl rfl ?_
                    refine V_istore_n 3 [some (.ref 116), some (.int d), some (.int a), some (.int v29), some (.int v30), some (.int v31), some (.int z46), some (.int z49), some (.int z46)] d_Mod_next__137 rfl (by decide) rfl rfl ?_
                    have hs9 := nx_n (b := fun i => (h.1 117 (64 + i)).toInt) (d := dZ) (w := wM (fB (fun i => h.1 117 i) (fun i => h.1 117 (64 + i)) (wZ * gZ)) (mlL wZ.toNat gZ.toNat (wZ * gZ).toNat) dZ) (f0 := ((cd (fun x t => (fB (fun i => h.1 117 i) (fun i => h.1 117 (64 + i)) (wZ * gZ)) x t ∧ (inB t 0 ∧ x ≤ dZ)) (mlL wZ.toNat gZ.toNat (wZ * gZ).toNat) 9 : Nat) + (cd (fun x t => (fB (fun i => h.1 117 i) (fun i => h.1 117 (64 + i)) (wZ * gZ)) x t ∧ ¬ (inB t 0 ∧ x ≤ dZ)) (mlL wZ.toNat gZ.toNat (wZ * gZ).toNat) 9 : Nat) : Int)) (C := v31Z) (by (first | decide +kernel | omega)) (by assumption) (by assumption) (by rw [← hx9]; omega)
                    obtain ⟨z60, z60E, z60e⟩ : ∃ y : Int32, y.toInt = v31Z + 1 ∧ y = v31 + Int32.ofInt 1 := ⟨_, ti_add v31E (by decide) (by (first | decide +kernel | omega)), rfl⟩
                    refine V_iinc 5 [some (.ref 116), some (.int d), some (.int a), some (.int v29), some (.int v30), some (.int z60), some (.int z46), some (.int z49), some (.int z46)] d_Mod_next__138 rfl z60e.symm (by decide) rfl rfl ?_
                    refine V_goto 51 d_Mod_next__141 (by decide) ?_
                    refine V_drop 6 [some (.ref 116), some (.int d), some (.int a), some (.int v29), some (.int v30), some (.int z60), none, some (.int z49), some (.int z46)] rfl ?_
                    refine V_drop 7 [some (.ref 116), some (.int d), some (.int a), some (.int v29), some (.int v30), some (.int z60), none, none, some (.int z46)] rfl ?_
                    refine V_drop 8 [some (.ref 116), some (.int d), some (.int a), some (.int v29), some (.int v30), some (.int z60), none, none, none] rfl ?_
                    exact ihL27 v29 v29Z v30 v30Z z60 ((v31Z + 1)) v29E v30E z60E (by (first | decide +kernel | omega)) hs9.1 hs9.2 (by (first | decide +kernel | omega))
                  ·
                    exact absurd c59 (by (first | decide +kernel | omega))
                ·
                  refine V_iload d_Mod_next__116 rfl ?_
                  refine V_goto 123 d_Mod_next__118 (by decide) ?_
                  refine V_istore 4 [some (.ref 116), some (.int d), some (.int a), some (.int v29), some (.int v31), some (.int v31), some (.int z46), some (.int z49), some (.int z46)] d_Mod_next__123 (by decide) rfl rfl ?_
                  refine V_iload d_Mod_next__125 rfl ?_
                  refine V_iload_n 3 d_Mod_next__127 rfl rfl ?_
                  refine V_icmp_ge 136 z46E v29E d_Mod_next__128 (by decide) (fun c61 => ?_) (fun c61 => ?_)
                  ·
                    exact absurd c61 (by (first | decide +kernel | omega))
                  ·
                    refine V_iload d_Mod_next__131 rfl ?_
                    refine V_goto 137 d_Mod_next__133 (by decide) ?_
                    refine V_istore_n 3 [some (.ref 116), some (.int d), some (.int a), some (.int z46), some (.int v31), some (.int v31), some (.int z46), some (.int z49), some (.int z46)] d_Mod_next__137 rfl (by decide) rfl rfl ?_
                    have hs9 := nx_y (b := fun i => (h.1 117 (64 + i)).toInt) (d := dZ) (w := wM (fB (fun i => h.1 117 i) (fun i => h.1 117 (64 + i)) (wZ * gZ)) (mlL wZ.toNat gZ.toNat (wZ * gZ).toNat) dZ) (f0 := ((cd (fun x t => (fB (fun i => h.1 117 i) (fun i => h.1 117 (64 + i)) (wZ * gZ)) x t ∧ (inB t 0 ∧ x ≤ dZ)) (mlL wZ.toNat gZ.toNat (wZ * gZ).toNat) 9 : Nat) + (cd (fun x t => (fB (fun i => h.1 117 i) (fun i => h.1 117 (64 + i)) (wZ * gZ)) x t ∧ ¬ (inB t 0 ∧ x ≤ dZ)) (mlL wZ.toNat gZ.toNat (wZ * gZ).toNat) 9 : Nat) : Int)) (C := v31Z) (by (first | decide +kernel | omega)) (by show (h.1 117 (64 + (v31Z).toNat)).toInt < dZ; omega) (by assumption) hx9 (by (first | decide +kernel | omega))
                    obtain ⟨z62, z62E, z62e⟩ : ∃ y : Int32, y.toInt = v31Z + 1 ∧ y = v31 + Int32.ofInt 1 := ⟨_, ti_add v31E (by decide) (by (first | decide +kernel | omega)), rfl⟩
                    refine V_iinc 5 [some (.ref 116), some (.int d), some (.int a), some (.int z46), some (.int v31), some (.int z62), some (.int z46), some (.int z49), some (.int z46)] d_Mod_next__138 rfl z62e.symm (by decide) rfl rfl ?_
                    refine V_goto 51 d_Mod_next__141 (by decide) ?_
                    refine V_drop 6 [some (.ref 116), some (.int d), some (.int a), some (.int z46), some (.int v31), some (.int z62), none, some (.int z49), some (.int z46)] rfl ?_
                    refine V_drop 7 [some (.ref 116), some (.int d), some (.int a), some (.int z46), some (.int v31), some (.int z62), none, none, some (.int z46)] rfl ?_
                    refine V_drop 8 [some (.ref 116), some (.int d), some (.int a), some (.int z46), some (.int v31), some (.int z62), none, none, none] rfl ?_
                    exact ihL27 z46 z46Z v31 v31Z z62 ((v31Z + 1)) z46E v31E z62E (by (first | decide +kernel | omega)) hs9.1 hs9.2 (by (first | decide +kernel | omega))
      exact L27 (Int.toNat ((16 - 0 : Int) + 1)) z26 ((z20Z + z23Z)) (-4) ((-4)) 0 0 z26E tc_m4 tc_0 (by (first | decide +kernel | omega)) hf0 rfl (by (first | decide +kernel | omega))
    ·
      refine V_iconst (-1) d_Mod_next__22 (by decide) ?_
      exact V_iret rfl d_Mod_next__23 ⟨(-1), rfl, ⟨hI, f0, (Or.inr ⟨by (first | decide +kernel | omega), tc_m1⟩)⟩⟩
end
section
theorem bed_f {h : Hp} (rb : JB h) {W x : Int} {t : Bd} (hW : W ≤ 16) : fB (h.1 2) (h.1 6) W x t ↔ fB (fun i => h.1 117 i) (fun i => h.1 117 (64 + i)) W x t := fB_cg (fun j hj => (JB_w rb (by (first | decide +kernel | omega))).1) (fun j hj => JB_b rb (by (first | decide +kernel | omega)))
theorem next_same {h : Hp} (hI : Inv h) (rb : JB h) {d a : Int} (hd : 1 ≤ d ∧ d ≤ 9) (hw : ((h.1 1 0).toInt * (h.1 1 1).toInt) ≤ 16) : tsr (nx (fun i => (h.1 6 i).toInt) d (wC (fB (h.1 2) (h.1 6) ((h.1 1 0).toInt * (h.1 1 1).toInt)) (clL (h.1 1 0).toInt.toNat (h.1 1 1).toInt.toNat) d) (cd (fB (h.1 2) (h.1 6) ((h.1 1 0).toInt * (h.1 1 1).toInt)) (clL (h.1 1 0).toInt.toNat (h.1 1 1).toInt.toNat) 9 : Nat) ((h.1 1 0).toInt * (h.1 1 1).toInt).toNat) a = tsr (nx (fun i => (h.1 117 (64 + i)).toInt) d (wM (fB (fun i => h.1 117 i) (fun i => h.1 117 (64 + i)) ((h.1 1 0).toInt * (h.1 1 1).toInt)) (mlL (h.1 1 0).toInt.toNat (h.1 1 1).toInt.toNat ((h.1 1 0).toInt * (h.1 1 1).toInt).toNat) d) ((cd (fun x t => (fB (fun i => h.1 117 i) (fun i => h.1 117 (64 + i)) ((h.1 1 0).toInt * (h.1 1 1).toInt)) x t ∧ (inB t 0 ∧ x ≤ d)) (mlL (h.1 1 0).toInt.toNat (h.1 1 1).toInt.toNat ((h.1 1 0).toInt * (h.1 1 1).toInt).toNat) 9 : Nat) + (cd (fun x t => (fB (fun i => h.1 117 i) (fun i => h.1 117 (64 + i)) ((h.1 1 0).toInt * (h.1 1 1).toInt)) x t ∧ ¬ (inB t 0 ∧ x ≤ d)) (mlL (h.1 1 0).toInt.toNat (h.1 1 1).toInt.toNat ((h.1 1 0).toInt * (h.1 1 1).toInt).toNat) 9 : Nat) : Int) ((h.1 1 0).toInt * (h.1 1 1).toInt).toNat) a := by
  have p := (ml_48 (w := (h.1 1 0).toInt) (g := (h.1 1 1).toInt) (hI 1 0) (hI 1 1)).1
  have k := fun c => w_same (f := (fB (h.1 2) (h.1 6) ((h.1 1 0).toInt * (h.1 1 1).toInt))) (g := (fB (fun i => h.1 117 i) (fun i => h.1 117 (64 + i)) ((h.1 1 0).toInt * (h.1 1 1).toInt))) (c := c) hd p (fun x t _ _ => bed_f rb hw)
  rw [(k 0).2]
  exact congrArg (fun q => tsr q a) (nx_cg _ (fun i hi => ⟨congrArg Int32.toInt (JB_b rb (by (first | decide +kernel | omega))), (k i).1⟩))
end
section
theorem dl_18 : decode code 18 = .ok (.iload_n 3, 1) := dc_29 (dcc (r := 18) lq_0 rfl (Nat.le_of_ble_eq_true rfl) (by decide +kernel))
theorem dl_19 : decode code 19 = .ok (.aload_n 0, 1) := dc_42 (dcc (r := 19) lq_0 rfl (Nat.le_of_ble_eq_true rfl) (by decide +kernel))
theorem dl_20 : decode code 20 = .ok (.arraylength, 1) := dc_190 (dcc (r := 20) lq_0 rfl (Nat.le_of_ble_eq_true rfl) (by decide +kernel))
theorem dl_21 : decode code 21 = .ok (.iconst 5, 1) := dc_8 (dcc (r := 21) lq_0 rfl (Nat.le_of_ble_eq_true rfl) (by decide +kernel))
theorem dl_22 : decode code 22 = .ok (.isub, 1) := dc_100 (dcc (r := 22) lq_0 rfl (Nat.le_of_ble_eq_true rfl) (by decide +kernel))
theorem dl_23 : decode code 23 = .ok (.if_icmp .gt 1342, 3) := dc_163 (a := 5) (b := 62) (dcc (r := 23) lq_0 rfl (Nat.le_of_ble_eq_true rfl) (by decide +kernel)) rfl
theorem dl_26 : decode code 26 = .ok (.aload_n 0, 1) := dc_42 (dcc (r := 26) lq_0 rfl (Nat.le_of_ble_eq_true rfl) (by decide +kernel))
theorem dl_27 : decode code 27 = .ok (.iload_n 3, 1) := dc_29 (dcc (r := 27) lq_0 rfl (Nat.le_of_ble_eq_true rfl) (by decide +kernel))
theorem dl_28 : decode code 28 = .ok (.iaload, 1) := dc_46 (dcc (r := 28) lq_0 rfl (Nat.le_of_ble_eq_true rfl) (by decide +kernel))
theorem dl_29 : decode code 29 = .ok (.bipush 63, 2) := dc_16 (a := 63) (dcc (r := 29) lq_0 rfl (Nat.le_of_ble_eq_true rfl) (by decide +kernel)) rfl
theorem dl_31 : decode code 31 = .ok (.iand, 1) := dc_126 (dcc (r := 31) lq_0 rfl (Nat.le_of_ble_eq_true rfl) (by decide +kernel))
theorem dl_32 : decode code 32 = .ok (.tableswitch 1327 0 36 #[164, 187, 210, 223, 236, 259, 292, 315, 348, 397, 430, 463, 496, 529, 572, 595, 618, 661, 730, 753, 766, 789, 822, 875, 918, 971, 994, 1027, 1050, 1073, 1106, 1129, 1152, 1195, 1238, 1291, 1304], 164) := by decide +kernel
theorem dl_196 : decode code 196 = .ok (.aload_n 1, 1) := dc_43 (dcc (r := 4) lq_3 rfl (Nat.le_of_ble_eq_true rfl) (by decide +kernel))
theorem dl_197 : decode code 197 = .ok (.aload_n 0, 1) := dc_42 (dcc (r := 5) lq_3 rfl (Nat.le_of_ble_eq_true rfl) (by decide +kernel))
theorem dl_198 : decode code 198 = .ok (.iload_n 3, 1) := dc_29 (dcc (r := 6) lq_3 rfl (Nat.le_of_ble_eq_true rfl) (by decide +kernel))
theorem dl_199 : decode code 199 = .ok (.iconst 1, 1) := dc_4 (dcc (r := 7) lq_3 rfl (Nat.le_of_ble_eq_true rfl) (by decide +kernel))
theorem dl_200 : decode code 200 = .ok (.iadd, 1) := dc_96 (dcc (r := 8) lq_3 rfl (Nat.le_of_ble_eq_true rfl) (by decide +kernel))
theorem dl_201 : decode code 201 = .ok (.iaload, 1) := dc_46 (dcc (r := 9) lq_3 rfl (Nat.le_of_ble_eq_true rfl) (by decide +kernel))
theorem dl_202 : decode code 202 = .ok (.invokevirtual 13, 3) := dc_182 (a := 0) (b := 13) (dcc (r := 10) lq_3 rfl (Nat.le_of_ble_eq_true rfl) (by decide +kernel)) rfl
theorem dl_205 : decode code 205 = .ok (.pop, 1) := dc_87 (dcc (r := 13) lq_3 rfl (Nat.le_of_ble_eq_true rfl) (by decide +kernel))
theorem dl_206 : decode code 206 = .ok (.aload_n 2, 1) := dc_44 (dcc (r := 14) lq_3 rfl (Nat.le_of_ble_eq_true rfl) (by decide +kernel))
theorem dl_207 : decode code 207 = .ok (.aload_n 0, 1) := dc_42 (dcc (r := 15) lq_3 rfl (Nat.le_of_ble_eq_true rfl) (by decide +kernel))
theorem dl_208 : decode code 208 = .ok (.iload_n 3, 1) := dc_29 (dcc (r := 16) lq_3 rfl (Nat.le_of_ble_eq_true rfl) (by decide +kernel))
theorem dl_209 : decode code 209 = .ok (.iconst 1, 1) := dc_4 (dcc (r := 17) lq_3 rfl (Nat.le_of_ble_eq_true rfl) (by decide +kernel))
theorem dl_210 : decode code 210 = .ok (.iadd, 1) := dc_96 (dcc (r := 18) lq_3 rfl (Nat.le_of_ble_eq_true rfl) (by decide +kernel))
theorem dl_211 : decode code 211 = .ok (.iaload, 1) := dc_46 (dcc (r := 19) lq_3 rfl (Nat.le_of_ble_eq_true rfl) (by decide +kernel))
theorem dl_212 : decode code 212 = .ok (.invokevirtual 17, 3) := dc_182 (a := 0) (b := 17) (dcc (r := 20) lq_3 rfl (Nat.le_of_ble_eq_true rfl) (by decide +kernel)) rfl
theorem dl_215 : decode code 215 = .ok (.pop, 1) := dc_87 (dcc (r := 23) lq_3 rfl (Nat.le_of_ble_eq_true rfl) (by decide +kernel))
theorem dl_216 : decode code 216 = .ok (.goto 1143, 3) := dc_167 (a := 4) (b := 119) (dcc (r := 24) lq_3 rfl (Nat.le_of_ble_eq_true rfl) (by decide +kernel)) rfl
theorem dl_219 : decode code 219 = .ok (.aload_n 1, 1) := dc_43 (dcc (r := 27) lq_3 rfl (Nat.le_of_ble_eq_true rfl) (by decide +kernel))
theorem dl_220 : decode code 220 = .ok (.aload_n 0, 1) := dc_42 (dcc (r := 28) lq_3 rfl (Nat.le_of_ble_eq_true rfl) (by decide +kernel))
theorem dl_221 : decode code 221 = .ok (.iload_n 3, 1) := dc_29 (dcc (r := 29) lq_3 rfl (Nat.le_of_ble_eq_true rfl) (by decide +kernel))
theorem dl_222 : decode code 222 = .ok (.iconst 1, 1) := dc_4 (dcc (r := 30) lq_3 rfl (Nat.le_of_ble_eq_true rfl) (by decide +kernel))
theorem dl_223 : decode code 223 = .ok (.iadd, 1) := dc_96 (dcc (r := 31) lq_3 rfl (Nat.le_of_ble_eq_true rfl) (by decide +kernel))
theorem dl_224 : decode code 224 = .ok (.iaload, 1) := dc_46 (dcc (r := 32) lq_3 rfl (Nat.le_of_ble_eq_true rfl) (by decide +kernel))
theorem dl_225 : decode code 225 = .ok (.invokevirtual 18, 3) := dc_182 (a := 0) (b := 18) (dcc (r := 33) lq_3 rfl (Nat.le_of_ble_eq_true rfl) (by decide +kernel)) rfl
theorem dl_228 : decode code 228 = .ok (.pop, 1) := dc_87 (dcc (r := 36) lq_3 rfl (Nat.le_of_ble_eq_true rfl) (by decide +kernel))
theorem dl_229 : decode code 229 = .ok (.aload_n 2, 1) := dc_44 (dcc (r := 37) lq_3 rfl (Nat.le_of_ble_eq_true rfl) (by decide +kernel))
theorem dl_230 : decode code 230 = .ok (.aload_n 0, 1) := dc_42 (dcc (r := 38) lq_3 rfl (Nat.le_of_ble_eq_true rfl) (by decide +kernel))
theorem dl_231 : decode code 231 = .ok (.iload_n 3, 1) := dc_29 (dcc (r := 39) lq_3 rfl (Nat.le_of_ble_eq_true rfl) (by decide +kernel))
theorem dl_232 : decode code 232 = .ok (.iconst 1, 1) := dc_4 (dcc (r := 40) lq_3 rfl (Nat.le_of_ble_eq_true rfl) (by decide +kernel))
theorem dl_233 : decode code 233 = .ok (.iadd, 1) := dc_96 (dcc (r := 41) lq_3 rfl (Nat.le_of_ble_eq_true rfl) (by decide +kernel))
theorem dl_234 : decode code 234 = .ok (.iaload, 1) := dc_46 (dcc (r := 42) lq_3 rfl (Nat.le_of_ble_eq_true rfl) (by decide +kernel))
theorem dl_235 : decode code 235 = .ok (.invokevirtual 21, 3) := dc_182 (a := 0) (b := 21) (dcc (r := 43) lq_3 rfl (Nat.le_of_ble_eq_true rfl) (by decide +kernel)) rfl
theorem dl_238 : decode code 238 = .ok (.pop, 1) := dc_87 (dcc (r := 46) lq_3 rfl (Nat.le_of_ble_eq_true rfl) (by decide +kernel))
theorem dl_239 : decode code 239 = .ok (.goto 1120, 3) := dc_167 (a := 4) (b := 96) (dcc (r := 47) lq_3 rfl (Nat.le_of_ble_eq_true rfl) (by decide +kernel)) rfl
theorem dl_242 : decode code 242 = .ok (.aload_n 1, 1) := dc_43 (dcc (r := 50) lq_3 rfl (Nat.le_of_ble_eq_true rfl) (by decide +kernel))
theorem dl_243 : decode code 243 = .ok (.invokevirtual 22, 3) := dc_182 (a := 0) (b := 22) (dcc (r := 51) lq_3 rfl (Nat.le_of_ble_eq_true rfl) (by decide +kernel)) rfl
theorem dl_246 : decode code 246 = .ok (.pop, 1) := dc_87 (dcc (r := 54) lq_3 rfl (Nat.le_of_ble_eq_true rfl) (by decide +kernel))
theorem dl_247 : decode code 247 = .ok (.aload_n 2, 1) := dc_44 (dcc (r := 55) lq_3 rfl (Nat.le_of_ble_eq_true rfl) (by decide +kernel))
theorem dl_248 : decode code 248 = .ok (.invokevirtual 26, 3) := dc_182 (a := 0) (b := 26) (dcc (r := 56) lq_3 rfl (Nat.le_of_ble_eq_true rfl) (by decide +kernel)) rfl
theorem dl_251 : decode code 251 = .ok (.pop, 1) := dc_87 (dcc (r := 59) lq_3 rfl (Nat.le_of_ble_eq_true rfl) (by decide +kernel))
theorem dl_252 : decode code 252 = .ok (.goto 1107, 3) := dc_167 (a := 4) (b := 83) (dcc (r := 60) lq_3 rfl (Nat.le_of_ble_eq_true rfl) (by decide +kernel)) rfl
theorem dl_255 : decode code 255 = .ok (.aload_n 1, 1) := dc_43 (dcc (r := 63) lq_3 rfl (Nat.le_of_ble_eq_true rfl) (by decide +kernel))
theorem dl_256 : decode code 256 = .ok (.invokevirtual 27, 3) := dc_182 (a := 0) (b := 27) (dcc (r := 0) lq_4 rfl (Nat.le_of_ble_eq_true rfl) (by decide +kernel)) rfl
theorem dl_259 : decode code 259 = .ok (.pop, 1) := dc_87 (dcc (r := 3) lq_4 rfl (Nat.le_of_ble_eq_true rfl) (by decide +kernel))
theorem dl_260 : decode code 260 = .ok (.aload_n 2, 1) := dc_44 (dcc (r := 4) lq_4 rfl (Nat.le_of_ble_eq_true rfl) (by decide +kernel))
theorem dl_261 : decode code 261 = .ok (.invokevirtual 30, 3) := dc_182 (a := 0) (b := 30) (dcc (r := 5) lq_4 rfl (Nat.le_of_ble_eq_true rfl) (by decide +kernel)) rfl
theorem dl_264 : decode code 264 = .ok (.pop, 1) := dc_87 (dcc (r := 8) lq_4 rfl (Nat.le_of_ble_eq_true rfl) (by decide +kernel))
theorem dl_265 : decode code 265 = .ok (.goto 1094, 3) := dc_167 (a := 4) (b := 70) (dcc (r := 9) lq_4 rfl (Nat.le_of_ble_eq_true rfl) (by decide +kernel)) rfl
theorem dl_268 : decode code 268 = .ok (.aload_n 1, 1) := dc_43 (dcc (r := 12) lq_4 rfl (Nat.le_of_ble_eq_true rfl) (by decide +kernel))
theorem dl_269 : decode code 269 = .ok (.aload_n 0, 1) := dc_42 (dcc (r := 13) lq_4 rfl (Nat.le_of_ble_eq_true rfl) (by decide +kernel))
theorem dl_270 : decode code 270 = .ok (.iload_n 3, 1) := dc_29 (dcc (r := 14) lq_4 rfl (Nat.le_of_ble_eq_true rfl) (by decide +kernel))
theorem dl_271 : decode code 271 = .ok (.iconst 1, 1) := dc_4 (dcc (r := 15) lq_4 rfl (Nat.le_of_ble_eq_true rfl) (by decide +kernel))
theorem dl_272 : decode code 272 = .ok (.iadd, 1) := dc_96 (dcc (r := 16) lq_4 rfl (Nat.le_of_ble_eq_true rfl) (by decide +kernel))
theorem dl_273 : decode code 273 = .ok (.iaload, 1) := dc_46 (dcc (r := 17) lq_4 rfl (Nat.le_of_ble_eq_true rfl) (by decide +kernel))
theorem dl_274 : decode code 274 = .ok (.invokevirtual 31, 3) := dc_182 (a := 0) (b := 31) (dcc (r := 18) lq_4 rfl (Nat.le_of_ble_eq_true rfl) (by decide +kernel)) rfl
theorem dl_277 : decode code 277 = .ok (.pop, 1) := dc_87 (dcc (r := 21) lq_4 rfl (Nat.le_of_ble_eq_true rfl) (by decide +kernel))
theorem dl_278 : decode code 278 = .ok (.aload_n 2, 1) := dc_44 (dcc (r := 22) lq_4 rfl (Nat.le_of_ble_eq_true rfl) (by decide +kernel))
theorem dl_279 : decode code 279 = .ok (.aload_n 0, 1) := dc_42 (dcc (r := 23) lq_4 rfl (Nat.le_of_ble_eq_true rfl) (by decide +kernel))
theorem dl_280 : decode code 280 = .ok (.iload_n 3, 1) := dc_29 (dcc (r := 24) lq_4 rfl (Nat.le_of_ble_eq_true rfl) (by decide +kernel))
theorem dl_281 : decode code 281 = .ok (.iconst 1, 1) := dc_4 (dcc (r := 25) lq_4 rfl (Nat.le_of_ble_eq_true rfl) (by decide +kernel))
theorem dl_282 : decode code 282 = .ok (.iadd, 1) := dc_96 (dcc (r := 26) lq_4 rfl (Nat.le_of_ble_eq_true rfl) (by decide +kernel))
theorem dl_283 : decode code 283 = .ok (.iaload, 1) := dc_46 (dcc (r := 27) lq_4 rfl (Nat.le_of_ble_eq_true rfl) (by decide +kernel))
theorem dl_284 : decode code 284 = .ok (.invokevirtual 34, 3) := dc_182 (a := 0) (b := 34) (dcc (r := 28) lq_4 rfl (Nat.le_of_ble_eq_true rfl) (by decide +kernel)) rfl
theorem dl_287 : decode code 287 = .ok (.pop, 1) := dc_87 (dcc (r := 31) lq_4 rfl (Nat.le_of_ble_eq_true rfl) (by decide +kernel))
theorem dl_288 : decode code 288 = .ok (.goto 1071, 3) := dc_167 (a := 4) (b := 47) (dcc (r := 32) lq_4 rfl (Nat.le_of_ble_eq_true rfl) (by decide +kernel)) rfl
theorem dl_291 : decode code 291 = .ok (.aload_n 1, 1) := dc_43 (dcc (r := 35) lq_4 rfl (Nat.le_of_ble_eq_true rfl) (by decide +kernel))
theorem dl_292 : decode code 292 = .ok (.aload_n 0, 1) := dc_42 (dcc (r := 36) lq_4 rfl (Nat.le_of_ble_eq_true rfl) (by decide +kernel))
theorem dl_293 : decode code 293 = .ok (.iload_n 3, 1) := dc_29 (dcc (r := 37) lq_4 rfl (Nat.le_of_ble_eq_true rfl) (by decide +kernel))
theorem dl_294 : decode code 294 = .ok (.iconst 1, 1) := dc_4 (dcc (r := 38) lq_4 rfl (Nat.le_of_ble_eq_true rfl) (by decide +kernel))
theorem dl_295 : decode code 295 = .ok (.iadd, 1) := dc_96 (dcc (r := 39) lq_4 rfl (Nat.le_of_ble_eq_true rfl) (by decide +kernel))
theorem dl_296 : decode code 296 = .ok (.iaload, 1) := dc_46 (dcc (r := 40) lq_4 rfl (Nat.le_of_ble_eq_true rfl) (by decide +kernel))
theorem dl_297 : decode code 297 = .ok (.aload_n 0, 1) := dc_42 (dcc (r := 41) lq_4 rfl (Nat.le_of_ble_eq_true rfl) (by decide +kernel))
theorem dl_298 : decode code 298 = .ok (.iload_n 3, 1) := dc_29 (dcc (r := 42) lq_4 rfl (Nat.le_of_ble_eq_true rfl) (by decide +kernel))
theorem dl_299 : decode code 299 = .ok (.iconst 2, 1) := dc_5 (dcc (r := 43) lq_4 rfl (Nat.le_of_ble_eq_true rfl) (by decide +kernel))
theorem dl_300 : decode code 300 = .ok (.iadd, 1) := dc_96 (dcc (r := 44) lq_4 rfl (Nat.le_of_ble_eq_true rfl) (by decide +kernel))
theorem dl_301 : decode code 301 = .ok (.iaload, 1) := dc_46 (dcc (r := 45) lq_4 rfl (Nat.le_of_ble_eq_true rfl) (by decide +kernel))
theorem dl_302 : decode code 302 = .ok (.invokevirtual 35, 3) := dc_182 (a := 0) (b := 35) (dcc (r := 46) lq_4 rfl (Nat.le_of_ble_eq_true rfl) (by decide +kernel)) rfl
theorem dl_305 : decode code 305 = .ok (.pop, 1) := dc_87 (dcc (r := 49) lq_4 rfl (Nat.le_of_ble_eq_true rfl) (by decide +kernel))
theorem dl_306 : decode code 306 = .ok (.aload_n 2, 1) := dc_44 (dcc (r := 50) lq_4 rfl (Nat.le_of_ble_eq_true rfl) (by decide +kernel))
theorem dl_307 : decode code 307 = .ok (.aload_n 0, 1) := dc_42 (dcc (r := 51) lq_4 rfl (Nat.le_of_ble_eq_true rfl) (by decide +kernel))
theorem dl_308 : decode code 308 = .ok (.iload_n 3, 1) := dc_29 (dcc (r := 52) lq_4 rfl (Nat.le_of_ble_eq_true rfl) (by decide +kernel))
theorem dl_309 : decode code 309 = .ok (.iconst 1, 1) := dc_4 (dcc (r := 53) lq_4 rfl (Nat.le_of_ble_eq_true rfl) (by decide +kernel))
theorem dl_310 : decode code 310 = .ok (.iadd, 1) := dc_96 (dcc (r := 54) lq_4 rfl (Nat.le_of_ble_eq_true rfl) (by decide +kernel))
theorem dl_311 : decode code 311 = .ok (.iaload, 1) := dc_46 (dcc (r := 55) lq_4 rfl (Nat.le_of_ble_eq_true rfl) (by decide +kernel))
theorem dl_312 : decode code 312 = .ok (.aload_n 0, 1) := dc_42 (dcc (r := 56) lq_4 rfl (Nat.le_of_ble_eq_true rfl) (by decide +kernel))
theorem dl_313 : decode code 313 = .ok (.iload_n 3, 1) := dc_29 (dcc (r := 57) lq_4 rfl (Nat.le_of_ble_eq_true rfl) (by decide +kernel))
theorem dl_314 : decode code 314 = .ok (.iconst 2, 1) := dc_5 (dcc (r := 58) lq_4 rfl (Nat.le_of_ble_eq_true rfl) (by decide +kernel))
theorem dl_315 : decode code 315 = .ok (.iadd, 1) := dc_96 (dcc (r := 59) lq_4 rfl (Nat.le_of_ble_eq_true rfl) (by decide +kernel))
theorem dl_316 : decode code 316 = .ok (.iaload, 1) := dc_46 (dcc (r := 60) lq_4 rfl (Nat.le_of_ble_eq_true rfl) (by decide +kernel))
theorem dl_317 : decode code 317 = .ok (.invokevirtual 39, 3) := dc_182 (a := 0) (b := 39) (dcc (r := 61) lq_4 rfl (Nat.le_of_ble_eq_true rfl) (by decide +kernel)) rfl
theorem dl_320 : decode code 320 = .ok (.pop, 1) := dc_87 (dcc (r := 0) lq_5 rfl (Nat.le_of_ble_eq_true rfl) (by decide +kernel))
theorem dl_321 : decode code 321 = .ok (.goto 1038, 3) := dc_167 (a := 4) (b := 14) (dcc (r := 1) lq_5 rfl (Nat.le_of_ble_eq_true rfl) (by decide +kernel)) rfl
theorem dl_324 : decode code 324 = .ok (.aload_n 1, 1) := dc_43 (dcc (r := 4) lq_5 rfl (Nat.le_of_ble_eq_true rfl) (by decide +kernel))
theorem dl_325 : decode code 325 = .ok (.aload_n 0, 1) := dc_42 (dcc (r := 5) lq_5 rfl (Nat.le_of_ble_eq_true rfl) (by decide +kernel))
theorem dl_326 : decode code 326 = .ok (.iload_n 3, 1) := dc_29 (dcc (r := 6) lq_5 rfl (Nat.le_of_ble_eq_true rfl) (by decide +kernel))
theorem dl_327 : decode code 327 = .ok (.iconst 1, 1) := dc_4 (dcc (r := 7) lq_5 rfl (Nat.le_of_ble_eq_true rfl) (by decide +kernel))
theorem dl_328 : decode code 328 = .ok (.iadd, 1) := dc_96 (dcc (r := 8) lq_5 rfl (Nat.le_of_ble_eq_true rfl) (by decide +kernel))
theorem dl_329 : decode code 329 = .ok (.iaload, 1) := dc_46 (dcc (r := 9) lq_5 rfl (Nat.le_of_ble_eq_true rfl) (by decide +kernel))
theorem dl_330 : decode code 330 = .ok (.invokevirtual 40, 3) := dc_182 (a := 0) (b := 40) (dcc (r := 10) lq_5 rfl (Nat.le_of_ble_eq_true rfl) (by decide +kernel)) rfl
theorem dl_333 : decode code 333 = .ok (.pop, 1) := dc_87 (dcc (r := 13) lq_5 rfl (Nat.le_of_ble_eq_true rfl) (by decide +kernel))
theorem dl_334 : decode code 334 = .ok (.aload_n 2, 1) := dc_44 (dcc (r := 14) lq_5 rfl (Nat.le_of_ble_eq_true rfl) (by decide +kernel))
theorem dl_335 : decode code 335 = .ok (.aload_n 0, 1) := dc_42 (dcc (r := 15) lq_5 rfl (Nat.le_of_ble_eq_true rfl) (by decide +kernel))
theorem dl_336 : decode code 336 = .ok (.iload_n 3, 1) := dc_29 (dcc (r := 16) lq_5 rfl (Nat.le_of_ble_eq_true rfl) (by decide +kernel))
theorem dl_337 : decode code 337 = .ok (.iconst 1, 1) := dc_4 (dcc (r := 17) lq_5 rfl (Nat.le_of_ble_eq_true rfl) (by decide +kernel))
theorem dl_338 : decode code 338 = .ok (.iadd, 1) := dc_96 (dcc (r := 18) lq_5 rfl (Nat.le_of_ble_eq_true rfl) (by decide +kernel))
theorem dl_339 : decode code 339 = .ok (.iaload, 1) := dc_46 (dcc (r := 19) lq_5 rfl (Nat.le_of_ble_eq_true rfl) (by decide +kernel))
theorem dl_340 : decode code 340 = .ok (.invokevirtual 43, 3) := dc_182 (a := 0) (b := 43) (dcc (r := 20) lq_5 rfl (Nat.le_of_ble_eq_true rfl) (by decide +kernel)) rfl
theorem dl_343 : decode code 343 = .ok (.pop, 1) := dc_87 (dcc (r := 23) lq_5 rfl (Nat.le_of_ble_eq_true rfl) (by decide +kernel))
theorem dl_344 : decode code 344 = .ok (.goto 1015, 3) := dc_167 (a := 3) (b := 247) (dcc (r := 24) lq_5 rfl (Nat.le_of_ble_eq_true rfl) (by decide +kernel)) rfl
theorem dl_347 : decode code 347 = .ok (.aload_n 1, 1) := dc_43 (dcc (r := 27) lq_5 rfl (Nat.le_of_ble_eq_true rfl) (by decide +kernel))
theorem dl_348 : decode code 348 = .ok (.aload_n 0, 1) := dc_42 (dcc (r := 28) lq_5 rfl (Nat.le_of_ble_eq_true rfl) (by decide +kernel))
theorem dl_349 : decode code 349 = .ok (.iload_n 3, 1) := dc_29 (dcc (r := 29) lq_5 rfl (Nat.le_of_ble_eq_true rfl) (by decide +kernel))
theorem dl_350 : decode code 350 = .ok (.iconst 1, 1) := dc_4 (dcc (r := 30) lq_5 rfl (Nat.le_of_ble_eq_true rfl) (by decide +kernel))
theorem dl_351 : decode code 351 = .ok (.iadd, 1) := dc_96 (dcc (r := 31) lq_5 rfl (Nat.le_of_ble_eq_true rfl) (by decide +kernel))
theorem dl_352 : decode code 352 = .ok (.iaload, 1) := dc_46 (dcc (r := 32) lq_5 rfl (Nat.le_of_ble_eq_true rfl) (by decide +kernel))
theorem dl_353 : decode code 353 = .ok (.aload_n 0, 1) := dc_42 (dcc (r := 33) lq_5 rfl (Nat.le_of_ble_eq_true rfl) (by decide +kernel))
theorem dl_354 : decode code 354 = .ok (.iload_n 3, 1) := dc_29 (dcc (r := 34) lq_5 rfl (Nat.le_of_ble_eq_true rfl) (by decide +kernel))
theorem dl_355 : decode code 355 = .ok (.iconst 2, 1) := dc_5 (dcc (r := 35) lq_5 rfl (Nat.le_of_ble_eq_true rfl) (by decide +kernel))
theorem dl_356 : decode code 356 = .ok (.iadd, 1) := dc_96 (dcc (r := 36) lq_5 rfl (Nat.le_of_ble_eq_true rfl) (by decide +kernel))
theorem dl_357 : decode code 357 = .ok (.iaload, 1) := dc_46 (dcc (r := 37) lq_5 rfl (Nat.le_of_ble_eq_true rfl) (by decide +kernel))
theorem dl_358 : decode code 358 = .ok (.invokevirtual 44, 3) := dc_182 (a := 0) (b := 44) (dcc (r := 38) lq_5 rfl (Nat.le_of_ble_eq_true rfl) (by decide +kernel)) rfl
theorem dl_361 : decode code 361 = .ok (.pop, 1) := dc_87 (dcc (r := 41) lq_5 rfl (Nat.le_of_ble_eq_true rfl) (by decide +kernel))
theorem dl_362 : decode code 362 = .ok (.aload_n 2, 1) := dc_44 (dcc (r := 42) lq_5 rfl (Nat.le_of_ble_eq_true rfl) (by decide +kernel))
theorem dl_363 : decode code 363 = .ok (.aload_n 0, 1) := dc_42 (dcc (r := 43) lq_5 rfl (Nat.le_of_ble_eq_true rfl) (by decide +kernel))
theorem dl_364 : decode code 364 = .ok (.iload_n 3, 1) := dc_29 (dcc (r := 44) lq_5 rfl (Nat.le_of_ble_eq_true rfl) (by decide +kernel))
theorem dl_365 : decode code 365 = .ok (.iconst 1, 1) := dc_4 (dcc (r := 45) lq_5 rfl (Nat.le_of_ble_eq_true rfl) (by decide +kernel))
theorem dl_366 : decode code 366 = .ok (.iadd, 1) := dc_96 (dcc (r := 46) lq_5 rfl (Nat.le_of_ble_eq_true rfl) (by decide +kernel))
theorem dl_367 : decode code 367 = .ok (.iaload, 1) := dc_46 (dcc (r := 47) lq_5 rfl (Nat.le_of_ble_eq_true rfl) (by decide +kernel))
theorem dl_368 : decode code 368 = .ok (.aload_n 0, 1) := dc_42 (dcc (r := 48) lq_5 rfl (Nat.le_of_ble_eq_true rfl) (by decide +kernel))
theorem dl_369 : decode code 369 = .ok (.iload_n 3, 1) := dc_29 (dcc (r := 49) lq_5 rfl (Nat.le_of_ble_eq_true rfl) (by decide +kernel))
theorem dl_370 : decode code 370 = .ok (.iconst 2, 1) := dc_5 (dcc (r := 50) lq_5 rfl (Nat.le_of_ble_eq_true rfl) (by decide +kernel))
theorem dl_371 : decode code 371 = .ok (.iadd, 1) := dc_96 (dcc (r := 51) lq_5 rfl (Nat.le_of_ble_eq_true rfl) (by decide +kernel))
theorem dl_372 : decode code 372 = .ok (.iaload, 1) := dc_46 (dcc (r := 52) lq_5 rfl (Nat.le_of_ble_eq_true rfl) (by decide +kernel))
theorem dl_373 : decode code 373 = .ok (.invokevirtual 47, 3) := dc_182 (a := 0) (b := 47) (dcc (r := 53) lq_5 rfl (Nat.le_of_ble_eq_true rfl) (by decide +kernel)) rfl
theorem dl_376 : decode code 376 = .ok (.pop, 1) := dc_87 (dcc (r := 56) lq_5 rfl (Nat.le_of_ble_eq_true rfl) (by decide +kernel))
theorem dl_377 : decode code 377 = .ok (.goto 982, 3) := dc_167 (a := 3) (b := 214) (dcc (r := 57) lq_5 rfl (Nat.le_of_ble_eq_true rfl) (by decide +kernel)) rfl
theorem dl_380 : decode code 380 = .ok (.aload_n 1, 1) := dc_43 (dcc (r := 60) lq_5 rfl (Nat.le_of_ble_eq_true rfl) (by decide +kernel))
theorem dl_381 : decode code 381 = .ok (.aload_n 0, 1) := dc_42 (dcc (r := 61) lq_5 rfl (Nat.le_of_ble_eq_true rfl) (by decide +kernel))
theorem dl_382 : decode code 382 = .ok (.iload_n 3, 1) := dc_29 (dcc (r := 62) lq_5 rfl (Nat.le_of_ble_eq_true rfl) (by decide +kernel))
theorem dl_383 : decode code 383 = .ok (.iconst 1, 1) := dc_4 (dcc (r := 63) lq_5 rfl (Nat.le_of_ble_eq_true rfl) (by decide +kernel))
theorem dl_384 : decode code 384 = .ok (.iadd, 1) := dc_96 (dcc (r := 0) lq_6 rfl (Nat.le_of_ble_eq_true rfl) (by decide +kernel))
theorem dl_385 : decode code 385 = .ok (.iaload, 1) := dc_46 (dcc (r := 1) lq_6 rfl (Nat.le_of_ble_eq_true rfl) (by decide +kernel))
theorem dl_386 : decode code 386 = .ok (.aload_n 0, 1) := dc_42 (dcc (r := 2) lq_6 rfl (Nat.le_of_ble_eq_true rfl) (by decide +kernel))
theorem dl_387 : decode code 387 = .ok (.iload_n 3, 1) := dc_29 (dcc (r := 3) lq_6 rfl (Nat.le_of_ble_eq_true rfl) (by decide +kernel))
theorem dl_388 : decode code 388 = .ok (.iconst 2, 1) := dc_5 (dcc (r := 4) lq_6 rfl (Nat.le_of_ble_eq_true rfl) (by decide +kernel))
theorem dl_389 : decode code 389 = .ok (.iadd, 1) := dc_96 (dcc (r := 5) lq_6 rfl (Nat.le_of_ble_eq_true rfl) (by decide +kernel))
theorem dl_390 : decode code 390 = .ok (.iaload, 1) := dc_46 (dcc (r := 6) lq_6 rfl (Nat.le_of_ble_eq_true rfl) (by decide +kernel))
theorem dl_391 : decode code 391 = .ok (.ifCond .eq 7, 3) := dc_153 (a := 0) (b := 7) (dcc (r := 7) lq_6 rfl (Nat.le_of_ble_eq_true rfl) (by decide +kernel)) rfl
theorem dl_394 : decode code 394 = .ok (.iconst 1, 1) := dc_4 (dcc (r := 10) lq_6 rfl (Nat.le_of_ble_eq_true rfl) (by decide +kernel))
theorem dl_395 : decode code 395 = .ok (.goto 4, 3) := dc_167 (a := 0) (b := 4) (dcc (r := 11) lq_6 rfl (Nat.le_of_ble_eq_true rfl) (by decide +kernel)) rfl
theorem dl_398 : decode code 398 = .ok (.iconst 0, 1) := dc_3 (dcc (r := 14) lq_6 rfl (Nat.le_of_ble_eq_true rfl) (by decide +kernel))
theorem dl_399 : decode code 399 = .ok (.invokevirtual 48, 3) := dc_182 (a := 0) (b := 48) (dcc (r := 15) lq_6 rfl (Nat.le_of_ble_eq_true rfl) (by decide +kernel)) rfl
theorem dl_402 : decode code 402 = .ok (.pop, 1) := dc_87 (dcc (r := 18) lq_6 rfl (Nat.le_of_ble_eq_true rfl) (by decide +kernel))
theorem dl_403 : decode code 403 = .ok (.aload_n 2, 1) := dc_44 (dcc (r := 19) lq_6 rfl (Nat.le_of_ble_eq_true rfl) (by decide +kernel))
theorem dl_404 : decode code 404 = .ok (.aload_n 0, 1) := dc_42 (dcc (r := 20) lq_6 rfl (Nat.le_of_ble_eq_true rfl) (by decide +kernel))
theorem dl_405 : decode code 405 = .ok (.iload_n 3, 1) := dc_29 (dcc (r := 21) lq_6 rfl (Nat.le_of_ble_eq_true rfl) (by decide +kernel))
theorem dl_406 : decode code 406 = .ok (.iconst 1, 1) := dc_4 (dcc (r := 22) lq_6 rfl (Nat.le_of_ble_eq_true rfl) (by decide +kernel))
theorem dl_407 : decode code 407 = .ok (.iadd, 1) := dc_96 (dcc (r := 23) lq_6 rfl (Nat.le_of_ble_eq_true rfl) (by decide +kernel))
theorem dl_408 : decode code 408 = .ok (.iaload, 1) := dc_46 (dcc (r := 24) lq_6 rfl (Nat.le_of_ble_eq_true rfl) (by decide +kernel))
theorem dl_409 : decode code 409 = .ok (.aload_n 0, 1) := dc_42 (dcc (r := 25) lq_6 rfl (Nat.le_of_ble_eq_true rfl) (by decide +kernel))
theorem dl_410 : decode code 410 = .ok (.iload_n 3, 1) := dc_29 (dcc (r := 26) lq_6 rfl (Nat.le_of_ble_eq_true rfl) (by decide +kernel))
theorem dl_411 : decode code 411 = .ok (.iconst 2, 1) := dc_5 (dcc (r := 27) lq_6 rfl (Nat.le_of_ble_eq_true rfl) (by decide +kernel))
theorem dl_412 : decode code 412 = .ok (.iadd, 1) := dc_96 (dcc (r := 28) lq_6 rfl (Nat.le_of_ble_eq_true rfl) (by decide +kernel))
theorem dl_413 : decode code 413 = .ok (.iaload, 1) := dc_46 (dcc (r := 29) lq_6 rfl (Nat.le_of_ble_eq_true rfl) (by decide +kernel))
theorem dl_414 : decode code 414 = .ok (.ifCond .eq 7, 3) := dc_153 (a := 0) (b := 7) (dcc (r := 30) lq_6 rfl (Nat.le_of_ble_eq_true rfl) (by decide +kernel)) rfl
theorem dl_417 : decode code 417 = .ok (.iconst 1, 1) := dc_4 (dcc (r := 33) lq_6 rfl (Nat.le_of_ble_eq_true rfl) (by decide +kernel))
theorem dl_418 : decode code 418 = .ok (.goto 4, 3) := dc_167 (a := 0) (b := 4) (dcc (r := 34) lq_6 rfl (Nat.le_of_ble_eq_true rfl) (by decide +kernel)) rfl
theorem dl_421 : decode code 421 = .ok (.iconst 0, 1) := dc_3 (dcc (r := 37) lq_6 rfl (Nat.le_of_ble_eq_true rfl) (by decide +kernel))
theorem dl_422 : decode code 422 = .ok (.invokevirtual 52, 3) := dc_182 (a := 0) (b := 52) (dcc (r := 38) lq_6 rfl (Nat.le_of_ble_eq_true rfl) (by decide +kernel)) rfl
theorem dl_425 : decode code 425 = .ok (.pop, 1) := dc_87 (dcc (r := 41) lq_6 rfl (Nat.le_of_ble_eq_true rfl) (by decide +kernel))
theorem dl_426 : decode code 426 = .ok (.goto 933, 3) := dc_167 (a := 3) (b := 165) (dcc (r := 42) lq_6 rfl (Nat.le_of_ble_eq_true rfl) (by decide +kernel)) rfl
theorem dl_429 : decode code 429 = .ok (.aload_n 1, 1) := dc_43 (dcc (r := 45) lq_6 rfl (Nat.le_of_ble_eq_true rfl) (by decide +kernel))
theorem dl_430 : decode code 430 = .ok (.aload_n 0, 1) := dc_42 (dcc (r := 46) lq_6 rfl (Nat.le_of_ble_eq_true rfl) (by decide +kernel))
theorem dl_431 : decode code 431 = .ok (.iload_n 3, 1) := dc_29 (dcc (r := 47) lq_6 rfl (Nat.le_of_ble_eq_true rfl) (by decide +kernel))
theorem dl_432 : decode code 432 = .ok (.iconst 1, 1) := dc_4 (dcc (r := 48) lq_6 rfl (Nat.le_of_ble_eq_true rfl) (by decide +kernel))
theorem dl_433 : decode code 433 = .ok (.iadd, 1) := dc_96 (dcc (r := 49) lq_6 rfl (Nat.le_of_ble_eq_true rfl) (by decide +kernel))
theorem dl_434 : decode code 434 = .ok (.iaload, 1) := dc_46 (dcc (r := 50) lq_6 rfl (Nat.le_of_ble_eq_true rfl) (by decide +kernel))
theorem dl_435 : decode code 435 = .ok (.aload_n 0, 1) := dc_42 (dcc (r := 51) lq_6 rfl (Nat.le_of_ble_eq_true rfl) (by decide +kernel))
theorem dl_436 : decode code 436 = .ok (.iload_n 3, 1) := dc_29 (dcc (r := 52) lq_6 rfl (Nat.le_of_ble_eq_true rfl) (by decide +kernel))
theorem dl_437 : decode code 437 = .ok (.iconst 2, 1) := dc_5 (dcc (r := 53) lq_6 rfl (Nat.le_of_ble_eq_true rfl) (by decide +kernel))
theorem dl_438 : decode code 438 = .ok (.iadd, 1) := dc_96 (dcc (r := 54) lq_6 rfl (Nat.le_of_ble_eq_true rfl) (by decide +kernel))
theorem dl_439 : decode code 439 = .ok (.iaload, 1) := dc_46 (dcc (r := 55) lq_6 rfl (Nat.le_of_ble_eq_true rfl) (by decide +kernel))
theorem dl_440 : decode code 440 = .ok (.invokevirtual 53, 3) := dc_182 (a := 0) (b := 53) (dcc (r := 56) lq_6 rfl (Nat.le_of_ble_eq_true rfl) (by decide +kernel)) rfl
theorem dl_443 : decode code 443 = .ok (.pop, 1) := dc_87 (dcc (r := 59) lq_6 rfl (Nat.le_of_ble_eq_true rfl) (by decide +kernel))
theorem dl_444 : decode code 444 = .ok (.aload_n 2, 1) := dc_44 (dcc (r := 60) lq_6 rfl (Nat.le_of_ble_eq_true rfl) (by decide +kernel))
theorem dl_445 : decode code 445 = .ok (.aload_n 0, 1) := dc_42 (dcc (r := 61) lq_6 rfl (Nat.le_of_ble_eq_true rfl) (by decide +kernel))
theorem dl_446 : decode code 446 = .ok (.iload_n 3, 1) := dc_29 (dcc (r := 62) lq_6 rfl (Nat.le_of_ble_eq_true rfl) (by decide +kernel))
theorem dl_447 : decode code 447 = .ok (.iconst 1, 1) := dc_4 (dcc (r := 63) lq_6 rfl (Nat.le_of_ble_eq_true rfl) (by decide +kernel))
theorem dl_448 : decode code 448 = .ok (.iadd, 1) := dc_96 (dcc (r := 0) lq_7 rfl (Nat.le_of_ble_eq_true rfl) (by decide +kernel))
theorem dl_449 : decode code 449 = .ok (.iaload, 1) := dc_46 (dcc (r := 1) lq_7 rfl (Nat.le_of_ble_eq_true rfl) (by decide +kernel))
theorem dl_450 : decode code 450 = .ok (.aload_n 0, 1) := dc_42 (dcc (r := 2) lq_7 rfl (Nat.le_of_ble_eq_true rfl) (by decide +kernel))
theorem dl_451 : decode code 451 = .ok (.iload_n 3, 1) := dc_29 (dcc (r := 3) lq_7 rfl (Nat.le_of_ble_eq_true rfl) (by decide +kernel))
theorem dl_452 : decode code 452 = .ok (.iconst 2, 1) := dc_5 (dcc (r := 4) lq_7 rfl (Nat.le_of_ble_eq_true rfl) (by decide +kernel))
theorem dl_453 : decode code 453 = .ok (.iadd, 1) := dc_96 (dcc (r := 5) lq_7 rfl (Nat.le_of_ble_eq_true rfl) (by decide +kernel))
theorem dl_454 : decode code 454 = .ok (.iaload, 1) := dc_46 (dcc (r := 6) lq_7 rfl (Nat.le_of_ble_eq_true rfl) (by decide +kernel))
theorem dl_455 : decode code 455 = .ok (.invokevirtual 56, 3) := dc_182 (a := 0) (b := 56) (dcc (r := 7) lq_7 rfl (Nat.le_of_ble_eq_true rfl) (by decide +kernel)) rfl
theorem dl_458 : decode code 458 = .ok (.pop, 1) := dc_87 (dcc (r := 10) lq_7 rfl (Nat.le_of_ble_eq_true rfl) (by decide +kernel))
theorem dl_459 : decode code 459 = .ok (.goto 900, 3) := dc_167 (a := 3) (b := 132) (dcc (r := 11) lq_7 rfl (Nat.le_of_ble_eq_true rfl) (by decide +kernel)) rfl
theorem dl_462 : decode code 462 = .ok (.aload_n 1, 1) := dc_43 (dcc (r := 14) lq_7 rfl (Nat.le_of_ble_eq_true rfl) (by decide +kernel))
theorem dl_463 : decode code 463 = .ok (.aload_n 0, 1) := dc_42 (dcc (r := 15) lq_7 rfl (Nat.le_of_ble_eq_true rfl) (by decide +kernel))
theorem dl_464 : decode code 464 = .ok (.iload_n 3, 1) := dc_29 (dcc (r := 16) lq_7 rfl (Nat.le_of_ble_eq_true rfl) (by decide +kernel))
theorem dl_465 : decode code 465 = .ok (.iconst 1, 1) := dc_4 (dcc (r := 17) lq_7 rfl (Nat.le_of_ble_eq_true rfl) (by decide +kernel))
theorem dl_466 : decode code 466 = .ok (.iadd, 1) := dc_96 (dcc (r := 18) lq_7 rfl (Nat.le_of_ble_eq_true rfl) (by decide +kernel))
theorem dl_467 : decode code 467 = .ok (.iaload, 1) := dc_46 (dcc (r := 19) lq_7 rfl (Nat.le_of_ble_eq_true rfl) (by decide +kernel))
theorem dl_468 : decode code 468 = .ok (.aload_n 0, 1) := dc_42 (dcc (r := 20) lq_7 rfl (Nat.le_of_ble_eq_true rfl) (by decide +kernel))
theorem dl_469 : decode code 469 = .ok (.iload_n 3, 1) := dc_29 (dcc (r := 21) lq_7 rfl (Nat.le_of_ble_eq_true rfl) (by decide +kernel))
theorem dl_470 : decode code 470 = .ok (.iconst 2, 1) := dc_5 (dcc (r := 22) lq_7 rfl (Nat.le_of_ble_eq_true rfl) (by decide +kernel))
theorem dl_471 : decode code 471 = .ok (.iadd, 1) := dc_96 (dcc (r := 23) lq_7 rfl (Nat.le_of_ble_eq_true rfl) (by decide +kernel))
theorem dl_472 : decode code 472 = .ok (.iaload, 1) := dc_46 (dcc (r := 24) lq_7 rfl (Nat.le_of_ble_eq_true rfl) (by decide +kernel))
theorem dl_473 : decode code 473 = .ok (.invokevirtual 57, 3) := dc_182 (a := 0) (b := 57) (dcc (r := 25) lq_7 rfl (Nat.le_of_ble_eq_true rfl) (by decide +kernel)) rfl
theorem dl_476 : decode code 476 = .ok (.pop, 1) := dc_87 (dcc (r := 28) lq_7 rfl (Nat.le_of_ble_eq_true rfl) (by decide +kernel))
theorem dl_477 : decode code 477 = .ok (.aload_n 2, 1) := dc_44 (dcc (r := 29) lq_7 rfl (Nat.le_of_ble_eq_true rfl) (by decide +kernel))
theorem dl_478 : decode code 478 = .ok (.aload_n 0, 1) := dc_42 (dcc (r := 30) lq_7 rfl (Nat.le_of_ble_eq_true rfl) (by decide +kernel))
theorem dl_479 : decode code 479 = .ok (.iload_n 3, 1) := dc_29 (dcc (r := 31) lq_7 rfl (Nat.le_of_ble_eq_true rfl) (by decide +kernel))
theorem dl_480 : decode code 480 = .ok (.iconst 1, 1) := dc_4 (dcc (r := 32) lq_7 rfl (Nat.le_of_ble_eq_true rfl) (by decide +kernel))
theorem dl_481 : decode code 481 = .ok (.iadd, 1) := dc_96 (dcc (r := 33) lq_7 rfl (Nat.le_of_ble_eq_true rfl) (by decide +kernel))
theorem dl_482 : decode code 482 = .ok (.iaload, 1) := dc_46 (dcc (r := 34) lq_7 rfl (Nat.le_of_ble_eq_true rfl) (by decide +kernel))
theorem dl_483 : decode code 483 = .ok (.aload_n 0, 1) := dc_42 (dcc (r := 35) lq_7 rfl (Nat.le_of_ble_eq_true rfl) (by decide +kernel))
theorem dl_484 : decode code 484 = .ok (.iload_n 3, 1) := dc_29 (dcc (r := 36) lq_7 rfl (Nat.le_of_ble_eq_true rfl) (by decide +kernel))
theorem dl_485 : decode code 485 = .ok (.iconst 2, 1) := dc_5 (dcc (r := 37) lq_7 rfl (Nat.le_of_ble_eq_true rfl) (by decide +kernel))
theorem dl_486 : decode code 486 = .ok (.iadd, 1) := dc_96 (dcc (r := 38) lq_7 rfl (Nat.le_of_ble_eq_true rfl) (by decide +kernel))
theorem dl_487 : decode code 487 = .ok (.iaload, 1) := dc_46 (dcc (r := 39) lq_7 rfl (Nat.le_of_ble_eq_true rfl) (by decide +kernel))
theorem dl_488 : decode code 488 = .ok (.invokevirtual 60, 3) := dc_182 (a := 0) (b := 60) (dcc (r := 40) lq_7 rfl (Nat.le_of_ble_eq_true rfl) (by decide +kernel)) rfl
theorem dl_491 : decode code 491 = .ok (.pop, 1) := dc_87 (dcc (r := 43) lq_7 rfl (Nat.le_of_ble_eq_true rfl) (by decide +kernel))
theorem dl_492 : decode code 492 = .ok (.goto 867, 3) := dc_167 (a := 3) (b := 99) (dcc (r := 44) lq_7 rfl (Nat.le_of_ble_eq_true rfl) (by decide +kernel)) rfl
theorem dl_495 : decode code 495 = .ok (.aload_n 1, 1) := dc_43 (dcc (r := 47) lq_7 rfl (Nat.le_of_ble_eq_true rfl) (by decide +kernel))
theorem dl_496 : decode code 496 = .ok (.aload_n 0, 1) := dc_42 (dcc (r := 48) lq_7 rfl (Nat.le_of_ble_eq_true rfl) (by decide +kernel))
theorem dl_497 : decode code 497 = .ok (.iload_n 3, 1) := dc_29 (dcc (r := 49) lq_7 rfl (Nat.le_of_ble_eq_true rfl) (by decide +kernel))
theorem dl_498 : decode code 498 = .ok (.iconst 1, 1) := dc_4 (dcc (r := 50) lq_7 rfl (Nat.le_of_ble_eq_true rfl) (by decide +kernel))
theorem dl_499 : decode code 499 = .ok (.iadd, 1) := dc_96 (dcc (r := 51) lq_7 rfl (Nat.le_of_ble_eq_true rfl) (by decide +kernel))
theorem dl_500 : decode code 500 = .ok (.iaload, 1) := dc_46 (dcc (r := 52) lq_7 rfl (Nat.le_of_ble_eq_true rfl) (by decide +kernel))
theorem dl_501 : decode code 501 = .ok (.aload_n 0, 1) := dc_42 (dcc (r := 53) lq_7 rfl (Nat.le_of_ble_eq_true rfl) (by decide +kernel))
theorem dl_502 : decode code 502 = .ok (.iload_n 3, 1) := dc_29 (dcc (r := 54) lq_7 rfl (Nat.le_of_ble_eq_true rfl) (by decide +kernel))
theorem dl_503 : decode code 503 = .ok (.iconst 2, 1) := dc_5 (dcc (r := 55) lq_7 rfl (Nat.le_of_ble_eq_true rfl) (by decide +kernel))
theorem dl_504 : decode code 504 = .ok (.iadd, 1) := dc_96 (dcc (r := 56) lq_7 rfl (Nat.le_of_ble_eq_true rfl) (by decide +kernel))
theorem dl_505 : decode code 505 = .ok (.iaload, 1) := dc_46 (dcc (r := 57) lq_7 rfl (Nat.le_of_ble_eq_true rfl) (by decide +kernel))
theorem dl_506 : decode code 506 = .ok (.invokevirtual 61, 3) := dc_182 (a := 0) (b := 61) (dcc (r := 58) lq_7 rfl (Nat.le_of_ble_eq_true rfl) (by decide +kernel)) rfl
theorem dl_509 : decode code 509 = .ok (.pop, 1) := dc_87 (dcc (r := 61) lq_7 rfl (Nat.le_of_ble_eq_true rfl) (by decide +kernel))
theorem dl_510 : decode code 510 = .ok (.aload_n 2, 1) := dc_44 (dcc (r := 62) lq_7 rfl (Nat.le_of_ble_eq_true rfl) (by decide +kernel))
theorem dl_511 : decode code 511 = .ok (.aload_n 0, 1) := dc_42 (dcc (r := 63) lq_7 rfl (Nat.le_of_ble_eq_true rfl) (by decide +kernel))
theorem dl_512 : decode code 512 = .ok (.iload_n 3, 1) := dc_29 (dcc (r := 0) lq_8 rfl (Nat.le_of_ble_eq_true rfl) (by decide +kernel))
theorem dl_513 : decode code 513 = .ok (.iconst 1, 1) := dc_4 (dcc (r := 1) lq_8 rfl (Nat.le_of_ble_eq_true rfl) (by decide +kernel))
theorem dl_514 : decode code 514 = .ok (.iadd, 1) := dc_96 (dcc (r := 2) lq_8 rfl (Nat.le_of_ble_eq_true rfl) (by decide +kernel))
theorem dl_515 : decode code 515 = .ok (.iaload, 1) := dc_46 (dcc (r := 3) lq_8 rfl (Nat.le_of_ble_eq_true rfl) (by decide +kernel))
theorem dl_516 : decode code 516 = .ok (.aload_n 0, 1) := dc_42 (dcc (r := 4) lq_8 rfl (Nat.le_of_ble_eq_true rfl) (by decide +kernel))
theorem dl_517 : decode code 517 = .ok (.iload_n 3, 1) := dc_29 (dcc (r := 5) lq_8 rfl (Nat.le_of_ble_eq_true rfl) (by decide +kernel))
theorem dl_518 : decode code 518 = .ok (.iconst 2, 1) := dc_5 (dcc (r := 6) lq_8 rfl (Nat.le_of_ble_eq_true rfl) (by decide +kernel))
theorem dl_519 : decode code 519 = .ok (.iadd, 1) := dc_96 (dcc (r := 7) lq_8 rfl (Nat.le_of_ble_eq_true rfl) (by decide +kernel))
theorem dl_520 : decode code 520 = .ok (.iaload, 1) := dc_46 (dcc (r := 8) lq_8 rfl (Nat.le_of_ble_eq_true rfl) (by decide +kernel))
theorem dl_521 : decode code 521 = .ok (.invokevirtual 64, 3) := dc_182 (a := 0) (b := 64) (dcc (r := 9) lq_8 rfl (Nat.le_of_ble_eq_true rfl) (by decide +kernel)) rfl
theorem dl_524 : decode code 524 = .ok (.pop, 1) := dc_87 (dcc (r := 12) lq_8 rfl (Nat.le_of_ble_eq_true rfl) (by decide +kernel))
theorem dl_525 : decode code 525 = .ok (.goto 834, 3) := dc_167 (a := 3) (b := 66) (dcc (r := 13) lq_8 rfl (Nat.le_of_ble_eq_true rfl) (by decide +kernel)) rfl
theorem dl_528 : decode code 528 = .ok (.aload_n 1, 1) := dc_43 (dcc (r := 16) lq_8 rfl (Nat.le_of_ble_eq_true rfl) (by decide +kernel))
theorem dl_529 : decode code 529 = .ok (.aload_n 0, 1) := dc_42 (dcc (r := 17) lq_8 rfl (Nat.le_of_ble_eq_true rfl) (by decide +kernel))
theorem dl_530 : decode code 530 = .ok (.iload_n 3, 1) := dc_29 (dcc (r := 18) lq_8 rfl (Nat.le_of_ble_eq_true rfl) (by decide +kernel))
theorem dl_531 : decode code 531 = .ok (.iconst 1, 1) := dc_4 (dcc (r := 19) lq_8 rfl (Nat.le_of_ble_eq_true rfl) (by decide +kernel))
theorem dl_532 : decode code 532 = .ok (.iadd, 1) := dc_96 (dcc (r := 20) lq_8 rfl (Nat.le_of_ble_eq_true rfl) (by decide +kernel))
theorem dl_533 : decode code 533 = .ok (.iaload, 1) := dc_46 (dcc (r := 21) lq_8 rfl (Nat.le_of_ble_eq_true rfl) (by decide +kernel))
theorem dl_534 : decode code 534 = .ok (.aload_n 0, 1) := dc_42 (dcc (r := 22) lq_8 rfl (Nat.le_of_ble_eq_true rfl) (by decide +kernel))
theorem dl_535 : decode code 535 = .ok (.iload_n 3, 1) := dc_29 (dcc (r := 23) lq_8 rfl (Nat.le_of_ble_eq_true rfl) (by decide +kernel))
theorem dl_536 : decode code 536 = .ok (.iconst 2, 1) := dc_5 (dcc (r := 24) lq_8 rfl (Nat.le_of_ble_eq_true rfl) (by decide +kernel))
theorem dl_537 : decode code 537 = .ok (.iadd, 1) := dc_96 (dcc (r := 25) lq_8 rfl (Nat.le_of_ble_eq_true rfl) (by decide +kernel))
theorem dl_538 : decode code 538 = .ok (.iaload, 1) := dc_46 (dcc (r := 26) lq_8 rfl (Nat.le_of_ble_eq_true rfl) (by decide +kernel))
theorem dl_539 : decode code 539 = .ok (.invokevirtual 65, 3) := dc_182 (a := 0) (b := 65) (dcc (r := 27) lq_8 rfl (Nat.le_of_ble_eq_true rfl) (by decide +kernel)) rfl
theorem dl_542 : decode code 542 = .ok (.pop, 1) := dc_87 (dcc (r := 30) lq_8 rfl (Nat.le_of_ble_eq_true rfl) (by decide +kernel))
theorem dl_543 : decode code 543 = .ok (.aload_n 2, 1) := dc_44 (dcc (r := 31) lq_8 rfl (Nat.le_of_ble_eq_true rfl) (by decide +kernel))
theorem dl_544 : decode code 544 = .ok (.aload_n 0, 1) := dc_42 (dcc (r := 32) lq_8 rfl (Nat.le_of_ble_eq_true rfl) (by decide +kernel))
theorem dl_545 : decode code 545 = .ok (.iload_n 3, 1) := dc_29 (dcc (r := 33) lq_8 rfl (Nat.le_of_ble_eq_true rfl) (by decide +kernel))
theorem dl_546 : decode code 546 = .ok (.iconst 1, 1) := dc_4 (dcc (r := 34) lq_8 rfl (Nat.le_of_ble_eq_true rfl) (by decide +kernel))
theorem dl_547 : decode code 547 = .ok (.iadd, 1) := dc_96 (dcc (r := 35) lq_8 rfl (Nat.le_of_ble_eq_true rfl) (by decide +kernel))
theorem dl_548 : decode code 548 = .ok (.iaload, 1) := dc_46 (dcc (r := 36) lq_8 rfl (Nat.le_of_ble_eq_true rfl) (by decide +kernel))
theorem dl_549 : decode code 549 = .ok (.aload_n 0, 1) := dc_42 (dcc (r := 37) lq_8 rfl (Nat.le_of_ble_eq_true rfl) (by decide +kernel))
theorem dl_550 : decode code 550 = .ok (.iload_n 3, 1) := dc_29 (dcc (r := 38) lq_8 rfl (Nat.le_of_ble_eq_true rfl) (by decide +kernel))
theorem dl_551 : decode code 551 = .ok (.iconst 2, 1) := dc_5 (dcc (r := 39) lq_8 rfl (Nat.le_of_ble_eq_true rfl) (by decide +kernel))
theorem dl_552 : decode code 552 = .ok (.iadd, 1) := dc_96 (dcc (r := 40) lq_8 rfl (Nat.le_of_ble_eq_true rfl) (by decide +kernel))
theorem dl_553 : decode code 553 = .ok (.iaload, 1) := dc_46 (dcc (r := 41) lq_8 rfl (Nat.le_of_ble_eq_true rfl) (by decide +kernel))
theorem dl_554 : decode code 554 = .ok (.invokevirtual 68, 3) := dc_182 (a := 0) (b := 68) (dcc (r := 42) lq_8 rfl (Nat.le_of_ble_eq_true rfl) (by decide +kernel)) rfl
theorem dl_557 : decode code 557 = .ok (.pop, 1) := dc_87 (dcc (r := 45) lq_8 rfl (Nat.le_of_ble_eq_true rfl) (by decide +kernel))
theorem dl_558 : decode code 558 = .ok (.goto 801, 3) := dc_167 (a := 3) (b := 33) (dcc (r := 46) lq_8 rfl (Nat.le_of_ble_eq_true rfl) (by decide +kernel)) rfl
theorem dl_561 : decode code 561 = .ok (.aload_n 1, 1) := dc_43 (dcc (r := 49) lq_8 rfl (Nat.le_of_ble_eq_true rfl) (by decide +kernel))
theorem dl_562 : decode code 562 = .ok (.aload_n 0, 1) := dc_42 (dcc (r := 50) lq_8 rfl (Nat.le_of_ble_eq_true rfl) (by decide +kernel))
theorem dl_563 : decode code 563 = .ok (.iload_n 3, 1) := dc_29 (dcc (r := 51) lq_8 rfl (Nat.le_of_ble_eq_true rfl) (by decide +kernel))
theorem dl_564 : decode code 564 = .ok (.iconst 1, 1) := dc_4 (dcc (r := 52) lq_8 rfl (Nat.le_of_ble_eq_true rfl) (by decide +kernel))
theorem dl_565 : decode code 565 = .ok (.iadd, 1) := dc_96 (dcc (r := 53) lq_8 rfl (Nat.le_of_ble_eq_true rfl) (by decide +kernel))
theorem dl_566 : decode code 566 = .ok (.iaload, 1) := dc_46 (dcc (r := 54) lq_8 rfl (Nat.le_of_ble_eq_true rfl) (by decide +kernel))
theorem dl_567 : decode code 567 = .ok (.aload_n 0, 1) := dc_42 (dcc (r := 55) lq_8 rfl (Nat.le_of_ble_eq_true rfl) (by decide +kernel))
theorem dl_568 : decode code 568 = .ok (.iload_n 3, 1) := dc_29 (dcc (r := 56) lq_8 rfl (Nat.le_of_ble_eq_true rfl) (by decide +kernel))
theorem dl_569 : decode code 569 = .ok (.iconst 2, 1) := dc_5 (dcc (r := 57) lq_8 rfl (Nat.le_of_ble_eq_true rfl) (by decide +kernel))
theorem dl_570 : decode code 570 = .ok (.iadd, 1) := dc_96 (dcc (r := 58) lq_8 rfl (Nat.le_of_ble_eq_true rfl) (by decide +kernel))
theorem dl_571 : decode code 571 = .ok (.iaload, 1) := dc_46 (dcc (r := 59) lq_8 rfl (Nat.le_of_ble_eq_true rfl) (by decide +kernel))
theorem dl_572 : decode code 572 = .ok (.aload_n 0, 1) := dc_42 (dcc (r := 60) lq_8 rfl (Nat.le_of_ble_eq_true rfl) (by decide +kernel))
theorem dl_573 : decode code 573 = .ok (.iload_n 3, 1) := dc_29 (dcc (r := 61) lq_8 rfl (Nat.le_of_ble_eq_true rfl) (by decide +kernel))
theorem dl_574 : decode code 574 = .ok (.iconst 3, 1) := dc_6 (dcc (r := 62) lq_8 rfl (Nat.le_of_ble_eq_true rfl) (by decide +kernel))
theorem dl_575 : decode code 575 = .ok (.iadd, 1) := dc_96 (dcc (r := 63) lq_8 rfl (Nat.le_of_ble_eq_true rfl) (by decide +kernel))
theorem dl_576 : decode code 576 = .ok (.iaload, 1) := dc_46 (dcc (r := 0) lq_9 rfl (Nat.le_of_ble_eq_true rfl) (by decide +kernel))
theorem dl_577 : decode code 577 = .ok (.invokevirtual 69, 3) := dc_182 (a := 0) (b := 69) (dcc (r := 1) lq_9 rfl (Nat.le_of_ble_eq_true rfl) (by decide +kernel)) rfl
theorem dl_580 : decode code 580 = .ok (.pop, 1) := dc_87 (dcc (r := 4) lq_9 rfl (Nat.le_of_ble_eq_true rfl) (by decide +kernel))
theorem dl_581 : decode code 581 = .ok (.aload_n 2, 1) := dc_44 (dcc (r := 5) lq_9 rfl (Nat.le_of_ble_eq_true rfl) (by decide +kernel))
theorem dl_582 : decode code 582 = .ok (.aload_n 0, 1) := dc_42 (dcc (r := 6) lq_9 rfl (Nat.le_of_ble_eq_true rfl) (by decide +kernel))
theorem dl_583 : decode code 583 = .ok (.iload_n 3, 1) := dc_29 (dcc (r := 7) lq_9 rfl (Nat.le_of_ble_eq_true rfl) (by decide +kernel))
theorem dl_584 : decode code 584 = .ok (.iconst 1, 1) := dc_4 (dcc (r := 8) lq_9 rfl (Nat.le_of_ble_eq_true rfl) (by decide +kernel))
theorem dl_585 : decode code 585 = .ok (.iadd, 1) := dc_96 (dcc (r := 9) lq_9 rfl (Nat.le_of_ble_eq_true rfl) (by decide +kernel))
theorem dl_586 : decode code 586 = .ok (.iaload, 1) := dc_46 (dcc (r := 10) lq_9 rfl (Nat.le_of_ble_eq_true rfl) (by decide +kernel))
theorem dl_587 : decode code 587 = .ok (.aload_n 0, 1) := dc_42 (dcc (r := 11) lq_9 rfl (Nat.le_of_ble_eq_true rfl) (by decide +kernel))
theorem dl_588 : decode code 588 = .ok (.iload_n 3, 1) := dc_29 (dcc (r := 12) lq_9 rfl (Nat.le_of_ble_eq_true rfl) (by decide +kernel))
theorem dl_589 : decode code 589 = .ok (.iconst 2, 1) := dc_5 (dcc (r := 13) lq_9 rfl (Nat.le_of_ble_eq_true rfl) (by decide +kernel))
theorem dl_590 : decode code 590 = .ok (.iadd, 1) := dc_96 (dcc (r := 14) lq_9 rfl (Nat.le_of_ble_eq_true rfl) (by decide +kernel))
theorem dl_591 : decode code 591 = .ok (.iaload, 1) := dc_46 (dcc (r := 15) lq_9 rfl (Nat.le_of_ble_eq_true rfl) (by decide +kernel))
theorem dl_592 : decode code 592 = .ok (.aload_n 0, 1) := dc_42 (dcc (r := 16) lq_9 rfl (Nat.le_of_ble_eq_true rfl) (by decide +kernel))
theorem dl_593 : decode code 593 = .ok (.iload_n 3, 1) := dc_29 (dcc (r := 17) lq_9 rfl (Nat.le_of_ble_eq_true rfl) (by decide +kernel))
theorem dl_594 : decode code 594 = .ok (.iconst 3, 1) := dc_6 (dcc (r := 18) lq_9 rfl (Nat.le_of_ble_eq_true rfl) (by decide +kernel))
theorem dl_595 : decode code 595 = .ok (.iadd, 1) := dc_96 (dcc (r := 19) lq_9 rfl (Nat.le_of_ble_eq_true rfl) (by decide +kernel))
theorem dl_596 : decode code 596 = .ok (.iaload, 1) := dc_46 (dcc (r := 20) lq_9 rfl (Nat.le_of_ble_eq_true rfl) (by decide +kernel))
theorem dl_597 : decode code 597 = .ok (.invokevirtual 73, 3) := dc_182 (a := 0) (b := 73) (dcc (r := 21) lq_9 rfl (Nat.le_of_ble_eq_true rfl) (by decide +kernel)) rfl
theorem dl_600 : decode code 600 = .ok (.pop, 1) := dc_87 (dcc (r := 24) lq_9 rfl (Nat.le_of_ble_eq_true rfl) (by decide +kernel))
theorem dl_601 : decode code 601 = .ok (.goto 758, 3) := dc_167 (a := 2) (b := 246) (dcc (r := 25) lq_9 rfl (Nat.le_of_ble_eq_true rfl) (by decide +kernel)) rfl
theorem dl_604 : decode code 604 = .ok (.aload_n 1, 1) := dc_43 (dcc (r := 28) lq_9 rfl (Nat.le_of_ble_eq_true rfl) (by decide +kernel))
theorem dl_605 : decode code 605 = .ok (.aload_n 0, 1) := dc_42 (dcc (r := 29) lq_9 rfl (Nat.le_of_ble_eq_true rfl) (by decide +kernel))
theorem dl_606 : decode code 606 = .ok (.iload_n 3, 1) := dc_29 (dcc (r := 30) lq_9 rfl (Nat.le_of_ble_eq_true rfl) (by decide +kernel))
theorem dl_607 : decode code 607 = .ok (.iconst 1, 1) := dc_4 (dcc (r := 31) lq_9 rfl (Nat.le_of_ble_eq_true rfl) (by decide +kernel))
theorem dl_608 : decode code 608 = .ok (.iadd, 1) := dc_96 (dcc (r := 32) lq_9 rfl (Nat.le_of_ble_eq_true rfl) (by decide +kernel))
theorem dl_609 : decode code 609 = .ok (.iaload, 1) := dc_46 (dcc (r := 33) lq_9 rfl (Nat.le_of_ble_eq_true rfl) (by decide +kernel))
theorem dl_610 : decode code 610 = .ok (.invokevirtual 74, 3) := dc_182 (a := 0) (b := 74) (dcc (r := 34) lq_9 rfl (Nat.le_of_ble_eq_true rfl) (by decide +kernel)) rfl
theorem dl_613 : decode code 613 = .ok (.pop, 1) := dc_87 (dcc (r := 37) lq_9 rfl (Nat.le_of_ble_eq_true rfl) (by decide +kernel))
theorem dl_614 : decode code 614 = .ok (.aload_n 2, 1) := dc_44 (dcc (r := 38) lq_9 rfl (Nat.le_of_ble_eq_true rfl) (by decide +kernel))
theorem dl_615 : decode code 615 = .ok (.aload_n 0, 1) := dc_42 (dcc (r := 39) lq_9 rfl (Nat.le_of_ble_eq_true rfl) (by decide +kernel))
theorem dl_616 : decode code 616 = .ok (.iload_n 3, 1) := dc_29 (dcc (r := 40) lq_9 rfl (Nat.le_of_ble_eq_true rfl) (by decide +kernel))
theorem dl_617 : decode code 617 = .ok (.iconst 1, 1) := dc_4 (dcc (r := 41) lq_9 rfl (Nat.le_of_ble_eq_true rfl) (by decide +kernel))
theorem dl_618 : decode code 618 = .ok (.iadd, 1) := dc_96 (dcc (r := 42) lq_9 rfl (Nat.le_of_ble_eq_true rfl) (by decide +kernel))
theorem dl_619 : decode code 619 = .ok (.iaload, 1) := dc_46 (dcc (r := 43) lq_9 rfl (Nat.le_of_ble_eq_true rfl) (by decide +kernel))
theorem dl_620 : decode code 620 = .ok (.invokevirtual 77, 3) := dc_182 (a := 0) (b := 77) (dcc (r := 44) lq_9 rfl (Nat.le_of_ble_eq_true rfl) (by decide +kernel)) rfl
theorem dl_623 : decode code 623 = .ok (.pop, 1) := dc_87 (dcc (r := 47) lq_9 rfl (Nat.le_of_ble_eq_true rfl) (by decide +kernel))
theorem dl_624 : decode code 624 = .ok (.goto 735, 3) := dc_167 (a := 2) (b := 223) (dcc (r := 48) lq_9 rfl (Nat.le_of_ble_eq_true rfl) (by decide +kernel)) rfl
theorem dl_627 : decode code 627 = .ok (.aload_n 1, 1) := dc_43 (dcc (r := 51) lq_9 rfl (Nat.le_of_ble_eq_true rfl) (by decide +kernel))
theorem dl_628 : decode code 628 = .ok (.aload_n 0, 1) := dc_42 (dcc (r := 52) lq_9 rfl (Nat.le_of_ble_eq_true rfl) (by decide +kernel))
theorem dl_629 : decode code 629 = .ok (.iload_n 3, 1) := dc_29 (dcc (r := 53) lq_9 rfl (Nat.le_of_ble_eq_true rfl) (by decide +kernel))
theorem dl_630 : decode code 630 = .ok (.iconst 1, 1) := dc_4 (dcc (r := 54) lq_9 rfl (Nat.le_of_ble_eq_true rfl) (by decide +kernel))
theorem dl_631 : decode code 631 = .ok (.iadd, 1) := dc_96 (dcc (r := 55) lq_9 rfl (Nat.le_of_ble_eq_true rfl) (by decide +kernel))
theorem dl_632 : decode code 632 = .ok (.iaload, 1) := dc_46 (dcc (r := 56) lq_9 rfl (Nat.le_of_ble_eq_true rfl) (by decide +kernel))
theorem dl_633 : decode code 633 = .ok (.invokevirtual 78, 3) := dc_182 (a := 0) (b := 78) (dcc (r := 57) lq_9 rfl (Nat.le_of_ble_eq_true rfl) (by decide +kernel)) rfl
theorem dl_636 : decode code 636 = .ok (.pop, 1) := dc_87 (dcc (r := 60) lq_9 rfl (Nat.le_of_ble_eq_true rfl) (by decide +kernel))
theorem dl_637 : decode code 637 = .ok (.aload_n 2, 1) := dc_44 (dcc (r := 61) lq_9 rfl (Nat.le_of_ble_eq_true rfl) (by decide +kernel))
theorem dl_638 : decode code 638 = .ok (.aload_n 0, 1) := dc_42 (dcc (r := 62) lq_9 rfl (Nat.le_of_ble_eq_true rfl) (by decide +kernel))
theorem dl_639 : decode code 639 = .ok (.iload_n 3, 1) := dc_29 (dcc (r := 63) lq_9 rfl (Nat.le_of_ble_eq_true rfl) (by decide +kernel))
theorem dl_640 : decode code 640 = .ok (.iconst 1, 1) := dc_4 (dcc (r := 0) lq_10 rfl (Nat.le_of_ble_eq_true rfl) (by decide +kernel))
theorem dl_641 : decode code 641 = .ok (.iadd, 1) := dc_96 (dcc (r := 1) lq_10 rfl (Nat.le_of_ble_eq_true rfl) (by decide +kernel))
theorem dl_642 : decode code 642 = .ok (.iaload, 1) := dc_46 (dcc (r := 2) lq_10 rfl (Nat.le_of_ble_eq_true rfl) (by decide +kernel))
theorem dl_643 : decode code 643 = .ok (.invokevirtual 81, 3) := dc_182 (a := 0) (b := 81) (dcc (r := 3) lq_10 rfl (Nat.le_of_ble_eq_true rfl) (by decide +kernel)) rfl
theorem dl_646 : decode code 646 = .ok (.pop, 1) := dc_87 (dcc (r := 6) lq_10 rfl (Nat.le_of_ble_eq_true rfl) (by decide +kernel))
theorem dl_647 : decode code 647 = .ok (.goto 712, 3) := dc_167 (a := 2) (b := 200) (dcc (r := 7) lq_10 rfl (Nat.le_of_ble_eq_true rfl) (by decide +kernel)) rfl
theorem dl_650 : decode code 650 = .ok (.aload_n 1, 1) := dc_43 (dcc (r := 10) lq_10 rfl (Nat.le_of_ble_eq_true rfl) (by decide +kernel))
theorem dl_651 : decode code 651 = .ok (.aload_n 0, 1) := dc_42 (dcc (r := 11) lq_10 rfl (Nat.le_of_ble_eq_true rfl) (by decide +kernel))
theorem dl_652 : decode code 652 = .ok (.iload_n 3, 1) := dc_29 (dcc (r := 12) lq_10 rfl (Nat.le_of_ble_eq_true rfl) (by decide +kernel))
theorem dl_653 : decode code 653 = .ok (.iconst 1, 1) := dc_4 (dcc (r := 13) lq_10 rfl (Nat.le_of_ble_eq_true rfl) (by decide +kernel))
theorem dl_654 : decode code 654 = .ok (.iadd, 1) := dc_96 (dcc (r := 14) lq_10 rfl (Nat.le_of_ble_eq_true rfl) (by decide +kernel))
theorem dl_655 : decode code 655 = .ok (.iaload, 1) := dc_46 (dcc (r := 15) lq_10 rfl (Nat.le_of_ble_eq_true rfl) (by decide +kernel))
theorem dl_656 : decode code 656 = .ok (.aload_n 0, 1) := dc_42 (dcc (r := 16) lq_10 rfl (Nat.le_of_ble_eq_true rfl) (by decide +kernel))
theorem dl_657 : decode code 657 = .ok (.iload_n 3, 1) := dc_29 (dcc (r := 17) lq_10 rfl (Nat.le_of_ble_eq_true rfl) (by decide +kernel))
theorem dl_658 : decode code 658 = .ok (.iconst 2, 1) := dc_5 (dcc (r := 18) lq_10 rfl (Nat.le_of_ble_eq_true rfl) (by decide +kernel))
theorem dl_659 : decode code 659 = .ok (.iadd, 1) := dc_96 (dcc (r := 19) lq_10 rfl (Nat.le_of_ble_eq_true rfl) (by decide +kernel))
theorem dl_660 : decode code 660 = .ok (.iaload, 1) := dc_46 (dcc (r := 20) lq_10 rfl (Nat.le_of_ble_eq_true rfl) (by decide +kernel))
theorem dl_661 : decode code 661 = .ok (.aload_n 0, 1) := dc_42 (dcc (r := 21) lq_10 rfl (Nat.le_of_ble_eq_true rfl) (by decide +kernel))
theorem dl_662 : decode code 662 = .ok (.iload_n 3, 1) := dc_29 (dcc (r := 22) lq_10 rfl (Nat.le_of_ble_eq_true rfl) (by decide +kernel))
theorem dl_663 : decode code 663 = .ok (.iconst 3, 1) := dc_6 (dcc (r := 23) lq_10 rfl (Nat.le_of_ble_eq_true rfl) (by decide +kernel))
theorem dl_664 : decode code 664 = .ok (.iadd, 1) := dc_96 (dcc (r := 24) lq_10 rfl (Nat.le_of_ble_eq_true rfl) (by decide +kernel))
theorem dl_665 : decode code 665 = .ok (.iaload, 1) := dc_46 (dcc (r := 25) lq_10 rfl (Nat.le_of_ble_eq_true rfl) (by decide +kernel))
theorem dl_666 : decode code 666 = .ok (.invokevirtual 82, 3) := dc_182 (a := 0) (b := 82) (dcc (r := 26) lq_10 rfl (Nat.le_of_ble_eq_true rfl) (by decide +kernel)) rfl
theorem dl_669 : decode code 669 = .ok (.pop, 1) := dc_87 (dcc (r := 29) lq_10 rfl (Nat.le_of_ble_eq_true rfl) (by decide +kernel))
theorem dl_670 : decode code 670 = .ok (.aload_n 2, 1) := dc_44 (dcc (r := 30) lq_10 rfl (Nat.le_of_ble_eq_true rfl) (by decide +kernel))
theorem dl_671 : decode code 671 = .ok (.aload_n 0, 1) := dc_42 (dcc (r := 31) lq_10 rfl (Nat.le_of_ble_eq_true rfl) (by decide +kernel))
theorem dl_672 : decode code 672 = .ok (.iload_n 3, 1) := dc_29 (dcc (r := 32) lq_10 rfl (Nat.le_of_ble_eq_true rfl) (by decide +kernel))
theorem dl_673 : decode code 673 = .ok (.iconst 1, 1) := dc_4 (dcc (r := 33) lq_10 rfl (Nat.le_of_ble_eq_true rfl) (by decide +kernel))
theorem dl_674 : decode code 674 = .ok (.iadd, 1) := dc_96 (dcc (r := 34) lq_10 rfl (Nat.le_of_ble_eq_true rfl) (by decide +kernel))
theorem dl_675 : decode code 675 = .ok (.iaload, 1) := dc_46 (dcc (r := 35) lq_10 rfl (Nat.le_of_ble_eq_true rfl) (by decide +kernel))
theorem dl_676 : decode code 676 = .ok (.aload_n 0, 1) := dc_42 (dcc (r := 36) lq_10 rfl (Nat.le_of_ble_eq_true rfl) (by decide +kernel))
theorem dl_677 : decode code 677 = .ok (.iload_n 3, 1) := dc_29 (dcc (r := 37) lq_10 rfl (Nat.le_of_ble_eq_true rfl) (by decide +kernel))
theorem dl_678 : decode code 678 = .ok (.iconst 2, 1) := dc_5 (dcc (r := 38) lq_10 rfl (Nat.le_of_ble_eq_true rfl) (by decide +kernel))
theorem dl_679 : decode code 679 = .ok (.iadd, 1) := dc_96 (dcc (r := 39) lq_10 rfl (Nat.le_of_ble_eq_true rfl) (by decide +kernel))
theorem dl_680 : decode code 680 = .ok (.iaload, 1) := dc_46 (dcc (r := 40) lq_10 rfl (Nat.le_of_ble_eq_true rfl) (by decide +kernel))
theorem dl_681 : decode code 681 = .ok (.aload_n 0, 1) := dc_42 (dcc (r := 41) lq_10 rfl (Nat.le_of_ble_eq_true rfl) (by decide +kernel))
theorem dl_682 : decode code 682 = .ok (.iload_n 3, 1) := dc_29 (dcc (r := 42) lq_10 rfl (Nat.le_of_ble_eq_true rfl) (by decide +kernel))
theorem dl_683 : decode code 683 = .ok (.iconst 3, 1) := dc_6 (dcc (r := 43) lq_10 rfl (Nat.le_of_ble_eq_true rfl) (by decide +kernel))
theorem dl_684 : decode code 684 = .ok (.iadd, 1) := dc_96 (dcc (r := 44) lq_10 rfl (Nat.le_of_ble_eq_true rfl) (by decide +kernel))
theorem dl_685 : decode code 685 = .ok (.iaload, 1) := dc_46 (dcc (r := 45) lq_10 rfl (Nat.le_of_ble_eq_true rfl) (by decide +kernel))
theorem dl_686 : decode code 686 = .ok (.invokevirtual 85, 3) := dc_182 (a := 0) (b := 85) (dcc (r := 46) lq_10 rfl (Nat.le_of_ble_eq_true rfl) (by decide +kernel)) rfl
theorem dl_689 : decode code 689 = .ok (.pop, 1) := dc_87 (dcc (r := 49) lq_10 rfl (Nat.le_of_ble_eq_true rfl) (by decide +kernel))
theorem dl_690 : decode code 690 = .ok (.goto 669, 3) := dc_167 (a := 2) (b := 157) (dcc (r := 50) lq_10 rfl (Nat.le_of_ble_eq_true rfl) (by decide +kernel)) rfl
theorem dl_693 : decode code 693 = .ok (.aload_n 1, 1) := dc_43 (dcc (r := 53) lq_10 rfl (Nat.le_of_ble_eq_true rfl) (by decide +kernel))
theorem dl_694 : decode code 694 = .ok (.aload_n 0, 1) := dc_42 (dcc (r := 54) lq_10 rfl (Nat.le_of_ble_eq_true rfl) (by decide +kernel))
theorem dl_695 : decode code 695 = .ok (.iload_n 3, 1) := dc_29 (dcc (r := 55) lq_10 rfl (Nat.le_of_ble_eq_true rfl) (by decide +kernel))
theorem dl_696 : decode code 696 = .ok (.iconst 1, 1) := dc_4 (dcc (r := 56) lq_10 rfl (Nat.le_of_ble_eq_true rfl) (by decide +kernel))
theorem dl_697 : decode code 697 = .ok (.iadd, 1) := dc_96 (dcc (r := 57) lq_10 rfl (Nat.le_of_ble_eq_true rfl) (by decide +kernel))
theorem dl_698 : decode code 698 = .ok (.iaload, 1) := dc_46 (dcc (r := 58) lq_10 rfl (Nat.le_of_ble_eq_true rfl) (by decide +kernel))
theorem dl_699 : decode code 699 = .ok (.aload_n 0, 1) := dc_42 (dcc (r := 59) lq_10 rfl (Nat.le_of_ble_eq_true rfl) (by decide +kernel))
theorem dl_700 : decode code 700 = .ok (.iload_n 3, 1) := dc_29 (dcc (r := 60) lq_10 rfl (Nat.le_of_ble_eq_true rfl) (by decide +kernel))
theorem dl_701 : decode code 701 = .ok (.iconst 2, 1) := dc_5 (dcc (r := 61) lq_10 rfl (Nat.le_of_ble_eq_true rfl) (by decide +kernel))
theorem dl_702 : decode code 702 = .ok (.iadd, 1) := dc_96 (dcc (r := 62) lq_10 rfl (Nat.le_of_ble_eq_true rfl) (by decide +kernel))
theorem dl_703 : decode code 703 = .ok (.iaload, 1) := dc_46 (dcc (r := 63) lq_10 rfl (Nat.le_of_ble_eq_true rfl) (by decide +kernel))
theorem dl_704 : decode code 704 = .ok (.aload_n 0, 1) := dc_42 (dcc (r := 0) lq_11 rfl (Nat.le_of_ble_eq_true rfl) (by decide +kernel))
theorem dl_705 : decode code 705 = .ok (.iload_n 3, 1) := dc_29 (dcc (r := 1) lq_11 rfl (Nat.le_of_ble_eq_true rfl) (by decide +kernel))
theorem dl_706 : decode code 706 = .ok (.iconst 3, 1) := dc_6 (dcc (r := 2) lq_11 rfl (Nat.le_of_ble_eq_true rfl) (by decide +kernel))
theorem dl_707 : decode code 707 = .ok (.iadd, 1) := dc_96 (dcc (r := 3) lq_11 rfl (Nat.le_of_ble_eq_true rfl) (by decide +kernel))
theorem dl_708 : decode code 708 = .ok (.iaload, 1) := dc_46 (dcc (r := 4) lq_11 rfl (Nat.le_of_ble_eq_true rfl) (by decide +kernel))
theorem dl_709 : decode code 709 = .ok (.aload_n 0, 1) := dc_42 (dcc (r := 5) lq_11 rfl (Nat.le_of_ble_eq_true rfl) (by decide +kernel))
theorem dl_710 : decode code 710 = .ok (.iload_n 3, 1) := dc_29 (dcc (r := 6) lq_11 rfl (Nat.le_of_ble_eq_true rfl) (by decide +kernel))
theorem dl_711 : decode code 711 = .ok (.iconst 4, 1) := dc_7 (dcc (r := 7) lq_11 rfl (Nat.le_of_ble_eq_true rfl) (by decide +kernel))
theorem dl_712 : decode code 712 = .ok (.iadd, 1) := dc_96 (dcc (r := 8) lq_11 rfl (Nat.le_of_ble_eq_true rfl) (by decide +kernel))
theorem dl_713 : decode code 713 = .ok (.iaload, 1) := dc_46 (dcc (r := 9) lq_11 rfl (Nat.le_of_ble_eq_true rfl) (by decide +kernel))
theorem dl_714 : decode code 714 = .ok (.ifCond .eq 7, 3) := dc_153 (a := 0) (b := 7) (dcc (r := 10) lq_11 rfl (Nat.le_of_ble_eq_true rfl) (by decide +kernel)) rfl
theorem dl_717 : decode code 717 = .ok (.iconst 1, 1) := dc_4 (dcc (r := 13) lq_11 rfl (Nat.le_of_ble_eq_true rfl) (by decide +kernel))
theorem dl_718 : decode code 718 = .ok (.goto 4, 3) := dc_167 (a := 0) (b := 4) (dcc (r := 14) lq_11 rfl (Nat.le_of_ble_eq_true rfl) (by decide +kernel)) rfl
theorem dl_721 : decode code 721 = .ok (.iconst 0, 1) := dc_3 (dcc (r := 17) lq_11 rfl (Nat.le_of_ble_eq_true rfl) (by decide +kernel))
theorem dl_722 : decode code 722 = .ok (.invokevirtual 86, 3) := dc_182 (a := 0) (b := 86) (dcc (r := 18) lq_11 rfl (Nat.le_of_ble_eq_true rfl) (by decide +kernel)) rfl
theorem dl_725 : decode code 725 = .ok (.pop, 1) := dc_87 (dcc (r := 21) lq_11 rfl (Nat.le_of_ble_eq_true rfl) (by decide +kernel))
theorem dl_726 : decode code 726 = .ok (.aload_n 2, 1) := dc_44 (dcc (r := 22) lq_11 rfl (Nat.le_of_ble_eq_true rfl) (by decide +kernel))
theorem dl_727 : decode code 727 = .ok (.aload_n 0, 1) := dc_42 (dcc (r := 23) lq_11 rfl (Nat.le_of_ble_eq_true rfl) (by decide +kernel))
theorem dl_728 : decode code 728 = .ok (.iload_n 3, 1) := dc_29 (dcc (r := 24) lq_11 rfl (Nat.le_of_ble_eq_true rfl) (by decide +kernel))
theorem dl_729 : decode code 729 = .ok (.iconst 1, 1) := dc_4 (dcc (r := 25) lq_11 rfl (Nat.le_of_ble_eq_true rfl) (by decide +kernel))
theorem dl_730 : decode code 730 = .ok (.iadd, 1) := dc_96 (dcc (r := 26) lq_11 rfl (Nat.le_of_ble_eq_true rfl) (by decide +kernel))
theorem dl_731 : decode code 731 = .ok (.iaload, 1) := dc_46 (dcc (r := 27) lq_11 rfl (Nat.le_of_ble_eq_true rfl) (by decide +kernel))
theorem dl_732 : decode code 732 = .ok (.aload_n 0, 1) := dc_42 (dcc (r := 28) lq_11 rfl (Nat.le_of_ble_eq_true rfl) (by decide +kernel))
theorem dl_733 : decode code 733 = .ok (.iload_n 3, 1) := dc_29 (dcc (r := 29) lq_11 rfl (Nat.le_of_ble_eq_true rfl) (by decide +kernel))
theorem dl_734 : decode code 734 = .ok (.iconst 2, 1) := dc_5 (dcc (r := 30) lq_11 rfl (Nat.le_of_ble_eq_true rfl) (by decide +kernel))
theorem dl_735 : decode code 735 = .ok (.iadd, 1) := dc_96 (dcc (r := 31) lq_11 rfl (Nat.le_of_ble_eq_true rfl) (by decide +kernel))
theorem dl_736 : decode code 736 = .ok (.iaload, 1) := dc_46 (dcc (r := 32) lq_11 rfl (Nat.le_of_ble_eq_true rfl) (by decide +kernel))
theorem dl_737 : decode code 737 = .ok (.aload_n 0, 1) := dc_42 (dcc (r := 33) lq_11 rfl (Nat.le_of_ble_eq_true rfl) (by decide +kernel))
theorem dl_738 : decode code 738 = .ok (.iload_n 3, 1) := dc_29 (dcc (r := 34) lq_11 rfl (Nat.le_of_ble_eq_true rfl) (by decide +kernel))
theorem dl_739 : decode code 739 = .ok (.iconst 3, 1) := dc_6 (dcc (r := 35) lq_11 rfl (Nat.le_of_ble_eq_true rfl) (by decide +kernel))
theorem dl_740 : decode code 740 = .ok (.iadd, 1) := dc_96 (dcc (r := 36) lq_11 rfl (Nat.le_of_ble_eq_true rfl) (by decide +kernel))
theorem dl_741 : decode code 741 = .ok (.iaload, 1) := dc_46 (dcc (r := 37) lq_11 rfl (Nat.le_of_ble_eq_true rfl) (by decide +kernel))
theorem dl_742 : decode code 742 = .ok (.aload_n 0, 1) := dc_42 (dcc (r := 38) lq_11 rfl (Nat.le_of_ble_eq_true rfl) (by decide +kernel))
theorem dl_743 : decode code 743 = .ok (.iload_n 3, 1) := dc_29 (dcc (r := 39) lq_11 rfl (Nat.le_of_ble_eq_true rfl) (by decide +kernel))
theorem dl_744 : decode code 744 = .ok (.iconst 4, 1) := dc_7 (dcc (r := 40) lq_11 rfl (Nat.le_of_ble_eq_true rfl) (by decide +kernel))
theorem dl_745 : decode code 745 = .ok (.iadd, 1) := dc_96 (dcc (r := 41) lq_11 rfl (Nat.le_of_ble_eq_true rfl) (by decide +kernel))
theorem dl_746 : decode code 746 = .ok (.iaload, 1) := dc_46 (dcc (r := 42) lq_11 rfl (Nat.le_of_ble_eq_true rfl) (by decide +kernel))
theorem dl_747 : decode code 747 = .ok (.ifCond .eq 7, 3) := dc_153 (a := 0) (b := 7) (dcc (r := 43) lq_11 rfl (Nat.le_of_ble_eq_true rfl) (by decide +kernel)) rfl
theorem dl_750 : decode code 750 = .ok (.iconst 1, 1) := dc_4 (dcc (r := 46) lq_11 rfl (Nat.le_of_ble_eq_true rfl) (by decide +kernel))
theorem dl_751 : decode code 751 = .ok (.goto 4, 3) := dc_167 (a := 0) (b := 4) (dcc (r := 47) lq_11 rfl (Nat.le_of_ble_eq_true rfl) (by decide +kernel)) rfl
theorem dl_754 : decode code 754 = .ok (.iconst 0, 1) := dc_3 (dcc (r := 50) lq_11 rfl (Nat.le_of_ble_eq_true rfl) (by decide +kernel))
theorem dl_755 : decode code 755 = .ok (.invokevirtual 90, 3) := dc_182 (a := 0) (b := 90) (dcc (r := 51) lq_11 rfl (Nat.le_of_ble_eq_true rfl) (by decide +kernel)) rfl
theorem dl_758 : decode code 758 = .ok (.pop, 1) := dc_87 (dcc (r := 54) lq_11 rfl (Nat.le_of_ble_eq_true rfl) (by decide +kernel))
theorem dl_759 : decode code 759 = .ok (.goto 600, 3) := dc_167 (a := 2) (b := 88) (dcc (r := 55) lq_11 rfl (Nat.le_of_ble_eq_true rfl) (by decide +kernel)) rfl
theorem dl_762 : decode code 762 = .ok (.aload_n 1, 1) := dc_43 (dcc (r := 58) lq_11 rfl (Nat.le_of_ble_eq_true rfl) (by decide +kernel))
theorem dl_763 : decode code 763 = .ok (.aload_n 0, 1) := dc_42 (dcc (r := 59) lq_11 rfl (Nat.le_of_ble_eq_true rfl) (by decide +kernel))
theorem dl_764 : decode code 764 = .ok (.iload_n 3, 1) := dc_29 (dcc (r := 60) lq_11 rfl (Nat.le_of_ble_eq_true rfl) (by decide +kernel))
theorem dl_765 : decode code 765 = .ok (.iconst 1, 1) := dc_4 (dcc (r := 61) lq_11 rfl (Nat.le_of_ble_eq_true rfl) (by decide +kernel))
theorem dl_766 : decode code 766 = .ok (.iadd, 1) := dc_96 (dcc (r := 62) lq_11 rfl (Nat.le_of_ble_eq_true rfl) (by decide +kernel))
theorem dl_767 : decode code 767 = .ok (.iaload, 1) := dc_46 (dcc (r := 63) lq_11 rfl (Nat.le_of_ble_eq_true rfl) (by decide +kernel))
theorem dl_768 : decode code 768 = .ok (.invokevirtual 91, 3) := dc_182 (a := 0) (b := 91) (dcc (r := 0) lq_12 rfl (Nat.le_of_ble_eq_true rfl) (by decide +kernel)) rfl
theorem dl_771 : decode code 771 = .ok (.pop, 1) := dc_87 (dcc (r := 3) lq_12 rfl (Nat.le_of_ble_eq_true rfl) (by decide +kernel))
theorem dl_772 : decode code 772 = .ok (.aload_n 2, 1) := dc_44 (dcc (r := 4) lq_12 rfl (Nat.le_of_ble_eq_true rfl) (by decide +kernel))
theorem dl_773 : decode code 773 = .ok (.aload_n 0, 1) := dc_42 (dcc (r := 5) lq_12 rfl (Nat.le_of_ble_eq_true rfl) (by decide +kernel))
theorem dl_774 : decode code 774 = .ok (.iload_n 3, 1) := dc_29 (dcc (r := 6) lq_12 rfl (Nat.le_of_ble_eq_true rfl) (by decide +kernel))
theorem dl_775 : decode code 775 = .ok (.iconst 1, 1) := dc_4 (dcc (r := 7) lq_12 rfl (Nat.le_of_ble_eq_true rfl) (by decide +kernel))
theorem dl_776 : decode code 776 = .ok (.iadd, 1) := dc_96 (dcc (r := 8) lq_12 rfl (Nat.le_of_ble_eq_true rfl) (by decide +kernel))
theorem dl_777 : decode code 777 = .ok (.iaload, 1) := dc_46 (dcc (r := 9) lq_12 rfl (Nat.le_of_ble_eq_true rfl) (by decide +kernel))
theorem dl_778 : decode code 778 = .ok (.invokevirtual 94, 3) := dc_182 (a := 0) (b := 94) (dcc (r := 10) lq_12 rfl (Nat.le_of_ble_eq_true rfl) (by decide +kernel)) rfl
theorem dl_781 : decode code 781 = .ok (.pop, 1) := dc_87 (dcc (r := 13) lq_12 rfl (Nat.le_of_ble_eq_true rfl) (by decide +kernel))
theorem dl_782 : decode code 782 = .ok (.goto 577, 3) := dc_167 (a := 2) (b := 65) (dcc (r := 14) lq_12 rfl (Nat.le_of_ble_eq_true rfl) (by decide +kernel)) rfl
theorem dl_785 : decode code 785 = .ok (.aload_n 1, 1) := dc_43 (dcc (r := 17) lq_12 rfl (Nat.le_of_ble_eq_true rfl) (by decide +kernel))
theorem dl_786 : decode code 786 = .ok (.invokevirtual 95, 3) := dc_182 (a := 0) (b := 95) (dcc (r := 18) lq_12 rfl (Nat.le_of_ble_eq_true rfl) (by decide +kernel)) rfl
theorem dl_789 : decode code 789 = .ok (.pop, 1) := dc_87 (dcc (r := 21) lq_12 rfl (Nat.le_of_ble_eq_true rfl) (by decide +kernel))
theorem dl_790 : decode code 790 = .ok (.aload_n 2, 1) := dc_44 (dcc (r := 22) lq_12 rfl (Nat.le_of_ble_eq_true rfl) (by decide +kernel))
theorem dl_791 : decode code 791 = .ok (.invokevirtual 98, 3) := dc_182 (a := 0) (b := 98) (dcc (r := 23) lq_12 rfl (Nat.le_of_ble_eq_true rfl) (by decide +kernel)) rfl
theorem dl_794 : decode code 794 = .ok (.pop, 1) := dc_87 (dcc (r := 26) lq_12 rfl (Nat.le_of_ble_eq_true rfl) (by decide +kernel))
theorem dl_795 : decode code 795 = .ok (.goto 564, 3) := dc_167 (a := 2) (b := 52) (dcc (r := 27) lq_12 rfl (Nat.le_of_ble_eq_true rfl) (by decide +kernel)) rfl
theorem dl_798 : decode code 798 = .ok (.aload_n 1, 1) := dc_43 (dcc (r := 30) lq_12 rfl (Nat.le_of_ble_eq_true rfl) (by decide +kernel))
theorem dl_799 : decode code 799 = .ok (.aload_n 0, 1) := dc_42 (dcc (r := 31) lq_12 rfl (Nat.le_of_ble_eq_true rfl) (by decide +kernel))
theorem dl_800 : decode code 800 = .ok (.iload_n 3, 1) := dc_29 (dcc (r := 32) lq_12 rfl (Nat.le_of_ble_eq_true rfl) (by decide +kernel))
theorem dl_801 : decode code 801 = .ok (.iconst 1, 1) := dc_4 (dcc (r := 33) lq_12 rfl (Nat.le_of_ble_eq_true rfl) (by decide +kernel))
theorem dl_802 : decode code 802 = .ok (.iadd, 1) := dc_96 (dcc (r := 34) lq_12 rfl (Nat.le_of_ble_eq_true rfl) (by decide +kernel))
theorem dl_803 : decode code 803 = .ok (.iaload, 1) := dc_46 (dcc (r := 35) lq_12 rfl (Nat.le_of_ble_eq_true rfl) (by decide +kernel))
theorem dl_804 : decode code 804 = .ok (.invokevirtual 99, 3) := dc_182 (a := 0) (b := 99) (dcc (r := 36) lq_12 rfl (Nat.le_of_ble_eq_true rfl) (by decide +kernel)) rfl
theorem dl_807 : decode code 807 = .ok (.pop, 1) := dc_87 (dcc (r := 39) lq_12 rfl (Nat.le_of_ble_eq_true rfl) (by decide +kernel))
theorem dl_808 : decode code 808 = .ok (.aload_n 2, 1) := dc_44 (dcc (r := 40) lq_12 rfl (Nat.le_of_ble_eq_true rfl) (by decide +kernel))
theorem dl_809 : decode code 809 = .ok (.aload_n 0, 1) := dc_42 (dcc (r := 41) lq_12 rfl (Nat.le_of_ble_eq_true rfl) (by decide +kernel))
theorem dl_810 : decode code 810 = .ok (.iload_n 3, 1) := dc_29 (dcc (r := 42) lq_12 rfl (Nat.le_of_ble_eq_true rfl) (by decide +kernel))
theorem dl_811 : decode code 811 = .ok (.iconst 1, 1) := dc_4 (dcc (r := 43) lq_12 rfl (Nat.le_of_ble_eq_true rfl) (by decide +kernel))
theorem dl_812 : decode code 812 = .ok (.iadd, 1) := dc_96 (dcc (r := 44) lq_12 rfl (Nat.le_of_ble_eq_true rfl) (by decide +kernel))
theorem dl_813 : decode code 813 = .ok (.iaload, 1) := dc_46 (dcc (r := 45) lq_12 rfl (Nat.le_of_ble_eq_true rfl) (by decide +kernel))
theorem dl_814 : decode code 814 = .ok (.invokevirtual 102, 3) := dc_182 (a := 0) (b := 102) (dcc (r := 46) lq_12 rfl (Nat.le_of_ble_eq_true rfl) (by decide +kernel)) rfl
theorem dl_817 : decode code 817 = .ok (.pop, 1) := dc_87 (dcc (r := 49) lq_12 rfl (Nat.le_of_ble_eq_true rfl) (by decide +kernel))
theorem dl_818 : decode code 818 = .ok (.goto 541, 3) := dc_167 (a := 2) (b := 29) (dcc (r := 50) lq_12 rfl (Nat.le_of_ble_eq_true rfl) (by decide +kernel)) rfl
theorem dl_821 : decode code 821 = .ok (.aload_n 1, 1) := dc_43 (dcc (r := 53) lq_12 rfl (Nat.le_of_ble_eq_true rfl) (by decide +kernel))
theorem dl_822 : decode code 822 = .ok (.aload_n 0, 1) := dc_42 (dcc (r := 54) lq_12 rfl (Nat.le_of_ble_eq_true rfl) (by decide +kernel))
theorem dl_823 : decode code 823 = .ok (.iload_n 3, 1) := dc_29 (dcc (r := 55) lq_12 rfl (Nat.le_of_ble_eq_true rfl) (by decide +kernel))
theorem dl_824 : decode code 824 = .ok (.iconst 1, 1) := dc_4 (dcc (r := 56) lq_12 rfl (Nat.le_of_ble_eq_true rfl) (by decide +kernel))
theorem dl_825 : decode code 825 = .ok (.iadd, 1) := dc_96 (dcc (r := 57) lq_12 rfl (Nat.le_of_ble_eq_true rfl) (by decide +kernel))
theorem dl_826 : decode code 826 = .ok (.iaload, 1) := dc_46 (dcc (r := 58) lq_12 rfl (Nat.le_of_ble_eq_true rfl) (by decide +kernel))
theorem dl_827 : decode code 827 = .ok (.aload_n 0, 1) := dc_42 (dcc (r := 59) lq_12 rfl (Nat.le_of_ble_eq_true rfl) (by decide +kernel))
theorem dl_828 : decode code 828 = .ok (.iload_n 3, 1) := dc_29 (dcc (r := 60) lq_12 rfl (Nat.le_of_ble_eq_true rfl) (by decide +kernel))
theorem dl_829 : decode code 829 = .ok (.iconst 2, 1) := dc_5 (dcc (r := 61) lq_12 rfl (Nat.le_of_ble_eq_true rfl) (by decide +kernel))
theorem dl_830 : decode code 830 = .ok (.iadd, 1) := dc_96 (dcc (r := 62) lq_12 rfl (Nat.le_of_ble_eq_true rfl) (by decide +kernel))
theorem dl_831 : decode code 831 = .ok (.iaload, 1) := dc_46 (dcc (r := 63) lq_12 rfl (Nat.le_of_ble_eq_true rfl) (by decide +kernel))
theorem dl_832 : decode code 832 = .ok (.invokevirtual 103, 3) := dc_182 (a := 0) (b := 103) (dcc (r := 0) lq_13 rfl (Nat.le_of_ble_eq_true rfl) (by decide +kernel)) rfl
theorem dl_835 : decode code 835 = .ok (.pop, 1) := dc_87 (dcc (r := 3) lq_13 rfl (Nat.le_of_ble_eq_true rfl) (by decide +kernel))
theorem dl_836 : decode code 836 = .ok (.aload_n 2, 1) := dc_44 (dcc (r := 4) lq_13 rfl (Nat.le_of_ble_eq_true rfl) (by decide +kernel))
theorem dl_837 : decode code 837 = .ok (.aload_n 0, 1) := dc_42 (dcc (r := 5) lq_13 rfl (Nat.le_of_ble_eq_true rfl) (by decide +kernel))
theorem dl_838 : decode code 838 = .ok (.iload_n 3, 1) := dc_29 (dcc (r := 6) lq_13 rfl (Nat.le_of_ble_eq_true rfl) (by decide +kernel))
theorem dl_839 : decode code 839 = .ok (.iconst 1, 1) := dc_4 (dcc (r := 7) lq_13 rfl (Nat.le_of_ble_eq_true rfl) (by decide +kernel))
theorem dl_840 : decode code 840 = .ok (.iadd, 1) := dc_96 (dcc (r := 8) lq_13 rfl (Nat.le_of_ble_eq_true rfl) (by decide +kernel))
theorem dl_841 : decode code 841 = .ok (.iaload, 1) := dc_46 (dcc (r := 9) lq_13 rfl (Nat.le_of_ble_eq_true rfl) (by decide +kernel))
theorem dl_842 : decode code 842 = .ok (.aload_n 0, 1) := dc_42 (dcc (r := 10) lq_13 rfl (Nat.le_of_ble_eq_true rfl) (by decide +kernel))
theorem dl_843 : decode code 843 = .ok (.iload_n 3, 1) := dc_29 (dcc (r := 11) lq_13 rfl (Nat.le_of_ble_eq_true rfl) (by decide +kernel))
theorem dl_844 : decode code 844 = .ok (.iconst 2, 1) := dc_5 (dcc (r := 12) lq_13 rfl (Nat.le_of_ble_eq_true rfl) (by decide +kernel))
theorem dl_845 : decode code 845 = .ok (.iadd, 1) := dc_96 (dcc (r := 13) lq_13 rfl (Nat.le_of_ble_eq_true rfl) (by decide +kernel))
theorem dl_846 : decode code 846 = .ok (.iaload, 1) := dc_46 (dcc (r := 14) lq_13 rfl (Nat.le_of_ble_eq_true rfl) (by decide +kernel))
theorem dl_847 : decode code 847 = .ok (.invokevirtual 106, 3) := dc_182 (a := 0) (b := 106) (dcc (r := 15) lq_13 rfl (Nat.le_of_ble_eq_true rfl) (by decide +kernel)) rfl
theorem dl_850 : decode code 850 = .ok (.pop, 1) := dc_87 (dcc (r := 18) lq_13 rfl (Nat.le_of_ble_eq_true rfl) (by decide +kernel))
theorem dl_851 : decode code 851 = .ok (.goto 508, 3) := dc_167 (a := 1) (b := 252) (dcc (r := 19) lq_13 rfl (Nat.le_of_ble_eq_true rfl) (by decide +kernel)) rfl
theorem dl_854 : decode code 854 = .ok (.aload_n 1, 1) := dc_43 (dcc (r := 22) lq_13 rfl (Nat.le_of_ble_eq_true rfl) (by decide +kernel))
theorem dl_855 : decode code 855 = .ok (.aload_n 0, 1) := dc_42 (dcc (r := 23) lq_13 rfl (Nat.le_of_ble_eq_true rfl) (by decide +kernel))
theorem dl_856 : decode code 856 = .ok (.iload_n 3, 1) := dc_29 (dcc (r := 24) lq_13 rfl (Nat.le_of_ble_eq_true rfl) (by decide +kernel))
theorem dl_857 : decode code 857 = .ok (.iconst 1, 1) := dc_4 (dcc (r := 25) lq_13 rfl (Nat.le_of_ble_eq_true rfl) (by decide +kernel))
theorem dl_858 : decode code 858 = .ok (.iadd, 1) := dc_96 (dcc (r := 26) lq_13 rfl (Nat.le_of_ble_eq_true rfl) (by decide +kernel))
theorem dl_859 : decode code 859 = .ok (.iaload, 1) := dc_46 (dcc (r := 27) lq_13 rfl (Nat.le_of_ble_eq_true rfl) (by decide +kernel))
theorem dl_860 : decode code 860 = .ok (.aload_n 0, 1) := dc_42 (dcc (r := 28) lq_13 rfl (Nat.le_of_ble_eq_true rfl) (by decide +kernel))
theorem dl_861 : decode code 861 = .ok (.iload_n 3, 1) := dc_29 (dcc (r := 29) lq_13 rfl (Nat.le_of_ble_eq_true rfl) (by decide +kernel))
theorem dl_862 : decode code 862 = .ok (.iconst 2, 1) := dc_5 (dcc (r := 30) lq_13 rfl (Nat.le_of_ble_eq_true rfl) (by decide +kernel))
theorem dl_863 : decode code 863 = .ok (.iadd, 1) := dc_96 (dcc (r := 31) lq_13 rfl (Nat.le_of_ble_eq_true rfl) (by decide +kernel))
theorem dl_864 : decode code 864 = .ok (.iaload, 1) := dc_46 (dcc (r := 32) lq_13 rfl (Nat.le_of_ble_eq_true rfl) (by decide +kernel))
theorem dl_865 : decode code 865 = .ok (.aload_n 0, 1) := dc_42 (dcc (r := 33) lq_13 rfl (Nat.le_of_ble_eq_true rfl) (by decide +kernel))
theorem dl_866 : decode code 866 = .ok (.iload_n 3, 1) := dc_29 (dcc (r := 34) lq_13 rfl (Nat.le_of_ble_eq_true rfl) (by decide +kernel))
theorem dl_867 : decode code 867 = .ok (.iconst 3, 1) := dc_6 (dcc (r := 35) lq_13 rfl (Nat.le_of_ble_eq_true rfl) (by decide +kernel))
theorem dl_868 : decode code 868 = .ok (.iadd, 1) := dc_96 (dcc (r := 36) lq_13 rfl (Nat.le_of_ble_eq_true rfl) (by decide +kernel))
theorem dl_869 : decode code 869 = .ok (.iaload, 1) := dc_46 (dcc (r := 37) lq_13 rfl (Nat.le_of_ble_eq_true rfl) (by decide +kernel))
theorem dl_870 : decode code 870 = .ok (.aload_n 0, 1) := dc_42 (dcc (r := 38) lq_13 rfl (Nat.le_of_ble_eq_true rfl) (by decide +kernel))
theorem dl_871 : decode code 871 = .ok (.iload_n 3, 1) := dc_29 (dcc (r := 39) lq_13 rfl (Nat.le_of_ble_eq_true rfl) (by decide +kernel))
theorem dl_872 : decode code 872 = .ok (.iconst 4, 1) := dc_7 (dcc (r := 40) lq_13 rfl (Nat.le_of_ble_eq_true rfl) (by decide +kernel))
theorem dl_873 : decode code 873 = .ok (.iadd, 1) := dc_96 (dcc (r := 41) lq_13 rfl (Nat.le_of_ble_eq_true rfl) (by decide +kernel))
theorem dl_874 : decode code 874 = .ok (.iaload, 1) := dc_46 (dcc (r := 42) lq_13 rfl (Nat.le_of_ble_eq_true rfl) (by decide +kernel))
theorem dl_875 : decode code 875 = .ok (.invokevirtual 107, 3) := dc_182 (a := 0) (b := 107) (dcc (r := 43) lq_13 rfl (Nat.le_of_ble_eq_true rfl) (by decide +kernel)) rfl
theorem dl_878 : decode code 878 = .ok (.pop, 1) := dc_87 (dcc (r := 46) lq_13 rfl (Nat.le_of_ble_eq_true rfl) (by decide +kernel))
theorem dl_879 : decode code 879 = .ok (.aload_n 2, 1) := dc_44 (dcc (r := 47) lq_13 rfl (Nat.le_of_ble_eq_true rfl) (by decide +kernel))
theorem dl_880 : decode code 880 = .ok (.aload_n 0, 1) := dc_42 (dcc (r := 48) lq_13 rfl (Nat.le_of_ble_eq_true rfl) (by decide +kernel))
theorem dl_881 : decode code 881 = .ok (.iload_n 3, 1) := dc_29 (dcc (r := 49) lq_13 rfl (Nat.le_of_ble_eq_true rfl) (by decide +kernel))
theorem dl_882 : decode code 882 = .ok (.iconst 1, 1) := dc_4 (dcc (r := 50) lq_13 rfl (Nat.le_of_ble_eq_true rfl) (by decide +kernel))
theorem dl_883 : decode code 883 = .ok (.iadd, 1) := dc_96 (dcc (r := 51) lq_13 rfl (Nat.le_of_ble_eq_true rfl) (by decide +kernel))
theorem dl_884 : decode code 884 = .ok (.iaload, 1) := dc_46 (dcc (r := 52) lq_13 rfl (Nat.le_of_ble_eq_true rfl) (by decide +kernel))
theorem dl_885 : decode code 885 = .ok (.aload_n 0, 1) := dc_42 (dcc (r := 53) lq_13 rfl (Nat.le_of_ble_eq_true rfl) (by decide +kernel))
theorem dl_886 : decode code 886 = .ok (.iload_n 3, 1) := dc_29 (dcc (r := 54) lq_13 rfl (Nat.le_of_ble_eq_true rfl) (by decide +kernel))
theorem dl_887 : decode code 887 = .ok (.iconst 2, 1) := dc_5 (dcc (r := 55) lq_13 rfl (Nat.le_of_ble_eq_true rfl) (by decide +kernel))
theorem dl_888 : decode code 888 = .ok (.iadd, 1) := dc_96 (dcc (r := 56) lq_13 rfl (Nat.le_of_ble_eq_true rfl) (by decide +kernel))
theorem dl_889 : decode code 889 = .ok (.iaload, 1) := dc_46 (dcc (r := 57) lq_13 rfl (Nat.le_of_ble_eq_true rfl) (by decide +kernel))
theorem dl_890 : decode code 890 = .ok (.aload_n 0, 1) := dc_42 (dcc (r := 58) lq_13 rfl (Nat.le_of_ble_eq_true rfl) (by decide +kernel))
theorem dl_891 : decode code 891 = .ok (.iload_n 3, 1) := dc_29 (dcc (r := 59) lq_13 rfl (Nat.le_of_ble_eq_true rfl) (by decide +kernel))
theorem dl_892 : decode code 892 = .ok (.iconst 3, 1) := dc_6 (dcc (r := 60) lq_13 rfl (Nat.le_of_ble_eq_true rfl) (by decide +kernel))
theorem dl_893 : decode code 893 = .ok (.iadd, 1) := dc_96 (dcc (r := 61) lq_13 rfl (Nat.le_of_ble_eq_true rfl) (by decide +kernel))
theorem dl_894 : decode code 894 = .ok (.iaload, 1) := dc_46 (dcc (r := 62) lq_13 rfl (Nat.le_of_ble_eq_true rfl) (by decide +kernel))
theorem dl_895 : decode code 895 = .ok (.aload_n 0, 1) := dc_42 (dcc (r := 63) lq_13 rfl (Nat.le_of_ble_eq_true rfl) (by decide +kernel))
theorem dl_896 : decode code 896 = .ok (.iload_n 3, 1) := dc_29 (dcc (r := 0) lq_14 rfl (Nat.le_of_ble_eq_true rfl) (by decide +kernel))
theorem dl_897 : decode code 897 = .ok (.iconst 4, 1) := dc_7 (dcc (r := 1) lq_14 rfl (Nat.le_of_ble_eq_true rfl) (by decide +kernel))
theorem dl_898 : decode code 898 = .ok (.iadd, 1) := dc_96 (dcc (r := 2) lq_14 rfl (Nat.le_of_ble_eq_true rfl) (by decide +kernel))
theorem dl_899 : decode code 899 = .ok (.iaload, 1) := dc_46 (dcc (r := 3) lq_14 rfl (Nat.le_of_ble_eq_true rfl) (by decide +kernel))
theorem dl_900 : decode code 900 = .ok (.invokevirtual 111, 3) := dc_182 (a := 0) (b := 111) (dcc (r := 4) lq_14 rfl (Nat.le_of_ble_eq_true rfl) (by decide +kernel)) rfl
theorem dl_903 : decode code 903 = .ok (.pop, 1) := dc_87 (dcc (r := 7) lq_14 rfl (Nat.le_of_ble_eq_true rfl) (by decide +kernel))
theorem dl_904 : decode code 904 = .ok (.goto 455, 3) := dc_167 (a := 1) (b := 199) (dcc (r := 8) lq_14 rfl (Nat.le_of_ble_eq_true rfl) (by decide +kernel)) rfl
theorem dl_907 : decode code 907 = .ok (.aload_n 1, 1) := dc_43 (dcc (r := 11) lq_14 rfl (Nat.le_of_ble_eq_true rfl) (by decide +kernel))
theorem dl_908 : decode code 908 = .ok (.aload_n 0, 1) := dc_42 (dcc (r := 12) lq_14 rfl (Nat.le_of_ble_eq_true rfl) (by decide +kernel))
theorem dl_909 : decode code 909 = .ok (.iload_n 3, 1) := dc_29 (dcc (r := 13) lq_14 rfl (Nat.le_of_ble_eq_true rfl) (by decide +kernel))
theorem dl_910 : decode code 910 = .ok (.iconst 1, 1) := dc_4 (dcc (r := 14) lq_14 rfl (Nat.le_of_ble_eq_true rfl) (by decide +kernel))
theorem dl_911 : decode code 911 = .ok (.iadd, 1) := dc_96 (dcc (r := 15) lq_14 rfl (Nat.le_of_ble_eq_true rfl) (by decide +kernel))
theorem dl_912 : decode code 912 = .ok (.iaload, 1) := dc_46 (dcc (r := 16) lq_14 rfl (Nat.le_of_ble_eq_true rfl) (by decide +kernel))
theorem dl_913 : decode code 913 = .ok (.aload_n 0, 1) := dc_42 (dcc (r := 17) lq_14 rfl (Nat.le_of_ble_eq_true rfl) (by decide +kernel))
theorem dl_914 : decode code 914 = .ok (.iload_n 3, 1) := dc_29 (dcc (r := 18) lq_14 rfl (Nat.le_of_ble_eq_true rfl) (by decide +kernel))
theorem dl_915 : decode code 915 = .ok (.iconst 2, 1) := dc_5 (dcc (r := 19) lq_14 rfl (Nat.le_of_ble_eq_true rfl) (by decide +kernel))
theorem dl_916 : decode code 916 = .ok (.iadd, 1) := dc_96 (dcc (r := 20) lq_14 rfl (Nat.le_of_ble_eq_true rfl) (by decide +kernel))
theorem dl_917 : decode code 917 = .ok (.iaload, 1) := dc_46 (dcc (r := 21) lq_14 rfl (Nat.le_of_ble_eq_true rfl) (by decide +kernel))
theorem dl_918 : decode code 918 = .ok (.aload_n 0, 1) := dc_42 (dcc (r := 22) lq_14 rfl (Nat.le_of_ble_eq_true rfl) (by decide +kernel))
theorem dl_919 : decode code 919 = .ok (.iload_n 3, 1) := dc_29 (dcc (r := 23) lq_14 rfl (Nat.le_of_ble_eq_true rfl) (by decide +kernel))
theorem dl_920 : decode code 920 = .ok (.iconst 3, 1) := dc_6 (dcc (r := 24) lq_14 rfl (Nat.le_of_ble_eq_true rfl) (by decide +kernel))
theorem dl_921 : decode code 921 = .ok (.iadd, 1) := dc_96 (dcc (r := 25) lq_14 rfl (Nat.le_of_ble_eq_true rfl) (by decide +kernel))
theorem dl_922 : decode code 922 = .ok (.iaload, 1) := dc_46 (dcc (r := 26) lq_14 rfl (Nat.le_of_ble_eq_true rfl) (by decide +kernel))
theorem dl_923 : decode code 923 = .ok (.invokevirtual 112, 3) := dc_182 (a := 0) (b := 112) (dcc (r := 27) lq_14 rfl (Nat.le_of_ble_eq_true rfl) (by decide +kernel)) rfl
theorem dl_926 : decode code 926 = .ok (.pop, 1) := dc_87 (dcc (r := 30) lq_14 rfl (Nat.le_of_ble_eq_true rfl) (by decide +kernel))
theorem dl_927 : decode code 927 = .ok (.aload_n 2, 1) := dc_44 (dcc (r := 31) lq_14 rfl (Nat.le_of_ble_eq_true rfl) (by decide +kernel))
theorem dl_928 : decode code 928 = .ok (.aload_n 0, 1) := dc_42 (dcc (r := 32) lq_14 rfl (Nat.le_of_ble_eq_true rfl) (by decide +kernel))
theorem dl_929 : decode code 929 = .ok (.iload_n 3, 1) := dc_29 (dcc (r := 33) lq_14 rfl (Nat.le_of_ble_eq_true rfl) (by decide +kernel))
theorem dl_930 : decode code 930 = .ok (.iconst 1, 1) := dc_4 (dcc (r := 34) lq_14 rfl (Nat.le_of_ble_eq_true rfl) (by decide +kernel))
theorem dl_931 : decode code 931 = .ok (.iadd, 1) := dc_96 (dcc (r := 35) lq_14 rfl (Nat.le_of_ble_eq_true rfl) (by decide +kernel))
theorem dl_932 : decode code 932 = .ok (.iaload, 1) := dc_46 (dcc (r := 36) lq_14 rfl (Nat.le_of_ble_eq_true rfl) (by decide +kernel))
theorem dl_933 : decode code 933 = .ok (.aload_n 0, 1) := dc_42 (dcc (r := 37) lq_14 rfl (Nat.le_of_ble_eq_true rfl) (by decide +kernel))
theorem dl_934 : decode code 934 = .ok (.iload_n 3, 1) := dc_29 (dcc (r := 38) lq_14 rfl (Nat.le_of_ble_eq_true rfl) (by decide +kernel))
theorem dl_935 : decode code 935 = .ok (.iconst 2, 1) := dc_5 (dcc (r := 39) lq_14 rfl (Nat.le_of_ble_eq_true rfl) (by decide +kernel))
theorem dl_936 : decode code 936 = .ok (.iadd, 1) := dc_96 (dcc (r := 40) lq_14 rfl (Nat.le_of_ble_eq_true rfl) (by decide +kernel))
theorem dl_937 : decode code 937 = .ok (.iaload, 1) := dc_46 (dcc (r := 41) lq_14 rfl (Nat.le_of_ble_eq_true rfl) (by decide +kernel))
theorem dl_938 : decode code 938 = .ok (.aload_n 0, 1) := dc_42 (dcc (r := 42) lq_14 rfl (Nat.le_of_ble_eq_true rfl) (by decide +kernel))
theorem dl_939 : decode code 939 = .ok (.iload_n 3, 1) := dc_29 (dcc (r := 43) lq_14 rfl (Nat.le_of_ble_eq_true rfl) (by decide +kernel))
theorem dl_940 : decode code 940 = .ok (.iconst 3, 1) := dc_6 (dcc (r := 44) lq_14 rfl (Nat.le_of_ble_eq_true rfl) (by decide +kernel))
theorem dl_941 : decode code 941 = .ok (.iadd, 1) := dc_96 (dcc (r := 45) lq_14 rfl (Nat.le_of_ble_eq_true rfl) (by decide +kernel))
theorem dl_942 : decode code 942 = .ok (.iaload, 1) := dc_46 (dcc (r := 46) lq_14 rfl (Nat.le_of_ble_eq_true rfl) (by decide +kernel))
theorem dl_943 : decode code 943 = .ok (.invokevirtual 115, 3) := dc_182 (a := 0) (b := 115) (dcc (r := 47) lq_14 rfl (Nat.le_of_ble_eq_true rfl) (by decide +kernel)) rfl
theorem dl_946 : decode code 946 = .ok (.pop, 1) := dc_87 (dcc (r := 50) lq_14 rfl (Nat.le_of_ble_eq_true rfl) (by decide +kernel))
theorem dl_947 : decode code 947 = .ok (.goto 412, 3) := dc_167 (a := 1) (b := 156) (dcc (r := 51) lq_14 rfl (Nat.le_of_ble_eq_true rfl) (by decide +kernel)) rfl
theorem dl_950 : decode code 950 = .ok (.aload_n 1, 1) := dc_43 (dcc (r := 54) lq_14 rfl (Nat.le_of_ble_eq_true rfl) (by decide +kernel))
theorem dl_951 : decode code 951 = .ok (.aload_n 0, 1) := dc_42 (dcc (r := 55) lq_14 rfl (Nat.le_of_ble_eq_true rfl) (by decide +kernel))
theorem dl_952 : decode code 952 = .ok (.iload_n 3, 1) := dc_29 (dcc (r := 56) lq_14 rfl (Nat.le_of_ble_eq_true rfl) (by decide +kernel))
theorem dl_953 : decode code 953 = .ok (.iconst 1, 1) := dc_4 (dcc (r := 57) lq_14 rfl (Nat.le_of_ble_eq_true rfl) (by decide +kernel))
theorem dl_954 : decode code 954 = .ok (.iadd, 1) := dc_96 (dcc (r := 58) lq_14 rfl (Nat.le_of_ble_eq_true rfl) (by decide +kernel))
theorem dl_955 : decode code 955 = .ok (.iaload, 1) := dc_46 (dcc (r := 59) lq_14 rfl (Nat.le_of_ble_eq_true rfl) (by decide +kernel))
theorem dl_956 : decode code 956 = .ok (.aload_n 0, 1) := dc_42 (dcc (r := 60) lq_14 rfl (Nat.le_of_ble_eq_true rfl) (by decide +kernel))
theorem dl_957 : decode code 957 = .ok (.iload_n 3, 1) := dc_29 (dcc (r := 61) lq_14 rfl (Nat.le_of_ble_eq_true rfl) (by decide +kernel))
theorem dl_958 : decode code 958 = .ok (.iconst 2, 1) := dc_5 (dcc (r := 62) lq_14 rfl (Nat.le_of_ble_eq_true rfl) (by decide +kernel))
theorem dl_959 : decode code 959 = .ok (.iadd, 1) := dc_96 (dcc (r := 63) lq_14 rfl (Nat.le_of_ble_eq_true rfl) (by decide +kernel))
theorem dl_960 : decode code 960 = .ok (.iaload, 1) := dc_46 (dcc (r := 0) lq_15 rfl (Nat.le_of_ble_eq_true rfl) (by decide +kernel))
theorem dl_961 : decode code 961 = .ok (.aload_n 0, 1) := dc_42 (dcc (r := 1) lq_15 rfl (Nat.le_of_ble_eq_true rfl) (by decide +kernel))
theorem dl_962 : decode code 962 = .ok (.iload_n 3, 1) := dc_29 (dcc (r := 2) lq_15 rfl (Nat.le_of_ble_eq_true rfl) (by decide +kernel))
theorem dl_963 : decode code 963 = .ok (.iconst 3, 1) := dc_6 (dcc (r := 3) lq_15 rfl (Nat.le_of_ble_eq_true rfl) (by decide +kernel))
theorem dl_964 : decode code 964 = .ok (.iadd, 1) := dc_96 (dcc (r := 4) lq_15 rfl (Nat.le_of_ble_eq_true rfl) (by decide +kernel))
theorem dl_965 : decode code 965 = .ok (.iaload, 1) := dc_46 (dcc (r := 5) lq_15 rfl (Nat.le_of_ble_eq_true rfl) (by decide +kernel))
theorem dl_966 : decode code 966 = .ok (.aload_n 0, 1) := dc_42 (dcc (r := 6) lq_15 rfl (Nat.le_of_ble_eq_true rfl) (by decide +kernel))
theorem dl_967 : decode code 967 = .ok (.iload_n 3, 1) := dc_29 (dcc (r := 7) lq_15 rfl (Nat.le_of_ble_eq_true rfl) (by decide +kernel))
theorem dl_968 : decode code 968 = .ok (.iconst 4, 1) := dc_7 (dcc (r := 8) lq_15 rfl (Nat.le_of_ble_eq_true rfl) (by decide +kernel))
theorem dl_969 : decode code 969 = .ok (.iadd, 1) := dc_96 (dcc (r := 9) lq_15 rfl (Nat.le_of_ble_eq_true rfl) (by decide +kernel))
theorem dl_970 : decode code 970 = .ok (.iaload, 1) := dc_46 (dcc (r := 10) lq_15 rfl (Nat.le_of_ble_eq_true rfl) (by decide +kernel))
theorem dl_971 : decode code 971 = .ok (.invokevirtual 116, 3) := dc_182 (a := 0) (b := 116) (dcc (r := 11) lq_15 rfl (Nat.le_of_ble_eq_true rfl) (by decide +kernel)) rfl
theorem dl_974 : decode code 974 = .ok (.pop2, 1) := dc_88 (dcc (r := 14) lq_15 rfl (Nat.le_of_ble_eq_true rfl) (by decide +kernel))
theorem dl_975 : decode code 975 = .ok (.aload_n 2, 1) := dc_44 (dcc (r := 15) lq_15 rfl (Nat.le_of_ble_eq_true rfl) (by decide +kernel))
theorem dl_976 : decode code 976 = .ok (.aload_n 0, 1) := dc_42 (dcc (r := 16) lq_15 rfl (Nat.le_of_ble_eq_true rfl) (by decide +kernel))
theorem dl_977 : decode code 977 = .ok (.iload_n 3, 1) := dc_29 (dcc (r := 17) lq_15 rfl (Nat.le_of_ble_eq_true rfl) (by decide +kernel))
theorem dl_978 : decode code 978 = .ok (.iconst 1, 1) := dc_4 (dcc (r := 18) lq_15 rfl (Nat.le_of_ble_eq_true rfl) (by decide +kernel))
theorem dl_979 : decode code 979 = .ok (.iadd, 1) := dc_96 (dcc (r := 19) lq_15 rfl (Nat.le_of_ble_eq_true rfl) (by decide +kernel))
theorem dl_980 : decode code 980 = .ok (.iaload, 1) := dc_46 (dcc (r := 20) lq_15 rfl (Nat.le_of_ble_eq_true rfl) (by decide +kernel))
theorem dl_981 : decode code 981 = .ok (.aload_n 0, 1) := dc_42 (dcc (r := 21) lq_15 rfl (Nat.le_of_ble_eq_true rfl) (by decide +kernel))
theorem dl_982 : decode code 982 = .ok (.iload_n 3, 1) := dc_29 (dcc (r := 22) lq_15 rfl (Nat.le_of_ble_eq_true rfl) (by decide +kernel))
theorem dl_983 : decode code 983 = .ok (.iconst 2, 1) := dc_5 (dcc (r := 23) lq_15 rfl (Nat.le_of_ble_eq_true rfl) (by decide +kernel))
theorem dl_984 : decode code 984 = .ok (.iadd, 1) := dc_96 (dcc (r := 24) lq_15 rfl (Nat.le_of_ble_eq_true rfl) (by decide +kernel))
theorem dl_985 : decode code 985 = .ok (.iaload, 1) := dc_46 (dcc (r := 25) lq_15 rfl (Nat.le_of_ble_eq_true rfl) (by decide +kernel))
theorem dl_986 : decode code 986 = .ok (.aload_n 0, 1) := dc_42 (dcc (r := 26) lq_15 rfl (Nat.le_of_ble_eq_true rfl) (by decide +kernel))
theorem dl_987 : decode code 987 = .ok (.iload_n 3, 1) := dc_29 (dcc (r := 27) lq_15 rfl (Nat.le_of_ble_eq_true rfl) (by decide +kernel))
theorem dl_988 : decode code 988 = .ok (.iconst 3, 1) := dc_6 (dcc (r := 28) lq_15 rfl (Nat.le_of_ble_eq_true rfl) (by decide +kernel))
theorem dl_989 : decode code 989 = .ok (.iadd, 1) := dc_96 (dcc (r := 29) lq_15 rfl (Nat.le_of_ble_eq_true rfl) (by decide +kernel))
theorem dl_990 : decode code 990 = .ok (.iaload, 1) := dc_46 (dcc (r := 30) lq_15 rfl (Nat.le_of_ble_eq_true rfl) (by decide +kernel))
theorem dl_991 : decode code 991 = .ok (.aload_n 0, 1) := dc_42 (dcc (r := 31) lq_15 rfl (Nat.le_of_ble_eq_true rfl) (by decide +kernel))
theorem dl_992 : decode code 992 = .ok (.iload_n 3, 1) := dc_29 (dcc (r := 32) lq_15 rfl (Nat.le_of_ble_eq_true rfl) (by decide +kernel))
theorem dl_993 : decode code 993 = .ok (.iconst 4, 1) := dc_7 (dcc (r := 33) lq_15 rfl (Nat.le_of_ble_eq_true rfl) (by decide +kernel))
theorem dl_994 : decode code 994 = .ok (.iadd, 1) := dc_96 (dcc (r := 34) lq_15 rfl (Nat.le_of_ble_eq_true rfl) (by decide +kernel))
theorem dl_995 : decode code 995 = .ok (.iaload, 1) := dc_46 (dcc (r := 35) lq_15 rfl (Nat.le_of_ble_eq_true rfl) (by decide +kernel))
theorem dl_996 : decode code 996 = .ok (.invokevirtual 120, 3) := dc_182 (a := 0) (b := 120) (dcc (r := 36) lq_15 rfl (Nat.le_of_ble_eq_true rfl) (by decide +kernel)) rfl
theorem dl_999 : decode code 999 = .ok (.pop2, 1) := dc_88 (dcc (r := 39) lq_15 rfl (Nat.le_of_ble_eq_true rfl) (by decide +kernel))
theorem dl_1000 : decode code 1000 = .ok (.goto 359, 3) := dc_167 (a := 1) (b := 103) (dcc (r := 40) lq_15 rfl (Nat.le_of_ble_eq_true rfl) (by decide +kernel)) rfl
theorem dl_1003 : decode code 1003 = .ok (.aload_n 1, 1) := dc_43 (dcc (r := 43) lq_15 rfl (Nat.le_of_ble_eq_true rfl) (by decide +kernel))
theorem dl_1004 : decode code 1004 = .ok (.aload_n 0, 1) := dc_42 (dcc (r := 44) lq_15 rfl (Nat.le_of_ble_eq_true rfl) (by decide +kernel))
theorem dl_1005 : decode code 1005 = .ok (.iload_n 3, 1) := dc_29 (dcc (r := 45) lq_15 rfl (Nat.le_of_ble_eq_true rfl) (by decide +kernel))
theorem dl_1006 : decode code 1006 = .ok (.iconst 1, 1) := dc_4 (dcc (r := 46) lq_15 rfl (Nat.le_of_ble_eq_true rfl) (by decide +kernel))
theorem dl_1007 : decode code 1007 = .ok (.iadd, 1) := dc_96 (dcc (r := 47) lq_15 rfl (Nat.le_of_ble_eq_true rfl) (by decide +kernel))
theorem dl_1008 : decode code 1008 = .ok (.iaload, 1) := dc_46 (dcc (r := 48) lq_15 rfl (Nat.le_of_ble_eq_true rfl) (by decide +kernel))
theorem dl_1009 : decode code 1009 = .ok (.invokevirtual 121, 3) := dc_182 (a := 0) (b := 121) (dcc (r := 49) lq_15 rfl (Nat.le_of_ble_eq_true rfl) (by decide +kernel)) rfl
theorem dl_1012 : decode code 1012 = .ok (.pop, 1) := dc_87 (dcc (r := 52) lq_15 rfl (Nat.le_of_ble_eq_true rfl) (by decide +kernel))
theorem dl_1013 : decode code 1013 = .ok (.aload_n 2, 1) := dc_44 (dcc (r := 53) lq_15 rfl (Nat.le_of_ble_eq_true rfl) (by decide +kernel))
theorem dl_1014 : decode code 1014 = .ok (.aload_n 0, 1) := dc_42 (dcc (r := 54) lq_15 rfl (Nat.le_of_ble_eq_true rfl) (by decide +kernel))
theorem dl_1015 : decode code 1015 = .ok (.iload_n 3, 1) := dc_29 (dcc (r := 55) lq_15 rfl (Nat.le_of_ble_eq_true rfl) (by decide +kernel))
theorem dl_1016 : decode code 1016 = .ok (.iconst 1, 1) := dc_4 (dcc (r := 56) lq_15 rfl (Nat.le_of_ble_eq_true rfl) (by decide +kernel))
theorem dl_1017 : decode code 1017 = .ok (.iadd, 1) := dc_96 (dcc (r := 57) lq_15 rfl (Nat.le_of_ble_eq_true rfl) (by decide +kernel))
theorem dl_1018 : decode code 1018 = .ok (.iaload, 1) := dc_46 (dcc (r := 58) lq_15 rfl (Nat.le_of_ble_eq_true rfl) (by decide +kernel))
theorem dl_1019 : decode code 1019 = .ok (.invokevirtual 124, 3) := dc_182 (a := 0) (b := 124) (dcc (r := 59) lq_15 rfl (Nat.le_of_ble_eq_true rfl) (by decide +kernel)) rfl
theorem dl_1022 : decode code 1022 = .ok (.pop, 1) := dc_87 (dcc (r := 62) lq_15 rfl (Nat.le_of_ble_eq_true rfl) (by decide +kernel))
theorem dl_1023 : decode code 1023 = .ok (.goto 336, 3) := dc_167 (a := 1) (b := 80) (dcc (r := 63) lq_15 rfl (Nat.le_of_ble_eq_true rfl) (by decide +kernel)) rfl
theorem dl_1026 : decode code 1026 = .ok (.aload_n 1, 1) := dc_43 (dcc (r := 2) lq_16 rfl (Nat.le_of_ble_eq_true rfl) (by decide +kernel))
theorem dl_1027 : decode code 1027 = .ok (.aload_n 0, 1) := dc_42 (dcc (r := 3) lq_16 rfl (Nat.le_of_ble_eq_true rfl) (by decide +kernel))
theorem dl_1028 : decode code 1028 = .ok (.iload_n 3, 1) := dc_29 (dcc (r := 4) lq_16 rfl (Nat.le_of_ble_eq_true rfl) (by decide +kernel))
theorem dl_1029 : decode code 1029 = .ok (.iconst 1, 1) := dc_4 (dcc (r := 5) lq_16 rfl (Nat.le_of_ble_eq_true rfl) (by decide +kernel))
theorem dl_1030 : decode code 1030 = .ok (.iadd, 1) := dc_96 (dcc (r := 6) lq_16 rfl (Nat.le_of_ble_eq_true rfl) (by decide +kernel))
theorem dl_1031 : decode code 1031 = .ok (.iaload, 1) := dc_46 (dcc (r := 7) lq_16 rfl (Nat.le_of_ble_eq_true rfl) (by decide +kernel))
theorem dl_1032 : decode code 1032 = .ok (.aload_n 0, 1) := dc_42 (dcc (r := 8) lq_16 rfl (Nat.le_of_ble_eq_true rfl) (by decide +kernel))
theorem dl_1033 : decode code 1033 = .ok (.iload_n 3, 1) := dc_29 (dcc (r := 9) lq_16 rfl (Nat.le_of_ble_eq_true rfl) (by decide +kernel))
theorem dl_1034 : decode code 1034 = .ok (.iconst 2, 1) := dc_5 (dcc (r := 10) lq_16 rfl (Nat.le_of_ble_eq_true rfl) (by decide +kernel))
theorem dl_1035 : decode code 1035 = .ok (.iadd, 1) := dc_96 (dcc (r := 11) lq_16 rfl (Nat.le_of_ble_eq_true rfl) (by decide +kernel))
theorem dl_1036 : decode code 1036 = .ok (.iaload, 1) := dc_46 (dcc (r := 12) lq_16 rfl (Nat.le_of_ble_eq_true rfl) (by decide +kernel))
theorem dl_1037 : decode code 1037 = .ok (.invokevirtual 125, 3) := dc_182 (a := 0) (b := 125) (dcc (r := 13) lq_16 rfl (Nat.le_of_ble_eq_true rfl) (by decide +kernel)) rfl
theorem dl_1040 : decode code 1040 = .ok (.aload_n 2, 1) := dc_44 (dcc (r := 16) lq_16 rfl (Nat.le_of_ble_eq_true rfl) (by decide +kernel))
theorem dl_1041 : decode code 1041 = .ok (.aload_n 0, 1) := dc_42 (dcc (r := 17) lq_16 rfl (Nat.le_of_ble_eq_true rfl) (by decide +kernel))
theorem dl_1042 : decode code 1042 = .ok (.iload_n 3, 1) := dc_29 (dcc (r := 18) lq_16 rfl (Nat.le_of_ble_eq_true rfl) (by decide +kernel))
theorem dl_1043 : decode code 1043 = .ok (.iconst 1, 1) := dc_4 (dcc (r := 19) lq_16 rfl (Nat.le_of_ble_eq_true rfl) (by decide +kernel))
theorem dl_1044 : decode code 1044 = .ok (.iadd, 1) := dc_96 (dcc (r := 20) lq_16 rfl (Nat.le_of_ble_eq_true rfl) (by decide +kernel))
theorem dl_1045 : decode code 1045 = .ok (.iaload, 1) := dc_46 (dcc (r := 21) lq_16 rfl (Nat.le_of_ble_eq_true rfl) (by decide +kernel))
theorem dl_1046 : decode code 1046 = .ok (.aload_n 0, 1) := dc_42 (dcc (r := 22) lq_16 rfl (Nat.le_of_ble_eq_true rfl) (by decide +kernel))
theorem dl_1047 : decode code 1047 = .ok (.iload_n 3, 1) := dc_29 (dcc (r := 23) lq_16 rfl (Nat.le_of_ble_eq_true rfl) (by decide +kernel))
theorem dl_1048 : decode code 1048 = .ok (.iconst 2, 1) := dc_5 (dcc (r := 24) lq_16 rfl (Nat.le_of_ble_eq_true rfl) (by decide +kernel))
theorem dl_1049 : decode code 1049 = .ok (.iadd, 1) := dc_96 (dcc (r := 25) lq_16 rfl (Nat.le_of_ble_eq_true rfl) (by decide +kernel))
theorem dl_1050 : decode code 1050 = .ok (.iaload, 1) := dc_46 (dcc (r := 26) lq_16 rfl (Nat.le_of_ble_eq_true rfl) (by decide +kernel))
theorem dl_1051 : decode code 1051 = .ok (.invokevirtual 128, 3) := dc_182 (a := 0) (b := 128) (dcc (r := 27) lq_16 rfl (Nat.le_of_ble_eq_true rfl) (by decide +kernel)) rfl
theorem dl_1054 : decode code 1054 = .ok (.if_icmp .eq 305, 3) := dc_159 (a := 1) (b := 49) (dcc (r := 30) lq_16 rfl (Nat.le_of_ble_eq_true rfl) (by decide +kernel)) rfl
theorem dl_1059 : decode code 1059 = .ok (.aload_n 1, 1) := dc_43 (dcc (r := 35) lq_16 rfl (Nat.le_of_ble_eq_true rfl) (by decide +kernel))
theorem dl_1060 : decode code 1060 = .ok (.aload_n 0, 1) := dc_42 (dcc (r := 36) lq_16 rfl (Nat.le_of_ble_eq_true rfl) (by decide +kernel))
theorem dl_1061 : decode code 1061 = .ok (.iload_n 3, 1) := dc_29 (dcc (r := 37) lq_16 rfl (Nat.le_of_ble_eq_true rfl) (by decide +kernel))
theorem dl_1062 : decode code 1062 = .ok (.iconst 1, 1) := dc_4 (dcc (r := 38) lq_16 rfl (Nat.le_of_ble_eq_true rfl) (by decide +kernel))
theorem dl_1063 : decode code 1063 = .ok (.iadd, 1) := dc_96 (dcc (r := 39) lq_16 rfl (Nat.le_of_ble_eq_true rfl) (by decide +kernel))
theorem dl_1064 : decode code 1064 = .ok (.iaload, 1) := dc_46 (dcc (r := 40) lq_16 rfl (Nat.le_of_ble_eq_true rfl) (by decide +kernel))
theorem dl_1065 : decode code 1065 = .ok (.invokevirtual 129, 3) := dc_182 (a := 0) (b := 129) (dcc (r := 41) lq_16 rfl (Nat.le_of_ble_eq_true rfl) (by decide +kernel)) rfl
theorem dl_1068 : decode code 1068 = .ok (.pop, 1) := dc_87 (dcc (r := 44) lq_16 rfl (Nat.le_of_ble_eq_true rfl) (by decide +kernel))
theorem dl_1069 : decode code 1069 = .ok (.aload_n 2, 1) := dc_44 (dcc (r := 45) lq_16 rfl (Nat.le_of_ble_eq_true rfl) (by decide +kernel))
theorem dl_1070 : decode code 1070 = .ok (.aload_n 0, 1) := dc_42 (dcc (r := 46) lq_16 rfl (Nat.le_of_ble_eq_true rfl) (by decide +kernel))
theorem dl_1071 : decode code 1071 = .ok (.iload_n 3, 1) := dc_29 (dcc (r := 47) lq_16 rfl (Nat.le_of_ble_eq_true rfl) (by decide +kernel))
theorem dl_1072 : decode code 1072 = .ok (.iconst 1, 1) := dc_4 (dcc (r := 48) lq_16 rfl (Nat.le_of_ble_eq_true rfl) (by decide +kernel))
theorem dl_1073 : decode code 1073 = .ok (.iadd, 1) := dc_96 (dcc (r := 49) lq_16 rfl (Nat.le_of_ble_eq_true rfl) (by decide +kernel))
theorem dl_1074 : decode code 1074 = .ok (.iaload, 1) := dc_46 (dcc (r := 50) lq_16 rfl (Nat.le_of_ble_eq_true rfl) (by decide +kernel))
theorem dl_1075 : decode code 1075 = .ok (.invokevirtual 132, 3) := dc_182 (a := 0) (b := 132) (dcc (r := 51) lq_16 rfl (Nat.le_of_ble_eq_true rfl) (by decide +kernel)) rfl
theorem dl_1078 : decode code 1078 = .ok (.pop, 1) := dc_87 (dcc (r := 54) lq_16 rfl (Nat.le_of_ble_eq_true rfl) (by decide +kernel))
theorem dl_1079 : decode code 1079 = .ok (.goto 280, 3) := dc_167 (a := 1) (b := 24) (dcc (r := 55) lq_16 rfl (Nat.le_of_ble_eq_true rfl) (by decide +kernel)) rfl
theorem dl_1082 : decode code 1082 = .ok (.aload_n 1, 1) := dc_43 (dcc (r := 58) lq_16 rfl (Nat.le_of_ble_eq_true rfl) (by decide +kernel))
theorem dl_1083 : decode code 1083 = .ok (.aload_n 0, 1) := dc_42 (dcc (r := 59) lq_16 rfl (Nat.le_of_ble_eq_true rfl) (by decide +kernel))
theorem dl_1084 : decode code 1084 = .ok (.iload_n 3, 1) := dc_29 (dcc (r := 60) lq_16 rfl (Nat.le_of_ble_eq_true rfl) (by decide +kernel))
theorem dl_1085 : decode code 1085 = .ok (.iconst 1, 1) := dc_4 (dcc (r := 61) lq_16 rfl (Nat.le_of_ble_eq_true rfl) (by decide +kernel))
theorem dl_1086 : decode code 1086 = .ok (.iadd, 1) := dc_96 (dcc (r := 62) lq_16 rfl (Nat.le_of_ble_eq_true rfl) (by decide +kernel))
theorem dl_1087 : decode code 1087 = .ok (.iaload, 1) := dc_46 (dcc (r := 63) lq_16 rfl (Nat.le_of_ble_eq_true rfl) (by decide +kernel))
theorem dl_1088 : decode code 1088 = .ok (.invokevirtual 133, 3) := dc_182 (a := 0) (b := 133) (dcc (r := 0) lq_17 rfl (Nat.le_of_ble_eq_true rfl) (by decide +kernel)) rfl
theorem dl_1091 : decode code 1091 = .ok (.pop, 1) := dc_87 (dcc (r := 3) lq_17 rfl (Nat.le_of_ble_eq_true rfl) (by decide +kernel))
theorem dl_1092 : decode code 1092 = .ok (.aload_n 2, 1) := dc_44 (dcc (r := 4) lq_17 rfl (Nat.le_of_ble_eq_true rfl) (by decide +kernel))
theorem dl_1093 : decode code 1093 = .ok (.aload_n 0, 1) := dc_42 (dcc (r := 5) lq_17 rfl (Nat.le_of_ble_eq_true rfl) (by decide +kernel))
theorem dl_1094 : decode code 1094 = .ok (.iload_n 3, 1) := dc_29 (dcc (r := 6) lq_17 rfl (Nat.le_of_ble_eq_true rfl) (by decide +kernel))
theorem dl_1095 : decode code 1095 = .ok (.iconst 1, 1) := dc_4 (dcc (r := 7) lq_17 rfl (Nat.le_of_ble_eq_true rfl) (by decide +kernel))
theorem dl_1096 : decode code 1096 = .ok (.iadd, 1) := dc_96 (dcc (r := 8) lq_17 rfl (Nat.le_of_ble_eq_true rfl) (by decide +kernel))
theorem dl_1097 : decode code 1097 = .ok (.iaload, 1) := dc_46 (dcc (r := 9) lq_17 rfl (Nat.le_of_ble_eq_true rfl) (by decide +kernel))
theorem dl_1098 : decode code 1098 = .ok (.invokevirtual 136, 3) := dc_182 (a := 0) (b := 136) (dcc (r := 10) lq_17 rfl (Nat.le_of_ble_eq_true rfl) (by decide +kernel)) rfl
theorem dl_1101 : decode code 1101 = .ok (.pop, 1) := dc_87 (dcc (r := 13) lq_17 rfl (Nat.le_of_ble_eq_true rfl) (by decide +kernel))
theorem dl_1102 : decode code 1102 = .ok (.goto 257, 3) := dc_167 (a := 1) (b := 1) (dcc (r := 14) lq_17 rfl (Nat.le_of_ble_eq_true rfl) (by decide +kernel)) rfl
theorem dl_1105 : decode code 1105 = .ok (.aload_n 1, 1) := dc_43 (dcc (r := 17) lq_17 rfl (Nat.le_of_ble_eq_true rfl) (by decide +kernel))
theorem dl_1106 : decode code 1106 = .ok (.aload_n 0, 1) := dc_42 (dcc (r := 18) lq_17 rfl (Nat.le_of_ble_eq_true rfl) (by decide +kernel))
theorem dl_1107 : decode code 1107 = .ok (.iload_n 3, 1) := dc_29 (dcc (r := 19) lq_17 rfl (Nat.le_of_ble_eq_true rfl) (by decide +kernel))
theorem dl_1108 : decode code 1108 = .ok (.iconst 1, 1) := dc_4 (dcc (r := 20) lq_17 rfl (Nat.le_of_ble_eq_true rfl) (by decide +kernel))
theorem dl_1109 : decode code 1109 = .ok (.iadd, 1) := dc_96 (dcc (r := 21) lq_17 rfl (Nat.le_of_ble_eq_true rfl) (by decide +kernel))
theorem dl_1110 : decode code 1110 = .ok (.iaload, 1) := dc_46 (dcc (r := 22) lq_17 rfl (Nat.le_of_ble_eq_true rfl) (by decide +kernel))
theorem dl_1111 : decode code 1111 = .ok (.aload_n 0, 1) := dc_42 (dcc (r := 23) lq_17 rfl (Nat.le_of_ble_eq_true rfl) (by decide +kernel))
theorem dl_1112 : decode code 1112 = .ok (.iload_n 3, 1) := dc_29 (dcc (r := 24) lq_17 rfl (Nat.le_of_ble_eq_true rfl) (by decide +kernel))
theorem dl_1113 : decode code 1113 = .ok (.iconst 2, 1) := dc_5 (dcc (r := 25) lq_17 rfl (Nat.le_of_ble_eq_true rfl) (by decide +kernel))
theorem dl_1114 : decode code 1114 = .ok (.iadd, 1) := dc_96 (dcc (r := 26) lq_17 rfl (Nat.le_of_ble_eq_true rfl) (by decide +kernel))
theorem dl_1115 : decode code 1115 = .ok (.iaload, 1) := dc_46 (dcc (r := 27) lq_17 rfl (Nat.le_of_ble_eq_true rfl) (by decide +kernel))
theorem dl_1116 : decode code 1116 = .ok (.invokevirtual 137, 3) := dc_182 (a := 0) (b := 137) (dcc (r := 28) lq_17 rfl (Nat.le_of_ble_eq_true rfl) (by decide +kernel)) rfl
theorem dl_1119 : decode code 1119 = .ok (.pop, 1) := dc_87 (dcc (r := 31) lq_17 rfl (Nat.le_of_ble_eq_true rfl) (by decide +kernel))
theorem dl_1120 : decode code 1120 = .ok (.aload_n 2, 1) := dc_44 (dcc (r := 32) lq_17 rfl (Nat.le_of_ble_eq_true rfl) (by decide +kernel))
theorem dl_1121 : decode code 1121 = .ok (.aload_n 0, 1) := dc_42 (dcc (r := 33) lq_17 rfl (Nat.le_of_ble_eq_true rfl) (by decide +kernel))
theorem dl_1122 : decode code 1122 = .ok (.iload_n 3, 1) := dc_29 (dcc (r := 34) lq_17 rfl (Nat.le_of_ble_eq_true rfl) (by decide +kernel))
theorem dl_1123 : decode code 1123 = .ok (.iconst 1, 1) := dc_4 (dcc (r := 35) lq_17 rfl (Nat.le_of_ble_eq_true rfl) (by decide +kernel))
theorem dl_1124 : decode code 1124 = .ok (.iadd, 1) := dc_96 (dcc (r := 36) lq_17 rfl (Nat.le_of_ble_eq_true rfl) (by decide +kernel))
theorem dl_1125 : decode code 1125 = .ok (.iaload, 1) := dc_46 (dcc (r := 37) lq_17 rfl (Nat.le_of_ble_eq_true rfl) (by decide +kernel))
theorem dl_1126 : decode code 1126 = .ok (.aload_n 0, 1) := dc_42 (dcc (r := 38) lq_17 rfl (Nat.le_of_ble_eq_true rfl) (by decide +kernel))
theorem dl_1127 : decode code 1127 = .ok (.iload_n 3, 1) := dc_29 (dcc (r := 39) lq_17 rfl (Nat.le_of_ble_eq_true rfl) (by decide +kernel))
theorem dl_1128 : decode code 1128 = .ok (.iconst 2, 1) := dc_5 (dcc (r := 40) lq_17 rfl (Nat.le_of_ble_eq_true rfl) (by decide +kernel))
theorem dl_1129 : decode code 1129 = .ok (.iadd, 1) := dc_96 (dcc (r := 41) lq_17 rfl (Nat.le_of_ble_eq_true rfl) (by decide +kernel))
theorem dl_1130 : decode code 1130 = .ok (.iaload, 1) := dc_46 (dcc (r := 42) lq_17 rfl (Nat.le_of_ble_eq_true rfl) (by decide +kernel))
theorem dl_1131 : decode code 1131 = .ok (.invokevirtual 140, 3) := dc_182 (a := 0) (b := 140) (dcc (r := 43) lq_17 rfl (Nat.le_of_ble_eq_true rfl) (by decide +kernel)) rfl
theorem dl_1134 : decode code 1134 = .ok (.pop, 1) := dc_87 (dcc (r := 46) lq_17 rfl (Nat.le_of_ble_eq_true rfl) (by decide +kernel))
theorem dl_1135 : decode code 1135 = .ok (.goto 224, 3) := dc_167 (a := 0) (b := 224) (dcc (r := 47) lq_17 rfl (Nat.le_of_ble_eq_true rfl) (by decide +kernel)) rfl
theorem dl_1138 : decode code 1138 = .ok (.aload_n 1, 1) := dc_43 (dcc (r := 50) lq_17 rfl (Nat.le_of_ble_eq_true rfl) (by decide +kernel))
theorem dl_1139 : decode code 1139 = .ok (.aload_n 0, 1) := dc_42 (dcc (r := 51) lq_17 rfl (Nat.le_of_ble_eq_true rfl) (by decide +kernel))
theorem dl_1140 : decode code 1140 = .ok (.iload_n 3, 1) := dc_29 (dcc (r := 52) lq_17 rfl (Nat.le_of_ble_eq_true rfl) (by decide +kernel))
theorem dl_1141 : decode code 1141 = .ok (.iconst 1, 1) := dc_4 (dcc (r := 53) lq_17 rfl (Nat.le_of_ble_eq_true rfl) (by decide +kernel))
theorem dl_1142 : decode code 1142 = .ok (.iadd, 1) := dc_96 (dcc (r := 54) lq_17 rfl (Nat.le_of_ble_eq_true rfl) (by decide +kernel))
theorem dl_1143 : decode code 1143 = .ok (.iaload, 1) := dc_46 (dcc (r := 55) lq_17 rfl (Nat.le_of_ble_eq_true rfl) (by decide +kernel))
theorem dl_1144 : decode code 1144 = .ok (.invokevirtual 141, 3) := dc_182 (a := 0) (b := 141) (dcc (r := 56) lq_17 rfl (Nat.le_of_ble_eq_true rfl) (by decide +kernel)) rfl
theorem dl_1147 : decode code 1147 = .ok (.pop, 1) := dc_87 (dcc (r := 59) lq_17 rfl (Nat.le_of_ble_eq_true rfl) (by decide +kernel))
theorem dl_1148 : decode code 1148 = .ok (.aload_n 2, 1) := dc_44 (dcc (r := 60) lq_17 rfl (Nat.le_of_ble_eq_true rfl) (by decide +kernel))
theorem dl_1149 : decode code 1149 = .ok (.aload_n 0, 1) := dc_42 (dcc (r := 61) lq_17 rfl (Nat.le_of_ble_eq_true rfl) (by decide +kernel))
theorem dl_1150 : decode code 1150 = .ok (.iload_n 3, 1) := dc_29 (dcc (r := 62) lq_17 rfl (Nat.le_of_ble_eq_true rfl) (by decide +kernel))
theorem dl_1151 : decode code 1151 = .ok (.iconst 1, 1) := dc_4 (dcc (r := 63) lq_17 rfl (Nat.le_of_ble_eq_true rfl) (by decide +kernel))
theorem dl_1152 : decode code 1152 = .ok (.iadd, 1) := dc_96 (dcc (r := 0) lq_18 rfl (Nat.le_of_ble_eq_true rfl) (by decide +kernel))
theorem dl_1153 : decode code 1153 = .ok (.iaload, 1) := dc_46 (dcc (r := 1) lq_18 rfl (Nat.le_of_ble_eq_true rfl) (by decide +kernel))
theorem dl_1154 : decode code 1154 = .ok (.invokevirtual 144, 3) := dc_182 (a := 0) (b := 144) (dcc (r := 2) lq_18 rfl (Nat.le_of_ble_eq_true rfl) (by decide +kernel)) rfl
theorem dl_1157 : decode code 1157 = .ok (.pop, 1) := dc_87 (dcc (r := 5) lq_18 rfl (Nat.le_of_ble_eq_true rfl) (by decide +kernel))
theorem dl_1158 : decode code 1158 = .ok (.goto 201, 3) := dc_167 (a := 0) (b := 201) (dcc (r := 6) lq_18 rfl (Nat.le_of_ble_eq_true rfl) (by decide +kernel)) rfl
theorem dl_1161 : decode code 1161 = .ok (.aload_n 1, 1) := dc_43 (dcc (r := 9) lq_18 rfl (Nat.le_of_ble_eq_true rfl) (by decide +kernel))
theorem dl_1162 : decode code 1162 = .ok (.aload_n 0, 1) := dc_42 (dcc (r := 10) lq_18 rfl (Nat.le_of_ble_eq_true rfl) (by decide +kernel))
theorem dl_1163 : decode code 1163 = .ok (.iload_n 3, 1) := dc_29 (dcc (r := 11) lq_18 rfl (Nat.le_of_ble_eq_true rfl) (by decide +kernel))
theorem dl_1164 : decode code 1164 = .ok (.iconst 1, 1) := dc_4 (dcc (r := 12) lq_18 rfl (Nat.le_of_ble_eq_true rfl) (by decide +kernel))
theorem dl_1165 : decode code 1165 = .ok (.iadd, 1) := dc_96 (dcc (r := 13) lq_18 rfl (Nat.le_of_ble_eq_true rfl) (by decide +kernel))
theorem dl_1166 : decode code 1166 = .ok (.iaload, 1) := dc_46 (dcc (r := 14) lq_18 rfl (Nat.le_of_ble_eq_true rfl) (by decide +kernel))
theorem dl_1167 : decode code 1167 = .ok (.invokevirtual 145, 3) := dc_182 (a := 0) (b := 145) (dcc (r := 15) lq_18 rfl (Nat.le_of_ble_eq_true rfl) (by decide +kernel)) rfl
theorem dl_1170 : decode code 1170 = .ok (.pop, 1) := dc_87 (dcc (r := 18) lq_18 rfl (Nat.le_of_ble_eq_true rfl) (by decide +kernel))
theorem dl_1171 : decode code 1171 = .ok (.aload_n 2, 1) := dc_44 (dcc (r := 19) lq_18 rfl (Nat.le_of_ble_eq_true rfl) (by decide +kernel))
theorem dl_1172 : decode code 1172 = .ok (.aload_n 0, 1) := dc_42 (dcc (r := 20) lq_18 rfl (Nat.le_of_ble_eq_true rfl) (by decide +kernel))
theorem dl_1173 : decode code 1173 = .ok (.iload_n 3, 1) := dc_29 (dcc (r := 21) lq_18 rfl (Nat.le_of_ble_eq_true rfl) (by decide +kernel))
theorem dl_1174 : decode code 1174 = .ok (.iconst 1, 1) := dc_4 (dcc (r := 22) lq_18 rfl (Nat.le_of_ble_eq_true rfl) (by decide +kernel))
theorem dl_1175 : decode code 1175 = .ok (.iadd, 1) := dc_96 (dcc (r := 23) lq_18 rfl (Nat.le_of_ble_eq_true rfl) (by decide +kernel))
theorem dl_1176 : decode code 1176 = .ok (.iaload, 1) := dc_46 (dcc (r := 24) lq_18 rfl (Nat.le_of_ble_eq_true rfl) (by decide +kernel))
theorem dl_1177 : decode code 1177 = .ok (.invokevirtual 148, 3) := dc_182 (a := 0) (b := 148) (dcc (r := 25) lq_18 rfl (Nat.le_of_ble_eq_true rfl) (by decide +kernel)) rfl
theorem dl_1180 : decode code 1180 = .ok (.pop, 1) := dc_87 (dcc (r := 28) lq_18 rfl (Nat.le_of_ble_eq_true rfl) (by decide +kernel))
theorem dl_1181 : decode code 1181 = .ok (.goto 178, 3) := dc_167 (a := 0) (b := 178) (dcc (r := 29) lq_18 rfl (Nat.le_of_ble_eq_true rfl) (by decide +kernel)) rfl
theorem dl_1184 : decode code 1184 = .ok (.aload_n 1, 1) := dc_43 (dcc (r := 32) lq_18 rfl (Nat.le_of_ble_eq_true rfl) (by decide +kernel))
theorem dl_1185 : decode code 1185 = .ok (.aload_n 0, 1) := dc_42 (dcc (r := 33) lq_18 rfl (Nat.le_of_ble_eq_true rfl) (by decide +kernel))
theorem dl_1186 : decode code 1186 = .ok (.iload_n 3, 1) := dc_29 (dcc (r := 34) lq_18 rfl (Nat.le_of_ble_eq_true rfl) (by decide +kernel))
theorem dl_1187 : decode code 1187 = .ok (.iconst 1, 1) := dc_4 (dcc (r := 35) lq_18 rfl (Nat.le_of_ble_eq_true rfl) (by decide +kernel))
theorem dl_1188 : decode code 1188 = .ok (.iadd, 1) := dc_96 (dcc (r := 36) lq_18 rfl (Nat.le_of_ble_eq_true rfl) (by decide +kernel))
theorem dl_1189 : decode code 1189 = .ok (.iaload, 1) := dc_46 (dcc (r := 37) lq_18 rfl (Nat.le_of_ble_eq_true rfl) (by decide +kernel))
theorem dl_1190 : decode code 1190 = .ok (.aload_n 0, 1) := dc_42 (dcc (r := 38) lq_18 rfl (Nat.le_of_ble_eq_true rfl) (by decide +kernel))
theorem dl_1191 : decode code 1191 = .ok (.iload_n 3, 1) := dc_29 (dcc (r := 39) lq_18 rfl (Nat.le_of_ble_eq_true rfl) (by decide +kernel))
theorem dl_1192 : decode code 1192 = .ok (.iconst 2, 1) := dc_5 (dcc (r := 40) lq_18 rfl (Nat.le_of_ble_eq_true rfl) (by decide +kernel))
theorem dl_1193 : decode code 1193 = .ok (.iadd, 1) := dc_96 (dcc (r := 41) lq_18 rfl (Nat.le_of_ble_eq_true rfl) (by decide +kernel))
theorem dl_1194 : decode code 1194 = .ok (.iaload, 1) := dc_46 (dcc (r := 42) lq_18 rfl (Nat.le_of_ble_eq_true rfl) (by decide +kernel))
theorem dl_1195 : decode code 1195 = .ok (.aload_n 0, 1) := dc_42 (dcc (r := 43) lq_18 rfl (Nat.le_of_ble_eq_true rfl) (by decide +kernel))
theorem dl_1196 : decode code 1196 = .ok (.iload_n 3, 1) := dc_29 (dcc (r := 44) lq_18 rfl (Nat.le_of_ble_eq_true rfl) (by decide +kernel))
theorem dl_1197 : decode code 1197 = .ok (.iconst 3, 1) := dc_6 (dcc (r := 45) lq_18 rfl (Nat.le_of_ble_eq_true rfl) (by decide +kernel))
theorem dl_1198 : decode code 1198 = .ok (.iadd, 1) := dc_96 (dcc (r := 46) lq_18 rfl (Nat.le_of_ble_eq_true rfl) (by decide +kernel))
theorem dl_1199 : decode code 1199 = .ok (.iaload, 1) := dc_46 (dcc (r := 47) lq_18 rfl (Nat.le_of_ble_eq_true rfl) (by decide +kernel))
theorem dl_1200 : decode code 1200 = .ok (.invokevirtual 149, 3) := dc_182 (a := 0) (b := 149) (dcc (r := 48) lq_18 rfl (Nat.le_of_ble_eq_true rfl) (by decide +kernel)) rfl
theorem dl_1203 : decode code 1203 = .ok (.pop, 1) := dc_87 (dcc (r := 51) lq_18 rfl (Nat.le_of_ble_eq_true rfl) (by decide +kernel))
theorem dl_1204 : decode code 1204 = .ok (.aload_n 2, 1) := dc_44 (dcc (r := 52) lq_18 rfl (Nat.le_of_ble_eq_true rfl) (by decide +kernel))
theorem dl_1205 : decode code 1205 = .ok (.aload_n 0, 1) := dc_42 (dcc (r := 53) lq_18 rfl (Nat.le_of_ble_eq_true rfl) (by decide +kernel))
theorem dl_1206 : decode code 1206 = .ok (.iload_n 3, 1) := dc_29 (dcc (r := 54) lq_18 rfl (Nat.le_of_ble_eq_true rfl) (by decide +kernel))
theorem dl_1207 : decode code 1207 = .ok (.iconst 1, 1) := dc_4 (dcc (r := 55) lq_18 rfl (Nat.le_of_ble_eq_true rfl) (by decide +kernel))
theorem dl_1208 : decode code 1208 = .ok (.iadd, 1) := dc_96 (dcc (r := 56) lq_18 rfl (Nat.le_of_ble_eq_true rfl) (by decide +kernel))
theorem dl_1209 : decode code 1209 = .ok (.iaload, 1) := dc_46 (dcc (r := 57) lq_18 rfl (Nat.le_of_ble_eq_true rfl) (by decide +kernel))
theorem dl_1210 : decode code 1210 = .ok (.aload_n 0, 1) := dc_42 (dcc (r := 58) lq_18 rfl (Nat.le_of_ble_eq_true rfl) (by decide +kernel))
theorem dl_1211 : decode code 1211 = .ok (.iload_n 3, 1) := dc_29 (dcc (r := 59) lq_18 rfl (Nat.le_of_ble_eq_true rfl) (by decide +kernel))
theorem dl_1212 : decode code 1212 = .ok (.iconst 2, 1) := dc_5 (dcc (r := 60) lq_18 rfl (Nat.le_of_ble_eq_true rfl) (by decide +kernel))
theorem dl_1213 : decode code 1213 = .ok (.iadd, 1) := dc_96 (dcc (r := 61) lq_18 rfl (Nat.le_of_ble_eq_true rfl) (by decide +kernel))
theorem dl_1214 : decode code 1214 = .ok (.iaload, 1) := dc_46 (dcc (r := 62) lq_18 rfl (Nat.le_of_ble_eq_true rfl) (by decide +kernel))
theorem dl_1215 : decode code 1215 = .ok (.aload_n 0, 1) := dc_42 (dcc (r := 63) lq_18 rfl (Nat.le_of_ble_eq_true rfl) (by decide +kernel))
theorem dl_1216 : decode code 1216 = .ok (.iload_n 3, 1) := dc_29 (dcc (r := 0) lq_19 rfl (Nat.le_of_ble_eq_true rfl) (by decide +kernel))
theorem dl_1217 : decode code 1217 = .ok (.iconst 3, 1) := dc_6 (dcc (r := 1) lq_19 rfl (Nat.le_of_ble_eq_true rfl) (by decide +kernel))
theorem dl_1218 : decode code 1218 = .ok (.iadd, 1) := dc_96 (dcc (r := 2) lq_19 rfl (Nat.le_of_ble_eq_true rfl) (by decide +kernel))
theorem dl_1219 : decode code 1219 = .ok (.iaload, 1) := dc_46 (dcc (r := 3) lq_19 rfl (Nat.le_of_ble_eq_true rfl) (by decide +kernel))
theorem dl_1220 : decode code 1220 = .ok (.invokevirtual 152, 3) := dc_182 (a := 0) (b := 152) (dcc (r := 4) lq_19 rfl (Nat.le_of_ble_eq_true rfl) (by decide +kernel)) rfl
theorem dl_1223 : decode code 1223 = .ok (.pop, 1) := dc_87 (dcc (r := 7) lq_19 rfl (Nat.le_of_ble_eq_true rfl) (by decide +kernel))
theorem dl_1224 : decode code 1224 = .ok (.goto 135, 3) := dc_167 (a := 0) (b := 135) (dcc (r := 8) lq_19 rfl (Nat.le_of_ble_eq_true rfl) (by decide +kernel)) rfl
theorem dl_1227 : decode code 1227 = .ok (.aload_n 1, 1) := dc_43 (dcc (r := 11) lq_19 rfl (Nat.le_of_ble_eq_true rfl) (by decide +kernel))
theorem dl_1228 : decode code 1228 = .ok (.aload_n 0, 1) := dc_42 (dcc (r := 12) lq_19 rfl (Nat.le_of_ble_eq_true rfl) (by decide +kernel))
theorem dl_1229 : decode code 1229 = .ok (.iload_n 3, 1) := dc_29 (dcc (r := 13) lq_19 rfl (Nat.le_of_ble_eq_true rfl) (by decide +kernel))
theorem dl_1230 : decode code 1230 = .ok (.iconst 1, 1) := dc_4 (dcc (r := 14) lq_19 rfl (Nat.le_of_ble_eq_true rfl) (by decide +kernel))
theorem dl_1231 : decode code 1231 = .ok (.iadd, 1) := dc_96 (dcc (r := 15) lq_19 rfl (Nat.le_of_ble_eq_true rfl) (by decide +kernel))
theorem dl_1232 : decode code 1232 = .ok (.iaload, 1) := dc_46 (dcc (r := 16) lq_19 rfl (Nat.le_of_ble_eq_true rfl) (by decide +kernel))
theorem dl_1233 : decode code 1233 = .ok (.aload_n 0, 1) := dc_42 (dcc (r := 17) lq_19 rfl (Nat.le_of_ble_eq_true rfl) (by decide +kernel))
theorem dl_1234 : decode code 1234 = .ok (.iload_n 3, 1) := dc_29 (dcc (r := 18) lq_19 rfl (Nat.le_of_ble_eq_true rfl) (by decide +kernel))
theorem dl_1235 : decode code 1235 = .ok (.iconst 2, 1) := dc_5 (dcc (r := 19) lq_19 rfl (Nat.le_of_ble_eq_true rfl) (by decide +kernel))
theorem dl_1236 : decode code 1236 = .ok (.iadd, 1) := dc_96 (dcc (r := 20) lq_19 rfl (Nat.le_of_ble_eq_true rfl) (by decide +kernel))
theorem dl_1237 : decode code 1237 = .ok (.iaload, 1) := dc_46 (dcc (r := 21) lq_19 rfl (Nat.le_of_ble_eq_true rfl) (by decide +kernel))
theorem dl_1238 : decode code 1238 = .ok (.aload_n 0, 1) := dc_42 (dcc (r := 22) lq_19 rfl (Nat.le_of_ble_eq_true rfl) (by decide +kernel))
theorem dl_1239 : decode code 1239 = .ok (.iload_n 3, 1) := dc_29 (dcc (r := 23) lq_19 rfl (Nat.le_of_ble_eq_true rfl) (by decide +kernel))
theorem dl_1240 : decode code 1240 = .ok (.iconst 3, 1) := dc_6 (dcc (r := 24) lq_19 rfl (Nat.le_of_ble_eq_true rfl) (by decide +kernel))
theorem dl_1241 : decode code 1241 = .ok (.iadd, 1) := dc_96 (dcc (r := 25) lq_19 rfl (Nat.le_of_ble_eq_true rfl) (by decide +kernel))
theorem dl_1242 : decode code 1242 = .ok (.iaload, 1) := dc_46 (dcc (r := 26) lq_19 rfl (Nat.le_of_ble_eq_true rfl) (by decide +kernel))
theorem dl_1243 : decode code 1243 = .ok (.invokevirtual 153, 3) := dc_182 (a := 0) (b := 153) (dcc (r := 27) lq_19 rfl (Nat.le_of_ble_eq_true rfl) (by decide +kernel)) rfl
theorem dl_1246 : decode code 1246 = .ok (.pop, 1) := dc_87 (dcc (r := 30) lq_19 rfl (Nat.le_of_ble_eq_true rfl) (by decide +kernel))
theorem dl_1247 : decode code 1247 = .ok (.aload_n 2, 1) := dc_44 (dcc (r := 31) lq_19 rfl (Nat.le_of_ble_eq_true rfl) (by decide +kernel))
theorem dl_1248 : decode code 1248 = .ok (.aload_n 0, 1) := dc_42 (dcc (r := 32) lq_19 rfl (Nat.le_of_ble_eq_true rfl) (by decide +kernel))
theorem dl_1249 : decode code 1249 = .ok (.iload_n 3, 1) := dc_29 (dcc (r := 33) lq_19 rfl (Nat.le_of_ble_eq_true rfl) (by decide +kernel))
theorem dl_1250 : decode code 1250 = .ok (.iconst 1, 1) := dc_4 (dcc (r := 34) lq_19 rfl (Nat.le_of_ble_eq_true rfl) (by decide +kernel))
theorem dl_1251 : decode code 1251 = .ok (.iadd, 1) := dc_96 (dcc (r := 35) lq_19 rfl (Nat.le_of_ble_eq_true rfl) (by decide +kernel))
theorem dl_1252 : decode code 1252 = .ok (.iaload, 1) := dc_46 (dcc (r := 36) lq_19 rfl (Nat.le_of_ble_eq_true rfl) (by decide +kernel))
theorem dl_1253 : decode code 1253 = .ok (.aload_n 0, 1) := dc_42 (dcc (r := 37) lq_19 rfl (Nat.le_of_ble_eq_true rfl) (by decide +kernel))
theorem dl_1254 : decode code 1254 = .ok (.iload_n 3, 1) := dc_29 (dcc (r := 38) lq_19 rfl (Nat.le_of_ble_eq_true rfl) (by decide +kernel))
theorem dl_1255 : decode code 1255 = .ok (.iconst 2, 1) := dc_5 (dcc (r := 39) lq_19 rfl (Nat.le_of_ble_eq_true rfl) (by decide +kernel))
theorem dl_1256 : decode code 1256 = .ok (.iadd, 1) := dc_96 (dcc (r := 40) lq_19 rfl (Nat.le_of_ble_eq_true rfl) (by decide +kernel))
theorem dl_1257 : decode code 1257 = .ok (.iaload, 1) := dc_46 (dcc (r := 41) lq_19 rfl (Nat.le_of_ble_eq_true rfl) (by decide +kernel))
theorem dl_1258 : decode code 1258 = .ok (.aload_n 0, 1) := dc_42 (dcc (r := 42) lq_19 rfl (Nat.le_of_ble_eq_true rfl) (by decide +kernel))
theorem dl_1259 : decode code 1259 = .ok (.iload_n 3, 1) := dc_29 (dcc (r := 43) lq_19 rfl (Nat.le_of_ble_eq_true rfl) (by decide +kernel))
theorem dl_1260 : decode code 1260 = .ok (.iconst 3, 1) := dc_6 (dcc (r := 44) lq_19 rfl (Nat.le_of_ble_eq_true rfl) (by decide +kernel))
theorem dl_1261 : decode code 1261 = .ok (.iadd, 1) := dc_96 (dcc (r := 45) lq_19 rfl (Nat.le_of_ble_eq_true rfl) (by decide +kernel))
theorem dl_1262 : decode code 1262 = .ok (.iaload, 1) := dc_46 (dcc (r := 46) lq_19 rfl (Nat.le_of_ble_eq_true rfl) (by decide +kernel))
theorem dl_1263 : decode code 1263 = .ok (.invokevirtual 156, 3) := dc_182 (a := 0) (b := 156) (dcc (r := 47) lq_19 rfl (Nat.le_of_ble_eq_true rfl) (by decide +kernel)) rfl
theorem dl_1266 : decode code 1266 = .ok (.pop, 1) := dc_87 (dcc (r := 50) lq_19 rfl (Nat.le_of_ble_eq_true rfl) (by decide +kernel))
theorem dl_1267 : decode code 1267 = .ok (.goto 92, 3) := dc_167 (a := 0) (b := 92) (dcc (r := 51) lq_19 rfl (Nat.le_of_ble_eq_true rfl) (by decide +kernel)) rfl
theorem dl_1270 : decode code 1270 = .ok (.aload_n 1, 1) := dc_43 (dcc (r := 54) lq_19 rfl (Nat.le_of_ble_eq_true rfl) (by decide +kernel))
theorem dl_1271 : decode code 1271 = .ok (.aload_n 0, 1) := dc_42 (dcc (r := 55) lq_19 rfl (Nat.le_of_ble_eq_true rfl) (by decide +kernel))
theorem dl_1272 : decode code 1272 = .ok (.iload_n 3, 1) := dc_29 (dcc (r := 56) lq_19 rfl (Nat.le_of_ble_eq_true rfl) (by decide +kernel))
theorem dl_1273 : decode code 1273 = .ok (.iconst 1, 1) := dc_4 (dcc (r := 57) lq_19 rfl (Nat.le_of_ble_eq_true rfl) (by decide +kernel))
theorem dl_1274 : decode code 1274 = .ok (.iadd, 1) := dc_96 (dcc (r := 58) lq_19 rfl (Nat.le_of_ble_eq_true rfl) (by decide +kernel))
theorem dl_1275 : decode code 1275 = .ok (.iaload, 1) := dc_46 (dcc (r := 59) lq_19 rfl (Nat.le_of_ble_eq_true rfl) (by decide +kernel))
theorem dl_1276 : decode code 1276 = .ok (.aload_n 0, 1) := dc_42 (dcc (r := 60) lq_19 rfl (Nat.le_of_ble_eq_true rfl) (by decide +kernel))
theorem dl_1277 : decode code 1277 = .ok (.iload_n 3, 1) := dc_29 (dcc (r := 61) lq_19 rfl (Nat.le_of_ble_eq_true rfl) (by decide +kernel))
theorem dl_1278 : decode code 1278 = .ok (.iconst 2, 1) := dc_5 (dcc (r := 62) lq_19 rfl (Nat.le_of_ble_eq_true rfl) (by decide +kernel))
theorem dl_1279 : decode code 1279 = .ok (.iadd, 1) := dc_96 (dcc (r := 63) lq_19 rfl (Nat.le_of_ble_eq_true rfl) (by decide +kernel))
theorem dl_1280 : decode code 1280 = .ok (.iaload, 1) := dc_46 (dcc (r := 0) lq_20 rfl (Nat.le_of_ble_eq_true rfl) (by decide +kernel))
theorem dl_1281 : decode code 1281 = .ok (.aload_n 0, 1) := dc_42 (dcc (r := 1) lq_20 rfl (Nat.le_of_ble_eq_true rfl) (by decide +kernel))
theorem dl_1282 : decode code 1282 = .ok (.iload_n 3, 1) := dc_29 (dcc (r := 2) lq_20 rfl (Nat.le_of_ble_eq_true rfl) (by decide +kernel))
theorem dl_1283 : decode code 1283 = .ok (.iconst 3, 1) := dc_6 (dcc (r := 3) lq_20 rfl (Nat.le_of_ble_eq_true rfl) (by decide +kernel))
theorem dl_1284 : decode code 1284 = .ok (.iadd, 1) := dc_96 (dcc (r := 4) lq_20 rfl (Nat.le_of_ble_eq_true rfl) (by decide +kernel))
theorem dl_1285 : decode code 1285 = .ok (.iaload, 1) := dc_46 (dcc (r := 5) lq_20 rfl (Nat.le_of_ble_eq_true rfl) (by decide +kernel))
theorem dl_1286 : decode code 1286 = .ok (.aload_n 0, 1) := dc_42 (dcc (r := 6) lq_20 rfl (Nat.le_of_ble_eq_true rfl) (by decide +kernel))
theorem dl_1287 : decode code 1287 = .ok (.iload_n 3, 1) := dc_29 (dcc (r := 7) lq_20 rfl (Nat.le_of_ble_eq_true rfl) (by decide +kernel))
theorem dl_1288 : decode code 1288 = .ok (.iconst 4, 1) := dc_7 (dcc (r := 8) lq_20 rfl (Nat.le_of_ble_eq_true rfl) (by decide +kernel))
theorem dl_1289 : decode code 1289 = .ok (.iadd, 1) := dc_96 (dcc (r := 9) lq_20 rfl (Nat.le_of_ble_eq_true rfl) (by decide +kernel))
theorem dl_1290 : decode code 1290 = .ok (.iaload, 1) := dc_46 (dcc (r := 10) lq_20 rfl (Nat.le_of_ble_eq_true rfl) (by decide +kernel))
theorem dl_1291 : decode code 1291 = .ok (.invokevirtual 157, 3) := dc_182 (a := 0) (b := 157) (dcc (r := 11) lq_20 rfl (Nat.le_of_ble_eq_true rfl) (by decide +kernel)) rfl
theorem dl_1294 : decode code 1294 = .ok (.pop, 1) := dc_87 (dcc (r := 14) lq_20 rfl (Nat.le_of_ble_eq_true rfl) (by decide +kernel))
theorem dl_1295 : decode code 1295 = .ok (.aload_n 2, 1) := dc_44 (dcc (r := 15) lq_20 rfl (Nat.le_of_ble_eq_true rfl) (by decide +kernel))
theorem dl_1296 : decode code 1296 = .ok (.aload_n 0, 1) := dc_42 (dcc (r := 16) lq_20 rfl (Nat.le_of_ble_eq_true rfl) (by decide +kernel))
theorem dl_1297 : decode code 1297 = .ok (.iload_n 3, 1) := dc_29 (dcc (r := 17) lq_20 rfl (Nat.le_of_ble_eq_true rfl) (by decide +kernel))
theorem dl_1298 : decode code 1298 = .ok (.iconst 1, 1) := dc_4 (dcc (r := 18) lq_20 rfl (Nat.le_of_ble_eq_true rfl) (by decide +kernel))
theorem dl_1299 : decode code 1299 = .ok (.iadd, 1) := dc_96 (dcc (r := 19) lq_20 rfl (Nat.le_of_ble_eq_true rfl) (by decide +kernel))
theorem dl_1300 : decode code 1300 = .ok (.iaload, 1) := dc_46 (dcc (r := 20) lq_20 rfl (Nat.le_of_ble_eq_true rfl) (by decide +kernel))
theorem dl_1301 : decode code 1301 = .ok (.aload_n 0, 1) := dc_42 (dcc (r := 21) lq_20 rfl (Nat.le_of_ble_eq_true rfl) (by decide +kernel))
theorem dl_1302 : decode code 1302 = .ok (.iload_n 3, 1) := dc_29 (dcc (r := 22) lq_20 rfl (Nat.le_of_ble_eq_true rfl) (by decide +kernel))
theorem dl_1303 : decode code 1303 = .ok (.iconst 2, 1) := dc_5 (dcc (r := 23) lq_20 rfl (Nat.le_of_ble_eq_true rfl) (by decide +kernel))
theorem dl_1304 : decode code 1304 = .ok (.iadd, 1) := dc_96 (dcc (r := 24) lq_20 rfl (Nat.le_of_ble_eq_true rfl) (by decide +kernel))
theorem dl_1305 : decode code 1305 = .ok (.iaload, 1) := dc_46 (dcc (r := 25) lq_20 rfl (Nat.le_of_ble_eq_true rfl) (by decide +kernel))
theorem dl_1306 : decode code 1306 = .ok (.aload_n 0, 1) := dc_42 (dcc (r := 26) lq_20 rfl (Nat.le_of_ble_eq_true rfl) (by decide +kernel))
theorem dl_1307 : decode code 1307 = .ok (.iload_n 3, 1) := dc_29 (dcc (r := 27) lq_20 rfl (Nat.le_of_ble_eq_true rfl) (by decide +kernel))
theorem dl_1308 : decode code 1308 = .ok (.iconst 3, 1) := dc_6 (dcc (r := 28) lq_20 rfl (Nat.le_of_ble_eq_true rfl) (by decide +kernel))
theorem dl_1309 : decode code 1309 = .ok (.iadd, 1) := dc_96 (dcc (r := 29) lq_20 rfl (Nat.le_of_ble_eq_true rfl) (by decide +kernel))
theorem dl_1310 : decode code 1310 = .ok (.iaload, 1) := dc_46 (dcc (r := 30) lq_20 rfl (Nat.le_of_ble_eq_true rfl) (by decide +kernel))
theorem dl_1311 : decode code 1311 = .ok (.aload_n 0, 1) := dc_42 (dcc (r := 31) lq_20 rfl (Nat.le_of_ble_eq_true rfl) (by decide +kernel))
theorem dl_1312 : decode code 1312 = .ok (.iload_n 3, 1) := dc_29 (dcc (r := 32) lq_20 rfl (Nat.le_of_ble_eq_true rfl) (by decide +kernel))
theorem dl_1313 : decode code 1313 = .ok (.iconst 4, 1) := dc_7 (dcc (r := 33) lq_20 rfl (Nat.le_of_ble_eq_true rfl) (by decide +kernel))
theorem dl_1314 : decode code 1314 = .ok (.iadd, 1) := dc_96 (dcc (r := 34) lq_20 rfl (Nat.le_of_ble_eq_true rfl) (by decide +kernel))
theorem dl_1315 : decode code 1315 = .ok (.iaload, 1) := dc_46 (dcc (r := 35) lq_20 rfl (Nat.le_of_ble_eq_true rfl) (by decide +kernel))
theorem dl_1316 : decode code 1316 = .ok (.invokevirtual 160, 3) := dc_182 (a := 0) (b := 160) (dcc (r := 36) lq_20 rfl (Nat.le_of_ble_eq_true rfl) (by decide +kernel)) rfl
theorem dl_1319 : decode code 1319 = .ok (.pop, 1) := dc_87 (dcc (r := 39) lq_20 rfl (Nat.le_of_ble_eq_true rfl) (by decide +kernel))
theorem dl_1320 : decode code 1320 = .ok (.goto 39, 3) := dc_167 (a := 0) (b := 39) (dcc (r := 40) lq_20 rfl (Nat.le_of_ble_eq_true rfl) (by decide +kernel)) rfl
theorem dl_1323 : decode code 1323 = .ok (.aload_n 1, 1) := dc_43 (dcc (r := 43) lq_20 rfl (Nat.le_of_ble_eq_true rfl) (by decide +kernel))
theorem dl_1324 : decode code 1324 = .ok (.invokevirtual 161, 3) := dc_182 (a := 0) (b := 161) (dcc (r := 44) lq_20 rfl (Nat.le_of_ble_eq_true rfl) (by decide +kernel)) rfl
theorem dl_1327 : decode code 1327 = .ok (.pop, 1) := dc_87 (dcc (r := 47) lq_20 rfl (Nat.le_of_ble_eq_true rfl) (by decide +kernel))
theorem dl_1328 : decode code 1328 = .ok (.aload_n 2, 1) := dc_44 (dcc (r := 48) lq_20 rfl (Nat.le_of_ble_eq_true rfl) (by decide +kernel))
theorem dl_1329 : decode code 1329 = .ok (.invokevirtual 164, 3) := dc_182 (a := 0) (b := 164) (dcc (r := 49) lq_20 rfl (Nat.le_of_ble_eq_true rfl) (by decide +kernel)) rfl
theorem dl_1332 : decode code 1332 = .ok (.pop, 1) := dc_87 (dcc (r := 52) lq_20 rfl (Nat.le_of_ble_eq_true rfl) (by decide +kernel))
theorem dl_1333 : decode code 1333 = .ok (.goto 26, 3) := dc_167 (a := 0) (b := 26) (dcc (r := 53) lq_20 rfl (Nat.le_of_ble_eq_true rfl) (by decide +kernel)) rfl
theorem dl_1336 : decode code 1336 = .ok (.aload_n 1, 1) := dc_43 (dcc (r := 56) lq_20 rfl (Nat.le_of_ble_eq_true rfl) (by decide +kernel))
theorem dl_1337 : decode code 1337 = .ok (.aload_n 0, 1) := dc_42 (dcc (r := 57) lq_20 rfl (Nat.le_of_ble_eq_true rfl) (by decide +kernel))
theorem dl_1338 : decode code 1338 = .ok (.iload_n 3, 1) := dc_29 (dcc (r := 58) lq_20 rfl (Nat.le_of_ble_eq_true rfl) (by decide +kernel))
theorem dl_1339 : decode code 1339 = .ok (.iconst 1, 1) := dc_4 (dcc (r := 59) lq_20 rfl (Nat.le_of_ble_eq_true rfl) (by decide +kernel))
theorem dl_1340 : decode code 1340 = .ok (.iadd, 1) := dc_96 (dcc (r := 60) lq_20 rfl (Nat.le_of_ble_eq_true rfl) (by decide +kernel))
theorem dl_1341 : decode code 1341 = .ok (.iaload, 1) := dc_46 (dcc (r := 61) lq_20 rfl (Nat.le_of_ble_eq_true rfl) (by decide +kernel))
theorem dl_1342 : decode code 1342 = .ok (.invokevirtual 165, 3) := dc_182 (a := 0) (b := 165) (dcc (r := 62) lq_20 rfl (Nat.le_of_ble_eq_true rfl) (by decide +kernel)) rfl
theorem dl_1345 : decode code 1345 = .ok (.pop, 1) := dc_87 (dcc (r := 1) lq_21 rfl (Nat.le_of_ble_eq_true rfl) (by decide +kernel))
theorem dl_1346 : decode code 1346 = .ok (.aload_n 2, 1) := dc_44 (dcc (r := 2) lq_21 rfl (Nat.le_of_ble_eq_true rfl) (by decide +kernel))
theorem dl_1347 : decode code 1347 = .ok (.aload_n 0, 1) := dc_42 (dcc (r := 3) lq_21 rfl (Nat.le_of_ble_eq_true rfl) (by decide +kernel))
theorem dl_1348 : decode code 1348 = .ok (.iload_n 3, 1) := dc_29 (dcc (r := 4) lq_21 rfl (Nat.le_of_ble_eq_true rfl) (by decide +kernel))
theorem dl_1349 : decode code 1349 = .ok (.iconst 1, 1) := dc_4 (dcc (r := 5) lq_21 rfl (Nat.le_of_ble_eq_true rfl) (by decide +kernel))
theorem dl_1350 : decode code 1350 = .ok (.iadd, 1) := dc_96 (dcc (r := 6) lq_21 rfl (Nat.le_of_ble_eq_true rfl) (by decide +kernel))
theorem dl_1351 : decode code 1351 = .ok (.iaload, 1) := dc_46 (dcc (r := 7) lq_21 rfl (Nat.le_of_ble_eq_true rfl) (by decide +kernel))
theorem dl_1352 : decode code 1352 = .ok (.invokevirtual 168, 3) := dc_182 (a := 0) (b := 168) (dcc (r := 8) lq_21 rfl (Nat.le_of_ble_eq_true rfl) (by decide +kernel)) rfl
theorem dl_1355 : decode code 1355 = .ok (.pop, 1) := dc_87 (dcc (r := 11) lq_21 rfl (Nat.le_of_ble_eq_true rfl) (by decide +kernel))
theorem dl_1356 : decode code 1356 = .ok (.goto 3, 3) := dc_167 (a := 0) (b := 3) (dcc (r := 12) lq_21 rfl (Nat.le_of_ble_eq_true rfl) (by decide +kernel)) rfl
theorem dl_1359 : decode code 1359 = .ok (.iinc 3 5, 3) := dc_132 (a := 3) (b := 5) (dcc (r := 15) lq_21 rfl (Nat.le_of_ble_eq_true rfl) (by decide +kernel)) rfl
theorem dl_1362 : decode code 1362 = .ok (.goto (-1344), 3) := dc_167 (a := 250) (b := 192) (dcc (r := 18) lq_21 rfl (Nat.le_of_ble_eq_true rfl) (by decide +kernel)) rfl
theorem dl_1365 : decode code 1365 = .ok (.iconst 1, 1) := dc_4 (dcc (r := 21) lq_21 rfl (Nat.le_of_ble_eq_true rfl) (by decide +kernel))
theorem dl_1366 : decode code 1366 = .ok (.ireturn, 1) := dc_172 (dcc (r := 22) lq_21 rfl (Nat.le_of_ble_eq_true rfl) (by decide +kernel))
end
