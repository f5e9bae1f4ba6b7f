def S_Land_raiseWaterX_0 : List (Nat × Option Nat) := [(2, none)]
abbrev q_Land_raiseWaterX_0 (h : Hp) (v : Int32) (vZ : Int) (w : Int32) (wZ : Int) (g : Int32) (gZ : Int) : Option Value → Hp → Prop := pVd (fun h' => Inv h' ∧ fr S_Land_raiseWaterX_0 h h' ∧ (rW h h' 2 v (wZ * gZ)))
set_option maxRecDepth 100000 in
theorem c_Land_raiseWaterX_0 (h : Hp) (hI : Inv h) (v : Int32) (vZ : Int) (vE : v.toInt = vZ) (w : Int32) (wZ : Int) (wE : w.toInt = wZ) (wK : h.1 1 0 = w) (g : Int32) (gZ : Int) (gE : g.toInt = gZ) (gK : h.1 1 1 = g) : Ct y_Land_raiseWater b_Land_raiseWater 3 none 1 21 [.ref 1, .int v] h (q_Land_raiseWaterX_0 h v vZ w wZ g gZ) := by
  refine ct_ow R_Land [some (.ref 1), some (.int v), none] rfl (by decide) rfl (Nat.le_of_ble_eq_true rfl) ?_
  have f0 : fr S_Land_raiseWaterX_0 h h := fr_rf
  have g1 : 2 ≤ wZ ∧ wZ ≤ 4 := inv_at hI wE wK.symm rfl
  have g2 : 2 ≤ gZ ∧ gZ ≤ 4 := inv_at hI gE gK.symm rfl
  have m24 := mul24 (A := wZ) (B := gZ) (by (first | decide +kernel | omega)) (by (first | decide +kernel | omega))
  refine V_iconst 0 d_Land_raiseWater_0 (by decide) ?_
  refine V_istore_n 2 [some (.ref 1), some (.int v), some (.int 0)] d_Land_raiseWater_1 rfl (by decide) rfl rfl ?_
  have L3 : ∀ (nn : Nat) (v5 : Int32) (v5Z : Int) (h6 : Hp), v5.toInt = v5Z → Inv h6 → fr S_Land_raiseWaterX_0 h h6 → h6.1 1 0 = w → h6.1 1 1 = g → 0 ≤ v5Z ∧ v5Z ≤ wZ * gZ → rW h h6 2 v v5Z → 16 - v5Z < (nn : Int) → V R_Land b_Land_raiseWater 3 none 1 21 (q_Land_raiseWaterX_0 h v vZ w wZ g gZ) h6 2 [some (.ref 1), some (.int v), some (.int v5)] [] := by
    intro nn
    induction nn with
    | zero => intro v5 v5Z h6 v5E Ih6 Fh6 K7 K8 q9 q10 hm11; exact absurd hm11 (by (first | decide +kernel | omega))
    | succ nn ihL3 =>
      intro v5 v5Z h6 v5E Ih6 Fh6 K7 K8 q9 q10 hm11
      refine V_iload_n 2 d_Land_raiseWater_2 rfl rfl ?_
      refine V_aload_n 0 d_Land_raiseWater_3 rfl rfl ?_
      refine N_callVI [] [.int v5] cv_Land_52 sk_1 rfl d_Land_raiseWater_4 rfl (Nat.le_of_ble_eq_true rfl) (by decide) (by decide) (c_Land_cells_0 h6 Ih6 w wZ wE K7 g gZ gE K8) (fun z12 h13 z12Z z12E p14 => ?_)
      obtain ⟨eh13, p14⟩ := p14
      subst eh13
      refine V_icmp_ge 43 v5E z12E d_Land_raiseWater_7 (by decide) (fun c15 => ?_) (fun c15 => ?_)
      ·
        exact V_vret rfl d_Land_raiseWater_43 ⟨rfl, ⟨Ih6, Fh6, (by rw [show wZ * gZ = v5Z by (first | decide +kernel | omega)]; assumption)⟩⟩
      ·
        refine V_aload_n 0 d_Land_raiseWater_10 rfl rfl ?_
        refine V_getR fa_Land_9 sk_1 rfl d_Land_raiseWater_11 ?_
        refine V_iload_n 2 d_Land_raiseWater_14 rfl rfl ?_
        refine N_iald sk_2 v5E (by (first | decide +kernel | omega)) d_Land_raiseWater_15 (fun z16 z16Z z16E z16e => ?_)
        refine V_if_le 37 z16E d_Land_raiseWater_16 (by decide) (fun c17 => ?_) (fun c17 => ?_)
        ·
          obtain ⟨z18, z18E, z18e⟩ : ∃ y : Int32, y.toInt = v5Z + 1 ∧ y = v5 + Int32.ofInt 1 := ⟨_, ti_add v5E (by decide) (by (first | decide +kernel | omega)), rfl⟩
          refine V_iinc 2 [some (.ref 1), some (.int v), some (.int z18)] d_Land_raiseWater_37 rfl z18e.symm (by decide) rfl rfl ?_
          refine V_goto 2 d_Land_raiseWater_40 (by decide) ?_
          exact ihL3 z18 ((v5Z + 1)) h6 z18E Ih6 Fh6 K7 K8 (by (first | decide +kernel | omega)) (rW_s0 (by assumption) (by (first | decide +kernel | omega)) z16e z16E (by (first | decide +kernel | omega))) (by (first | decide +kernel | omega))
        ·
          refine V_aload_n 0 d_Land_raiseWater_19 rfl rfl ?_
          refine V_getR fa_Land_9 sk_1 rfl d_Land_raiseWater_20 ?_
          refine V_iload_n 2 d_Land_raiseWater_23 rfl rfl ?_
          refine V_iconst 1 d_Land_raiseWater_24 (by decide) ?_
          refine V_aload_n 0 d_Land_raiseWater_25 rfl rfl ?_
          refine V_getR fa_Land_9 sk_1 rfl d_Land_raiseWater_26 ?_
          refine V_iload_n 2 d_Land_raiseWater_29 rfl rfl ?_
          refine N_iald sk_2 v5E (by (first | decide +kernel | omega)) d_Land_raiseWater_30 (fun z19 z19Z z19E z19e => ?_)
          have g20 : z16Z = z19Z := by rw [← z16E, ← z19E, z16e, z19e]
          refine V_iload_n 1 d_Land_raiseWater_31 rfl rfl ?_
          refine N_isubw d_Land_raiseWater_32 (fun z21 z21Z z21E z21e => ?_)
          refine N_max tc_1 z21E wm_Land_69 d_Land_raiseWater_33 (Nat.le_of_ble_eq_true rfl) (by decide) wmax1 wM2 wmax3 (fun z22 z22Z z22E z22e z22g => ?_)
          refine N_iast sk_2 v5E (by (first | decide +kernel | omega)) d_Land_raiseWater_36 (fun h23 eh23 => ?_)
          have hI24 : Inv h23 := inv_full Ih6 eh23 rfl
          have f25 : fr S_Land_raiseWaterX_0 h h23 := fr_put Fh6 eh23 rfl
          obtain ⟨z26, z26E, z26e⟩ : ∃ y : Int32, y.toInt = v5Z + 1 ∧ y = v5 + Int32.ofInt 1 := ⟨_, ti_add v5E (by decide) (by (first | decide +kernel | omega)), rfl⟩
          refine V_iinc 2 [some (.ref 1), some (.int v), some (.int z26)] d_Land_raiseWater_37 rfl z26e.symm (by decide) rfl rfl ?_
          refine V_goto 2 d_Land_raiseWater_40 (by decide) ?_
          exact ihL3 z26 ((v5Z + 1)) h23 z26E hI24 f25 (kn_ne eh23 K7 (by decide)) (kn_ne eh23 K8 (by decide)) (by (first | decide +kernel | omega)) (rW_s1 (by assumption) (by (first | decide +kernel | omega)) z19e (rn1_max z19E (by (first | decide +kernel | omega)) z21e z21E z22E z22g) eh23) (by (first | decide +kernel | omega))
  exact L3 (Int.toNat ((16 - 0 : Int) + 1)) 0 0 h tc_0 hI f0 wK gK (by (first | decide +kernel | omega)) rW_0 (by (first | decide +kernel | omega))
