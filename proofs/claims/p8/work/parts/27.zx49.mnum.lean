def S_Mod_lookedX : List (Nat × Option Nat) := [(116, some 20), (116, some 21)]
abbrev q_Mod_lookedX (h : Hp) (c : Int32) (cZ : Int) (d : Int32) (dZ : Int) (f : Int32) (fZ : Int) (k : Int32) (kZ : Int) (v : Int32) (vZ : Int) (w : Int32) (wZ : Int) (a : Int32) (aZ : Int) : Option Value → Hp → Prop := pInt (fun r h' => Inv h' ∧ fr S_Mod_lookedX h h' ∧ ∃ (u : Int32) (uZ : Int), u.toInt = uZ ∧ h'.1 116 20 = u ∧ ∃ (y : Int32) (yZ : Int), y.toInt = yZ ∧ h'.1 116 21 = y ∧ (wZ ≠ 0 ∧ uZ = wZ ∧ yZ = aZ ∧ r.toInt = 0 ∨ wZ = 0 ∧ kZ ≠ 2 ∧ uZ = 2 ∧ yZ = fZ ∧ r.toInt = 0 ∨ wZ = 0 ∧ kZ = 2 ∧ (vZ < cZ ∨ dZ < vZ) ∧ uZ = 3 ∧ yZ = fZ ∧ r.toInt = 0 ∨ wZ = 0 ∧ kZ = 2 ∧ cZ ≤ vZ ∧ vZ ≤ dZ ∧ uZ = 0 ∧ yZ = aZ ∧ r.toInt = vZ))
set_option maxRecDepth 100000 in
theorem c_Mod_lookedX (h : Hp) (hI : Inv h) (c : Int32) (cZ : Int) (cE : c.toInt = cZ) (d : Int32) (dZ : Int) (dE : d.toInt = dZ) (f : Int32) (fZ : Int) (fE : f.toInt = fZ) (fK : h.1 116 17 = f) (k : Int32) (kZ : Int) (kE : k.toInt = kZ) (kK : h.1 116 18 = k) (v : Int32) (vZ : Int) (vE : v.toInt = vZ) (vK : h.1 116 19 = v) (w : Int32) (wZ : Int) (wE : w.toInt = wZ) (wK : h.1 116 20 = w) (a : Int32) (aZ : Int) (aE : a.toInt = aZ) (aK : h.1 116 21 = a) : Ct y_Mod_looked b_Mod_looked 3 (some .int) 1 25 [.ref 116, .int c, .int d] h (q_Mod_lookedX h c cZ d dZ f fZ k kZ v vZ w wZ a aZ) := by
  refine ct_ow R_Mod [some (.ref 116), some (.int c), some (.int d)] rfl (by decide) rfl (Nat.le_of_ble_eq_true rfl) ?_
  have f0 : fr S_Mod_lookedX h h := fr_rf
  have g1 : 0 ≤ fZ ∧ fZ ≤ 160 := inv_at hI fE fK.symm rfl
  refine V_aload_n 0 d_Mod_looked_0 rfl rfl ?_
  refine N_getK fa_Mod_102 sk_116 rfl d_Mod_looked_1 wK ?_
  refine V_if_ne 25 wE d_Mod_looked_4 (by decide) (fun c2 => ?_) (fun c2 => ?_)
  ·
    refine V_aload_n 0 d_Mod_looked_25 rfl rfl ?_
    refine N_getK fa_Mod_102 sk_116 rfl d_Mod_looked_26 wK ?_
    refine V_if_ne 49 wE d_Mod_looked_29 (by decide) (fun c3 => ?_) (fun c3 => ?_)
    ·
      refine V_aload_n 0 d_Mod_looked_49 rfl rfl ?_
      refine N_getK fa_Mod_102 sk_116 rfl d_Mod_looked_50 wK ?_
      refine V_if_ne 63 wE d_Mod_looked_53 (by decide) (fun c4 => ?_) (fun c4 => ?_)
      ·
        refine V_iconst 0 d_Mod_looked_63 (by decide) ?_
        exact V_iret rfl d_Mod_looked_64 ⟨0, rfl, ⟨hI, f0, w, wZ, wE, wK, a, aZ, aE, aK, (Or.inl (⟨by (first | decide +kernel | omega), by (first | decide +kernel | omega), by (first | decide +kernel | omega), tc_0⟩))⟩⟩
      ·
        refine V_aload_n 0 d_Mod_looked_56 rfl rfl ?_
        refine N_getK fa_Mod_141 sk_116 rfl d_Mod_looked_57 vK ?_
        refine V_goto 64 d_Mod_looked_60 (by decide) ?_
        exact V_iret rfl d_Mod_looked_64 ⟨v, rfl, ⟨hI, f0, w, wZ, wE, wK, a, aZ, aE, aK, (Or.inr (Or.inr (Or.inr (⟨by (first | decide +kernel | omega), by (first | decide +kernel | omega), by (first | decide +kernel | omega), by (first | decide +kernel | omega), by (first | decide +kernel | omega), by (first | decide +kernel | omega), vE⟩))))⟩⟩
    ·
      refine V_aload_n 0 d_Mod_looked_32 rfl rfl ?_
      refine V_aload_n 0 d_Mod_looked_33 rfl rfl ?_
      refine N_getK fa_Mod_141 sk_116 rfl d_Mod_looked_34 vK ?_
      refine V_i2l d_Mod_looked_37 (fun z5 z5e z5E => ?_)
      have z5F : z5.toInt = vZ := z5E.trans vE
      refine V_iload_n 1 d_Mod_looked_38 rfl rfl ?_
      refine V_i2l d_Mod_looked_39 (fun z6 z6e z6E => ?_)
      have z6F : z6.toInt = cZ := z6E.trans cE
      refine V_iload_n 2 d_Mod_looked_40 rfl rfl ?_
      refine V_i2l d_Mod_looked_41 (fun z7 z7e z7E => ?_)
      have z7F : z7.toInt = dZ := z7E.trans dE
      refine N_callSI [.long z5, .long z6, .long z7] [.ref 116] cs_Mod_95 d_Mod_looked_42 rfl (Nat.le_of_ble_eq_true rfl) (by decide) (by decide) (c_Mod_in h z5 vZ z5F z6 cZ z6F z7 dZ z7F) (fun z8 h9 z8Z z8E p10 => ?_)
      obtain ⟨eh9, p10⟩ := p10
      subst eh9
      refine V_iconst 3 d_Mod_looked_45 (by decide) ?_
      refine N_callVV [.int z8, .int 3] [] cv_Mod_144 sk_116 rfl d_Mod_looked_46 rfl (Nat.le_of_ble_eq_true rfl) (by decide) (by decide) (c_Mod_needsX h hI z8 z8Z z8E 3 3 tc_3 f fZ fE fK w wZ wE wK a aZ aE aK) (fun h12 p13 => ?_)
      obtain ⟨hI14, fh12, o16, o16Z, o16E, o16K, o17, o17Z, o17E, o17K, p13⟩ := p13
      have f15 : fr S_Mod_lookedX h h12 := fr_call f0 fh12 rfl
      refine V_aload_n 0 d_Mod_looked_49 rfl rfl ?_
      refine N_getK fa_Mod_102 sk_116 rfl d_Mod_looked_50 o16K ?_
      refine V_if_ne 63 o16E d_Mod_looked_53 (by decide) (fun c18 => ?_) (fun c18 => ?_)
      ·
        refine V_iconst 0 d_Mod_looked_63 (by decide) ?_
        exact V_iret rfl d_Mod_looked_64 ⟨0, rfl, ⟨hI14, f15, o16, o16Z, o16E, o16K, o17, o17Z, o17E, o17K, (Or.inl (⟨by (first | decide +kernel | omega), by (first | decide +kernel | omega), by (first | decide +kernel | omega), tc_0⟩))⟩⟩
      ·
        refine V_aload_n 0 d_Mod_looked_56 rfl rfl ?_
        refine N_getK fa_Mod_141 sk_116 rfl d_Mod_looked_57 (kn_call fh12 vK rfl) ?_
        refine V_goto 64 d_Mod_looked_60 (by decide) ?_
        exact V_iret rfl d_Mod_looked_64 ⟨v, rfl, ⟨hI14, f15, o16, o16Z, o16E, o16K, o17, o17Z, o17E, o17K, (Or.inr (Or.inr (Or.inr (⟨by (first | decide +kernel | omega), by (first | decide +kernel | omega), by (first | decide +kernel | omega), by (first | decide +kernel | omega), by (first | decide +kernel | omega), by (first | decide +kernel | omega), vE⟩))))⟩⟩
  ·
    refine V_aload_n 0 d_Mod_looked_7 rfl rfl ?_
    refine V_aload_n 0 d_Mod_looked_8 rfl rfl ?_
    refine N_getK fa_Mod_130 sk_116 rfl d_Mod_looked_9 kK ?_
    refine V_iconst 2 d_Mod_looked_12 (by decide) ?_
    refine V_icmp_ne 20 kE tc_2 d_Mod_looked_13 (by decide) (fun c19 => ?_) (fun c19 => ?_)
    ·
      refine V_iconst 0 d_Mod_looked_20 (by decide) ?_
      refine V_iconst 2 d_Mod_looked_21 (by decide) ?_
      refine N_callVV [.int 0, .int 2] [] cv_Mod_144 sk_116 rfl d_Mod_looked_22 rfl (Nat.le_of_ble_eq_true rfl) (by decide) (by decide) (c_Mod_needsX h hI 0 0 tc_0 2 2 tc_2 f fZ fE fK w wZ wE wK a aZ aE aK) (fun h21 p22 => ?_)
      obtain ⟨hI23, fh21, o25, o25Z, o25E, o25K, o26, o26Z, o26E, o26K, p22⟩ := p22
      have f24 : fr S_Mod_lookedX h h21 := fr_call f0 fh21 rfl
      refine V_aload_n 0 d_Mod_looked_25 rfl rfl ?_
      refine N_getK fa_Mod_102 sk_116 rfl d_Mod_looked_26 o25K ?_
      refine V_if_ne 49 o25E d_Mod_looked_29 (by decide) (fun c27 => ?_) (fun c27 => ?_)
      ·
        refine V_aload_n 0 d_Mod_looked_49 rfl rfl ?_
        refine N_getK fa_Mod_102 sk_116 rfl d_Mod_looked_50 o25K ?_
        refine V_if_ne 63 o25E d_Mod_looked_53 (by decide) (fun c28 => ?_) (fun c28 => ?_)
        ·
          refine V_iconst 0 d_Mod_looked_63 (by decide) ?_
          exact V_iret rfl d_Mod_looked_64 ⟨0, rfl, ⟨hI23, f24, o25, o25Z, o25E, o25K, o26, o26Z, o26E, o26K, (Or.inr (Or.inl (⟨by (first | decide +kernel | omega), by (first | decide +kernel | omega), by (first | decide +kernel | omega), by (first | decide +kernel | omega), tc_0⟩)))⟩⟩
        ·
          refine V_aload_n 0 d_Mod_looked_56 rfl rfl ?_
          refine N_getK fa_Mod_141 sk_116 rfl d_Mod_looked_57 (kn_call fh21 vK rfl) ?_
          refine V_goto 64 d_Mod_looked_60 (by decide) ?_
          exact V_iret rfl d_Mod_looked_64 ⟨v, rfl, ⟨hI23, f24, o25, o25Z, o25E, o25K, o26, o26Z, o26E, o26K, (Or.inr (Or.inr (Or.inr (⟨by (first | decide +kernel | omega), by (first | decide +kernel | omega), by (first | decide +kernel | omega), by (first | decide +kernel | omega), by (first | decide +kernel | omega), by (first | decide +kernel | omega), vE⟩))))⟩⟩
      ·
        refine V_aload_n 0 d_Mod_looked_32 rfl rfl ?_
        refine V_aload_n 0 d_Mod_looked_33 rfl rfl ?_
        refine N_getK fa_Mod_141 sk_116 rfl d_Mod_looked_34 (kn_call fh21 vK rfl) ?_
        refine V_i2l d_Mod_looked_37 (fun z29 z29e z29E => ?_)
        have z29F : z29.toInt = vZ := z29E.trans vE
        refine V_iload_n 1 d_Mod_looked_38 rfl rfl ?_
        refine V_i2l d_Mod_looked_39 (fun z30 z30e z30E => ?_)
        have z30F : z30.toInt = cZ := z30E.trans cE
        refine V_iload_n 2 d_Mod_looked_40 rfl rfl ?_
        refine V_i2l d_Mod_looked_41 (fun z31 z31e z31E => ?_)
        have z31F : z31.toInt = dZ := z31E.trans dE
        refine N_callSI [.long z29, .long z30, .long z31] [.ref 116] cs_Mod_95 d_Mod_looked_42 rfl (Nat.le_of_ble_eq_true rfl) (by decide) (by decide) (c_Mod_in h21 z29 vZ z29F z30 cZ z30F z31 dZ z31F) (fun z32 h33 z32Z z32E p34 => ?_)
        obtain ⟨eh33, p34⟩ := p34
        subst eh33
        refine V_iconst 3 d_Mod_looked_45 (by decide) ?_
        refine N_callVV [.int z32, .int 3] [] cv_Mod_144 sk_116 rfl d_Mod_looked_46 rfl (Nat.le_of_ble_eq_true rfl) (by decide) (by decide) (c_Mod_needsX h21 hI23 z32 z32Z z32E 3 3 tc_3 f fZ fE (kn_call fh21 fK rfl) o25 o25Z o25E o25K o26 o26Z o26E o26K) (fun h36 p37 => ?_)
        obtain ⟨hI38, fh36, o40, o40Z, o40E, o40K, o41, o41Z, o41E, o41K, p37⟩ := p37
        have f39 : fr S_Mod_lookedX h h36 := fr_call f24 fh36 rfl
        refine V_aload_n 0 d_Mod_looked_49 rfl rfl ?_
        refine N_getK fa_Mod_102 sk_116 rfl d_Mod_looked_50 o40K ?_
        refine V_if_ne 63 o40E d_Mod_looked_53 (by decide) (fun c42 => ?_) (fun c42 => ?_)
        ·
          refine V_iconst 0 d_Mod_looked_63 (by decide) ?_
          exact V_iret rfl d_Mod_looked_64 ⟨0, rfl, ⟨hI38, f39, o40, o40Z, o40E, o40K, o41, o41Z, o41E, o41K, (Or.inr (Or.inl (⟨by (first | decide +kernel | omega), by (first | decide +kernel | omega), by (first | decide +kernel | omega), by (first | decide +kernel | omega), tc_0⟩)))⟩⟩
        ·
          refine V_aload_n 0 d_Mod_looked_56 rfl rfl ?_
          refine N_getK fa_Mod_141 sk_116 rfl d_Mod_looked_57 (kn_call fh36 (kn_call fh21 vK rfl) rfl) ?_
          refine V_goto 64 d_Mod_looked_60 (by decide) ?_
          exact V_iret rfl d_Mod_looked_64 ⟨v, rfl, ⟨hI38, f39, o40, o40Z, o40E, o40K, o41, o41Z, o41E, o41K, (Or.inr (Or.inr (Or.inr (⟨by (first | decide +kernel | omega), by (first | decide +kernel | omega), by (first | decide +kernel | omega), by (first | decide +kernel | omega), by (first | decide +kernel | omega), by (first | decide +kernel | omega), vE⟩))))⟩⟩
    ·
      refine V_iconst 1 d_Mod_looked_16 (by decide) ?_
      refine V_goto 21 d_Mod_looked_17 (by decide) ?_
      refine V_iconst 2 d_Mod_looked_21 (by decide) ?_
      refine N_callVV [.int 1, .int 2] [] cv_Mod_144 sk_116 rfl d_Mod_looked_22 rfl (Nat.le_of_ble_eq_true rfl) (by decide) (by decide) (c_Mod_needsX h hI 1 1 tc_1 2 2 tc_2 f fZ fE fK w wZ wE wK a aZ aE aK) (fun h44 p45 => ?_)
      obtain ⟨hI46, fh44, o48, o48Z, o48E, o48K, o49, o49Z, o49E, o49K, p45⟩ := p45
      have f47 : fr S_Mod_lookedX h h44 := fr_call f0 fh44 rfl
      refine V_aload_n 0 d_Mod_looked_25 rfl rfl ?_
      refine N_getK fa_Mod_102 sk_116 rfl d_Mod_looked_26 o48K ?_
      refine V_if_ne 49 o48E d_Mod_looked_29 (by decide) (fun c50 => ?_) (fun c50 => ?_)
      ·
        refine V_aload_n 0 d_Mod_looked_49 rfl rfl ?_
        refine N_getK fa_Mod_102 sk_116 rfl d_Mod_looked_50 o48K ?_
        refine V_if_ne 63 o48E d_Mod_looked_53 (by decide) (fun c51 => ?_) (fun c51 => ?_)
        ·
          refine V_iconst 0 d_Mod_looked_63 (by decide) ?_
          exact V_iret rfl d_Mod_looked_64 ⟨0, rfl, ⟨hI46, f47, o48, o48Z, o48E, o48K, o49, o49Z, o49E, o49K, (Or.inr (Or.inr (Or.inl (⟨by (first | decide +kernel | omega), by (first | decide +kernel | omega), by (first | decide +kernel | omega), by (first | decide +kernel | omega), by (first | decide +kernel | omega), tc_0⟩))))⟩⟩
        ·
          refine V_aload_n 0 d_Mod_looked_56 rfl rfl ?_
          refine N_getK fa_Mod_141 sk_116 rfl d_Mod_looked_57 (kn_call fh44 vK rfl) ?_
          refine V_goto 64 d_Mod_looked_60 (by decide) ?_
          exact V_iret rfl d_Mod_looked_64 ⟨v, rfl, ⟨hI46, f47, o48, o48Z, o48E, o48K, o49, o49Z, o49E, o49K, (Or.inr (Or.inr (Or.inr (⟨by (first | decide +kernel | omega), by (first | decide +kernel | omega), by (first | decide +kernel | omega), by (first | decide +kernel | omega), by (first | decide +kernel | omega), by (first | decide +kernel | omega), vE⟩))))⟩⟩
      ·
        refine V_aload_n 0 d_Mod_looked_32 rfl rfl ?_
        refine V_aload_n 0 d_Mod_looked_33 rfl rfl ?_
        refine N_getK fa_Mod_141 sk_116 rfl d_Mod_looked_34 (kn_call fh44 vK rfl) ?_
        refine V_i2l d_Mod_looked_37 (fun z52 z52e z52E => ?_)
        have z52F : z52.toInt = vZ := z52E.trans vE
        refine V_iload_n 1 d_Mod_looked_38 rfl rfl ?_
        refine V_i2l d_Mod_looked_39 (fun z53 z53e z53E => ?_)
        have z53F : z53.toInt = cZ := z53E.trans cE
        refine V_iload_n 2 d_Mod_looked_40 rfl rfl ?_
        refine V_i2l d_Mod_looked_41 (fun z54 z54e z54E => ?_)
        have z54F : z54.toInt = dZ := z54E.trans dE
        refine N_callSI [.long z52, .long z53, .long z54] [.ref 116] cs_Mod_95 d_Mod_looked_42 rfl (Nat.le_of_ble_eq_true rfl) (by decide) (by decide) (c_Mod_in h44 z52 vZ z52F z53 cZ z53F z54 dZ z54F) (fun z55 h56 z55Z z55E p57 => ?_)
        obtain ⟨eh56, p57⟩ := p57
        subst eh56
        refine V_iconst 3 d_Mod_looked_45 (by decide) ?_
        refine N_callVV [.int z55, .int 3] [] cv_Mod_144 sk_116 rfl d_Mod_looked_46 rfl (Nat.le_of_ble_eq_true rfl) (by decide) (by decide) (c_Mod_needsX h44 hI46 z55 z55Z z55E 3 3 tc_3 f fZ fE (kn_call fh44 fK rfl) o48 o48Z o48E o48K o49 o49Z o49E o49K) (fun h59 p60 => ?_)
        obtain ⟨hI61, fh59, o63, o63Z, o63E, o63K, o64, o64Z, o64E, o64K, p60⟩ := p60
        have f62 : fr S_Mod_lookedX h h59 := fr_call f47 fh59 rfl
        refine V_aload_n 0 d_Mod_looked_49 rfl rfl ?_
        refine N_getK fa_Mod_102 sk_116 rfl d_Mod_looked_50 o63K ?_
        refine V_if_ne 63 o63E d_Mod_looked_53 (by decide) (fun c65 => ?_) (fun c65 => ?_)
        ·
          refine V_iconst 0 d_Mod_looked_63 (by decide) ?_
          exact V_iret rfl d_Mod_looked_64 ⟨0, rfl, ⟨hI61, f62, o63, o63Z, o63E, o63K, o64, o64Z, o64E, o64K, (Or.inr (Or.inr (Or.inl (⟨by (first | decide +kernel | omega), by (first | decide +kernel | omega), by (first | decide +kernel | omega), by (first | decide +kernel | omega), by (first | decide +kernel | omega), tc_0⟩))))⟩⟩
        ·
          refine V_aload_n 0 d_Mod_looked_56 rfl rfl ?_
          refine N_getK fa_Mod_141 sk_116 rfl d_Mod_looked_57 (kn_call fh59 (kn_call fh44 vK rfl) rfl) ?_
          refine V_goto 64 d_Mod_looked_60 (by decide) ?_
          exact V_iret rfl d_Mod_looked_64 ⟨v, rfl, ⟨hI61, f62, o63, o63Z, o63E, o63K, o64, o64Z, o64E, o64K, (Or.inr (Or.inr (Or.inr (⟨by (first | decide +kernel | omega), by (first | decide +kernel | omega), by (first | decide +kernel | omega), by (first | decide +kernel | omega), by (first | decide +kernel | omega), by (first | decide +kernel | omega), vE⟩))))⟩⟩
def S_Mod_readNumberX : List (Nat × Option Nat) := [(116, some 16), (116, some 17), (116, some 18), (116, some 19), (116, some 20), (116, some 21)]
abbrev q_Mod_readNumberX (h : Hp) (b : Int → Int) (p0 : Int) (c : Int32) (cZ : Int) (d : Int32) (dZ : Int) (s : Int32) (sZ : Int) (p : Int32) (pZ : Int) (g : Int32) (gZ : Int) (k : Int32) (kZ : Int) (v : Int32) (vZ : Int) (w : Int32) (wZ : Int) (a : Int32) (aZ : Int) : Option Value → Hp → Prop := pInt (fun r h' => Inv h' ∧ fr S_Mod_readNumberX h h' ∧ ∃ (q : Int32) (qZ : Int), q.toInt = qZ ∧ h'.1 116 16 = q ∧ ∃ (f : Int32) (fZ : Int), f.toInt = fZ ∧ h'.1 116 17 = f ∧ ∃ (m : Int32) (mZ : Int), m.toInt = mZ ∧ h'.1 116 18 = m ∧ ∃ (x : Int32) (xZ : Int), x.toInt = xZ ∧ h'.1 116 19 = x ∧ ∃ (u : Int32) (uZ : Int), u.toInt = uZ ∧ h'.1 116 20 = u ∧ ∃ (y : Int32) (yZ : Int), y.toInt = yZ ∧ h'.1 116 21 = y ∧ ((wZ ≠ 0 ∧ uZ = wZ ∧ yZ = aZ ∧ r.toInt = 0 ∨ wZ = 0 ∧ x_cN b p0 cZ dZ ≠ 0 ∧ uZ = x_cN b p0 cZ dZ ∧ yZ = x_fr b p0 ∧ r.toInt = 0 ∨ wZ = 0 ∧ x_cN b p0 cZ dZ = 0 ∧ r.toInt = x_vl b p0 ∧ (uZ = 1 ∧ x_kd b (x_en b p0) = 4 ∧ yZ = x_fr b (x_en b p0) ∨ uZ = 0 ∧ fZ = x_fr b (x_en b p0) ∧ mZ = x_kd b (x_en b p0) ∧ mZ ≠ 4 ∧ 0 ≤ mZ ∧ mZ ≤ 3 ∧ qZ = x_en b (x_en b p0) ∧ (mZ ≠ 2 ∨ xZ = x_vl b (x_en b p0) ∧ 0 ≤ xZ ∧ xZ ≤ 99) ∧ (x_en b p0) ≤ fZ ∧ fZ ≤ qZ ∧ qZ ≤ sZ ∧ (mZ = 0 ∨ fZ < qZ))) ∧ 0 ≤ qZ ∧ qZ ≤ sZ ∧ 0 ≤ uZ))
set_option maxRecDepth 100000 in
theorem c_Mod_readNumberX (h : Hp) (b : Int → Int) (p0 : Int) (hI : Inv h) (c : Int32) (cZ : Int) (cE : c.toInt = cZ) (d : Int32) (dZ : Int) (dE : d.toInt = dZ) (s : Int32) (sZ : Int) (sE : s.toInt = sZ) (sK : h.1 116 15 = s) (p : Int32) (pZ : Int) (pE : p.toInt = pZ) (pK : h.1 116 16 = p) (g : Int32) (gZ : Int) (gE : g.toInt = gZ) (gK : h.1 116 17 = g) (k : Int32) (kZ : Int) (kE : k.toInt = kZ) (kK : h.1 116 18 = k) (v : Int32) (vZ : Int) (vE : v.toInt = vZ) (vK : h.1 116 19 = v) (w : Int32) (wZ : Int) (wE : w.toInt = wZ) (wK : h.1 116 20 = w) (a : Int32) (aZ : Int) (aE : a.toInt = aZ) (aK : h.1 116 21 = a) (hy0 : TP h 121 sZ b) (hy1 : 0 ≤ pZ ∧ pZ ≤ sZ ∧ 0 ≤ wZ) (hy2 : wZ ≠ 0 ∨ (gZ = x_fr b p0 ∧ kZ = x_kd b p0 ∧ kZ ≠ 4 ∧ 0 ≤ kZ ∧ kZ ≤ 3 ∧ pZ = x_en b p0 ∧ (kZ ≠ 2 ∨ vZ = x_vl b p0 ∧ 0 ≤ vZ ∧ vZ ≤ 99) ∧ p0 ≤ gZ ∧ gZ ≤ pZ ∧ pZ ≤ sZ ∧ (kZ = 0 ∨ gZ < pZ))) : Ct y_Mod_readNumber b_Mod_readNumber 4 (some .int) 2 47 [.ref 116, .int c, .int d] h (q_Mod_readNumberX h b p0 c cZ d dZ s sZ p pZ g gZ k kZ v vZ w wZ a aZ) := by
  refine ct_ow R_Mod [some (.ref 116), some (.int c), some (.int d), none] rfl (by decide) rfl (Nat.le_of_ble_eq_true rfl) ?_
  have f0 : fr S_Mod_readNumberX h h := fr_rf
  have g1 : 0 ≤ sZ ∧ sZ ≤ 160 := inv_at hI sE sK.symm rfl
  have g2 : 0 ≤ pZ ∧ pZ ≤ 160 := inv_at hI pE pK.symm rfl
  have g3 : 0 ≤ gZ ∧ gZ ≤ 160 := inv_at hI gE gK.symm rfl
  refine V_aload_n 0 d_Mod_readNumber_0 rfl rfl ?_
  refine V_iload_n 1 d_Mod_readNumber_1 rfl rfl ?_
  refine V_iload_n 2 d_Mod_readNumber_2 rfl rfl ?_
  refine N_callVI [.int c, .int d] [] cv_Mod_148 sk_116 rfl d_Mod_readNumber_3 rfl (Nat.le_of_ble_eq_true rfl) (by decide) (by decide) (c_Mod_lookedX h hI c cZ cE d dZ dE g gZ gE gK k kZ kE kK v vZ vE vK w wZ wE wK a aZ aE aK) (fun z4 h5 z4Z z4E p6 => ?_)
  obtain ⟨hI7, fh5, o9, o9Z, o9E, o9K, o10, o10Z, o10E, o10K, p6⟩ := p6
  have f8 : fr S_Mod_readNumberX h h5 := fr_call f0 fh5 rfl
  refine V_istore_n 3 [some (.ref 116), some (.int c), some (.int d), some (.int z4)] d_Mod_readNumber_6 rfl (by decide) rfl rfl ?_
  refine V_aload_n 0 d_Mod_readNumber_7 rfl rfl ?_
  refine N_callVV [] [] cv_Mod_152 sk_116 rfl d_Mod_readNumber_8 rfl (Nat.le_of_ble_eq_true rfl) (by decide) (by decide) (c_Mod_nextX h5 b hI7 s sZ sE (kn_call fh5 sK rfl) p pZ pE (kn_call fh5 pK rfl) g gZ gE (kn_call fh5 gK rfl) k kZ kE (kn_call fh5 kK rfl) v vZ vE (kn_call fh5 vK rfl) o9 o9Z o9E o9K o10 o10Z o10E o10K (TP_fr f8 (fun _ => rfl) hy0) (by (first | decide +kernel | omega))) (fun h12 p13 => ?_)
  obtain ⟨hI14, fh12, o16, o16Z, o16E, o16K, o17, o17Z, o17E, o17K, o18, o18Z, o18E, o18K, o19, o19Z, o19E, o19K, o20, o20Z, o20E, o20K, o21, o21Z, o21E, o21K, p13⟩ := p13
  have f15 : fr S_Mod_readNumberX h h12 := fr_call f8 fh12 rfl
  have g22 : 0 ≤ o16Z ∧ o16Z ≤ 160 := inv_at hI14 o16E o16K.symm rfl
  have g23 : 0 ≤ o17Z ∧ o17Z ≤ 160 := inv_at hI14 o17E o17K.symm rfl
  refine V_iload_n 3 d_Mod_readNumber_11 rfl rfl ?_
  exact V_iret rfl d_Mod_readNumber_12 ⟨z4, rfl, ⟨hI14, f15, o16, o16Z, o16E, o16K, o17, o17Z, o17E, o17K, o18, o18Z, o18E, o18K, o19, o19Z, o19E, o19K, o20, o20Z, o20E, o20K, o21, o21Z, o21E, o21K, (nu_all hy1 hy2 p6 p13)⟩⟩
