def S_Sheet_makeNewX_0 : List (Nat × Option Nat) := [(108, some 1), (108, some 2), (109, none)]
abbrev q_Sheet_makeNewX_0 (h : Hp) (l : Int32) (lZ : Int) (n : Int32) (nZ : Int) : Option Value → Hp → Prop := pVd (fun h' => Inv h' ∧ fr S_Sheet_makeNewX_0 h h' ∧ ∃ (u : Int32) (uZ : Int), u.toInt = uZ ∧ h'.1 108 1 = u ∧ ∃ (w : Int32) (wZ : Int), w.toInt = wZ ∧ h'.1 108 2 = w ∧ (uZ = lZ ∧ wZ = nZ))
set_option maxRecDepth 100000 in
theorem c_Sheet_makeNewX_0 (h : Hp) (hI : Inv h) (l : Int32) (lZ : Int) (lE : l.toInt = lZ) (n : Int32) (nZ : Int) (nE : n.toInt = nZ) (hy0 : 0 ≤ nZ ∧ nZ ≤ 40) : Ct y_Sheet_makeNew b_Sheet_makeNew 3 none 1 23 [.ref 108, .int l, .int n] h (q_Sheet_makeNewX_0 h l lZ n nZ) := by
  refine ct_ow R_Sheet [some (.ref 108), some (.int l), some (.int n)] rfl (by decide) rfl (Nat.le_of_ble_eq_true rfl) ?_
  have f0 : fr S_Sheet_makeNewX_0 h h := fr_rf
  refine V_aload_n 0 d_Sheet_makeNew_0 rfl rfl ?_
  refine V_getR fa_Sheet_9 sk_108 rfl d_Sheet_makeNew_1 ?_
  refine V_iconst 0 d_Sheet_makeNew_4 (by decide) ?_
  refine N_callSV [.ref 109, .int 0] [] cs_Sheet_19 d_Sheet_makeNew_5 rfl (Nat.le_of_ble_eq_true rfl) (by decide) (by decide) (c_fill_109 h hI 0 0 tc_0) (fun h2 p3 => ?_)
  obtain ⟨hI4, fh2⟩ := p3
  have f5 : fr S_Sheet_makeNewX_0 h h2 := fr_call f0 fh2 rfl
  refine V_aload_n 0 d_Sheet_makeNew_8 rfl rfl ?_
  refine V_iload_n 1 d_Sheet_makeNew_9 rfl rfl ?_
  refine N_putI fp_Sheet_15 sk_108 rfl d_Sheet_makeNew_10 (fun h6 eh6 => ?_)
  have hI7 : Inv h6 := inv_full hI4 eh6 rfl
  have f8 : fr S_Sheet_makeNewX_0 h h6 := fr_put f5 eh6 rfl
  refine V_aload_n 0 d_Sheet_makeNew_13 rfl rfl ?_
  refine V_iload_n 2 d_Sheet_makeNew_14 rfl rfl ?_
  refine N_putI fp_Sheet_25 sk_108 rfl d_Sheet_makeNew_15 (fun h9 eh9 => ?_)
  have hI10 : Inv h9 := inv_put (lo := 0) (hi := 40) hI7 eh9 rfl nE (by omega)
  have f11 : fr S_Sheet_makeNewX_0 h h9 := fr_put f8 eh9 rfl
  exact V_vret rfl d_Sheet_makeNew_18 ⟨rfl, ⟨hI10, f11, l, lZ, lE, (kn_nei eh9 (kn_put eh6) (by decide)), n, nZ, nE, (kn_put eh9), (by omega)⟩⟩
def S_Sheet_makeNewX_1 : List (Nat × Option Nat) := [(110, some 1), (110, some 2), (111, none)]
abbrev q_Sheet_makeNewX_1 (h : Hp) (l : Int32) (lZ : Int) (n : Int32) (nZ : Int) : Option Value → Hp → Prop := pVd (fun h' => Inv h' ∧ fr S_Sheet_makeNewX_1 h h' ∧ ∃ (u : Int32) (uZ : Int), u.toInt = uZ ∧ h'.1 110 1 = u ∧ ∃ (w : Int32) (wZ : Int), w.toInt = wZ ∧ h'.1 110 2 = w ∧ (uZ = lZ ∧ wZ = nZ))
set_option maxRecDepth 100000 in
theorem c_Sheet_makeNewX_1 (h : Hp) (hI : Inv h) (l : Int32) (lZ : Int) (lE : l.toInt = lZ) (n : Int32) (nZ : Int) (nE : n.toInt = nZ) (hy0 : 0 ≤ nZ ∧ nZ ≤ 40) : Ct y_Sheet_makeNew b_Sheet_makeNew 3 none 1 23 [.ref 110, .int l, .int n] h (q_Sheet_makeNewX_1 h l lZ n nZ) := by
  refine ct_ow R_Sheet [some (.ref 110), some (.int l), some (.int n)] rfl (by decide) rfl (Nat.le_of_ble_eq_true rfl) ?_
  have f0 : fr S_Sheet_makeNewX_1 h h := fr_rf
  refine V_aload_n 0 d_Sheet_makeNew_0 rfl rfl ?_
  refine V_getR fa_Sheet_9 sk_110 rfl d_Sheet_makeNew_1 ?_
  refine V_iconst 0 d_Sheet_makeNew_4 (by decide) ?_
  refine N_callSV [.ref 111, .int 0] [] cs_Sheet_19 d_Sheet_makeNew_5 rfl (Nat.le_of_ble_eq_true rfl) (by decide) (by decide) (c_fill_111 h hI 0 0 tc_0) (fun h2 p3 => ?_)
  obtain ⟨hI4, fh2⟩ := p3
  have f5 : fr S_Sheet_makeNewX_1 h h2 := fr_call f0 fh2 rfl
  refine V_aload_n 0 d_Sheet_makeNew_8 rfl rfl ?_
  refine V_iload_n 1 d_Sheet_makeNew_9 rfl rfl ?_
  refine N_putI fp_Sheet_15 sk_110 rfl d_Sheet_makeNew_10 (fun h6 eh6 => ?_)
  have hI7 : Inv h6 := inv_full hI4 eh6 rfl
  have f8 : fr S_Sheet_makeNewX_1 h h6 := fr_put f5 eh6 rfl
  refine V_aload_n 0 d_Sheet_makeNew_13 rfl rfl ?_
  refine V_iload_n 2 d_Sheet_makeNew_14 rfl rfl ?_
  refine N_putI fp_Sheet_25 sk_110 rfl d_Sheet_makeNew_15 (fun h9 eh9 => ?_)
  have hI10 : Inv h9 := inv_put (lo := 0) (hi := 40) hI7 eh9 rfl nE (by omega)
  have f11 : fr S_Sheet_makeNewX_1 h h9 := fr_put f8 eh9 rfl
  exact V_vret rfl d_Sheet_makeNew_18 ⟨rfl, ⟨hI10, f11, l, lZ, lE, (kn_nei eh9 (kn_put eh6) (by decide)), n, nZ, nE, (kn_put eh9), (by omega)⟩⟩
def S_Sheet_makeNewX_2 : List (Nat × Option Nat) := [(112, some 1), (112, some 2), (113, none)]
abbrev q_Sheet_makeNewX_2 (h : Hp) (l : Int32) (lZ : Int) (n : Int32) (nZ : Int) : Option Value → Hp → Prop := pVd (fun h' => Inv h' ∧ fr S_Sheet_makeNewX_2 h h' ∧ ∃ (u : Int32) (uZ : Int), u.toInt = uZ ∧ h'.1 112 1 = u ∧ ∃ (w : Int32) (wZ : Int), w.toInt = wZ ∧ h'.1 112 2 = w ∧ (uZ = lZ ∧ wZ = nZ))
set_option maxRecDepth 100000 in
theorem c_Sheet_makeNewX_2 (h : Hp) (hI : Inv h) (l : Int32) (lZ : Int) (lE : l.toInt = lZ) (n : Int32) (nZ : Int) (nE : n.toInt = nZ) (hy0 : 0 ≤ nZ ∧ nZ ≤ 40) : Ct y_Sheet_makeNew b_Sheet_makeNew 3 none 1 23 [.ref 112, .int l, .int n] h (q_Sheet_makeNewX_2 h l lZ n nZ) := by
  refine ct_ow R_Sheet [some (.ref 112), some (.int l), some (.int n)] rfl (by decide) rfl (Nat.le_of_ble_eq_true rfl) ?_
  have f0 : fr S_Sheet_makeNewX_2 h h := fr_rf
  refine V_aload_n 0 d_Sheet_makeNew_0 rfl rfl ?_
  refine V_getR fa_Sheet_9 sk_112 rfl d_Sheet_makeNew_1 ?_
  refine V_iconst 0 d_Sheet_makeNew_4 (by decide) ?_
  refine N_callSV [.ref 113, .int 0] [] cs_Sheet_19 d_Sheet_makeNew_5 rfl (Nat.le_of_ble_eq_true rfl) (by decide) (by decide) (c_fill_113 h hI 0 0 tc_0) (fun h2 p3 => ?_)
  obtain ⟨hI4, fh2⟩ := p3
  have f5 : fr S_Sheet_makeNewX_2 h h2 := fr_call f0 fh2 rfl
  refine V_aload_n 0 d_Sheet_makeNew_8 rfl rfl ?_
  refine V_iload_n 1 d_Sheet_makeNew_9 rfl rfl ?_
  refine N_putI fp_Sheet_15 sk_112 rfl d_Sheet_makeNew_10 (fun h6 eh6 => ?_)
  have hI7 : Inv h6 := inv_full hI4 eh6 rfl
  have f8 : fr S_Sheet_makeNewX_2 h h6 := fr_put f5 eh6 rfl
  refine V_aload_n 0 d_Sheet_makeNew_13 rfl rfl ?_
  refine V_iload_n 2 d_Sheet_makeNew_14 rfl rfl ?_
  refine N_putI fp_Sheet_25 sk_112 rfl d_Sheet_makeNew_15 (fun h9 eh9 => ?_)
  have hI10 : Inv h9 := inv_put (lo := 0) (hi := 40) hI7 eh9 rfl nE (by omega)
  have f11 : fr S_Sheet_makeNewX_2 h h9 := fr_put f8 eh9 rfl
  exact V_vret rfl d_Sheet_makeNew_18 ⟨rfl, ⟨hI10, f11, l, lZ, lE, (kn_nei eh9 (kn_put eh6) (by decide)), n, nZ, nE, (kn_put eh9), (by omega)⟩⟩
def S_Sheet_makeNewX_3 : List (Nat × Option Nat) := [(114, some 1), (114, some 2), (115, none)]
abbrev q_Sheet_makeNewX_3 (h : Hp) (l : Int32) (lZ : Int) (n : Int32) (nZ : Int) : Option Value → Hp → Prop := pVd (fun h' => Inv h' ∧ fr S_Sheet_makeNewX_3 h h' ∧ ∃ (u : Int32) (uZ : Int), u.toInt = uZ ∧ h'.1 114 1 = u ∧ ∃ (w : Int32) (wZ : Int), w.toInt = wZ ∧ h'.1 114 2 = w ∧ (uZ = lZ ∧ wZ = nZ))
set_option maxRecDepth 100000 in
theorem c_Sheet_makeNewX_3 (h : Hp) (hI : Inv h) (l : Int32) (lZ : Int) (lE : l.toInt = lZ) (n : Int32) (nZ : Int) (nE : n.toInt = nZ) (hy0 : 0 ≤ nZ ∧ nZ ≤ 40) : Ct y_Sheet_makeNew b_Sheet_makeNew 3 none 1 23 [.ref 114, .int l, .int n] h (q_Sheet_makeNewX_3 h l lZ n nZ) := by
  refine ct_ow R_Sheet [some (.ref 114), some (.int l), some (.int n)] rfl (by decide) rfl (Nat.le_of_ble_eq_true rfl) ?_
  have f0 : fr S_Sheet_makeNewX_3 h h := fr_rf
  refine V_aload_n 0 d_Sheet_makeNew_0 rfl rfl ?_
  refine V_getR fa_Sheet_9 sk_114 rfl d_Sheet_makeNew_1 ?_
  refine V_iconst 0 d_Sheet_makeNew_4 (by decide) ?_
  refine N_callSV [.ref 115, .int 0] [] cs_Sheet_19 d_Sheet_makeNew_5 rfl (Nat.le_of_ble_eq_true rfl) (by decide) (by decide) (c_fill_115 h hI 0 0 tc_0) (fun h2 p3 => ?_)
  obtain ⟨hI4, fh2⟩ := p3
  have f5 : fr S_Sheet_makeNewX_3 h h2 := fr_call f0 fh2 rfl
  refine V_aload_n 0 d_Sheet_makeNew_8 rfl rfl ?_
  refine V_iload_n 1 d_Sheet_makeNew_9 rfl rfl ?_
  refine N_putI fp_Sheet_15 sk_114 rfl d_Sheet_makeNew_10 (fun h6 eh6 => ?_)
  have hI7 : Inv h6 := inv_full hI4 eh6 rfl
  have f8 : fr S_Sheet_makeNewX_3 h h6 := fr_put f5 eh6 rfl
  refine V_aload_n 0 d_Sheet_makeNew_13 rfl rfl ?_
  refine V_iload_n 2 d_Sheet_makeNew_14 rfl rfl ?_
  refine N_putI fp_Sheet_25 sk_114 rfl d_Sheet_makeNew_15 (fun h9 eh9 => ?_)
  have hI10 : Inv h9 := inv_put (lo := 0) (hi := 40) hI7 eh9 rfl nE (by omega)
  have f11 : fr S_Sheet_makeNewX_3 h h9 := fr_put f8 eh9 rfl
  exact V_vret rfl d_Sheet_makeNew_18 ⟨rfl, ⟨hI10, f11, l, lZ, lE, (kn_nei eh9 (kn_put eh6) (by decide)), n, nZ, nE, (kn_put eh9), (by omega)⟩⟩
def S_Rod_sheetX : List (Nat × Option Nat) := [(108, some 1), (108, some 2), (110, some 1), (110, some 2), (112, some 1), (112, some 2), (114, some 1), (114, some 2), (109, none), (111, none), (113, none), (115, none)]
abbrev q_Rod_sheetX (h : Hp) (k : Int32) (kZ : Int) (l : Int32) (lZ : Int) (n : Int32) (nZ : Int) (t0 : Int32) (t0Z : Int) (t1 : Int32) (t1Z : Int) (t2 : Int32) (t2Z : Int) (t3 : Int32) (t3Z : Int) (s0 : Int32) (s0Z : Int) (s1 : Int32) (s1Z : Int) (s2 : Int32) (s2Z : Int) (s3 : Int32) (s3Z : Int) : Option Value → Hp → Prop := pInt (fun r h' => Inv h' ∧ fr S_Rod_sheetX h h' ∧ ∃ (u0 : Int32) (u0Z : Int), u0.toInt = u0Z ∧ h'.1 108 1 = u0 ∧ ∃ (u1 : Int32) (u1Z : Int), u1.toInt = u1Z ∧ h'.1 110 1 = u1 ∧ ∃ (u2 : Int32) (u2Z : Int), u2.toInt = u2Z ∧ h'.1 112 1 = u2 ∧ ∃ (u3 : Int32) (u3Z : Int), u3.toInt = u3Z ∧ h'.1 114 1 = u3 ∧ ∃ (w0 : Int32) (w0Z : Int), w0.toInt = w0Z ∧ h'.1 108 2 = w0 ∧ ∃ (w1 : Int32) (w1Z : Int), w1.toInt = w1Z ∧ h'.1 110 2 = w1 ∧ ∃ (w2 : Int32) (w2Z : Int), w2.toInt = w2Z ∧ h'.1 112 2 = w2 ∧ ∃ (w3 : Int32) (w3Z : Int), w3.toInt = w3Z ∧ h'.1 114 2 = w3 ∧ (((kZ < 0 ∨ 3 < kZ ∨ lZ < 0 ∨ 2 < lZ ∨ 40 < nZ) ∧ r.toInt = -1 ∨ ¬ (kZ < 0 ∨ 3 < kZ ∨ lZ < 0 ∨ 2 < lZ ∨ 40 < nZ) ∧ nZ < 0 ∧ r.toInt = -14 ∨ ¬ (kZ < 0 ∨ 3 < kZ ∨ lZ < 0 ∨ 2 < lZ ∨ 40 < nZ) ∧ 0 ≤ nZ ∧ r.toInt = 1) ∧ (¬ (kZ < 0 ∨ 3 < kZ ∨ lZ < 0 ∨ 2 < lZ ∨ 40 < nZ) ∧ 0 ≤ nZ ∧ kZ = 0 ∧ u0Z = lZ ∧ w0Z = nZ ∨ ((kZ < 0 ∨ 3 < kZ ∨ lZ < 0 ∨ 2 < lZ ∨ 40 < nZ) ∨ nZ < 0 ∨ kZ ≠ 0) ∧ u0Z = t0Z ∧ w0Z = s0Z) ∧ (¬ (kZ < 0 ∨ 3 < kZ ∨ lZ < 0 ∨ 2 < lZ ∨ 40 < nZ) ∧ 0 ≤ nZ ∧ kZ = 1 ∧ u1Z = lZ ∧ w1Z = nZ ∨ ((kZ < 0 ∨ 3 < kZ ∨ lZ < 0 ∨ 2 < lZ ∨ 40 < nZ) ∨ nZ < 0 ∨ kZ ≠ 1) ∧ u1Z = t1Z ∧ w1Z = s1Z) ∧ (¬ (kZ < 0 ∨ 3 < kZ ∨ lZ < 0 ∨ 2 < lZ ∨ 40 < nZ) ∧ 0 ≤ nZ ∧ kZ = 2 ∧ u2Z = lZ ∧ w2Z = nZ ∨ ((kZ < 0 ∨ 3 < kZ ∨ lZ < 0 ∨ 2 < lZ ∨ 40 < nZ) ∨ nZ < 0 ∨ kZ ≠ 2) ∧ u2Z = t2Z ∧ w2Z = s2Z) ∧ (¬ (kZ < 0 ∨ 3 < kZ ∨ lZ < 0 ∨ 2 < lZ ∨ 40 < nZ) ∧ 0 ≤ nZ ∧ kZ = 3 ∧ u3Z = lZ ∧ w3Z = nZ ∨ ((kZ < 0 ∨ 3 < kZ ∨ lZ < 0 ∨ 2 < lZ ∨ 40 < nZ) ∨ nZ < 0 ∨ kZ ≠ 3) ∧ u3Z = t3Z ∧ w3Z = s3Z)))
set_option maxRecDepth 100000 in
theorem c_Rod_sheetX (h : Hp) (hI : Inv h) (k : Int32) (kZ : Int) (kE : k.toInt = kZ) (l : Int32) (lZ : Int) (lE : l.toInt = lZ) (n : Int32) (nZ : Int) (nE : n.toInt = nZ) (t0 : Int32) (t0Z : Int) (t0E : t0.toInt = t0Z) (t0K : h.1 108 1 = t0) (t1 : Int32) (t1Z : Int) (t1E : t1.toInt = t1Z) (t1K : h.1 110 1 = t1) (t2 : Int32) (t2Z : Int) (t2E : t2.toInt = t2Z) (t2K : h.1 112 1 = t2) (t3 : Int32) (t3Z : Int) (t3E : t3.toInt = t3Z) (t3K : h.1 114 1 = t3) (s0 : Int32) (s0Z : Int) (s0E : s0.toInt = s0Z) (s0K : h.1 108 2 = s0) (s1 : Int32) (s1Z : Int) (s1E : s1.toInt = s1Z) (s1K : h.1 110 2 = s1) (s2 : Int32) (s2Z : Int) (s2E : s2.toInt = s2Z) (s2K : h.1 112 2 = s2) (s3 : Int32) (s3Z : Int) (s3E : s3.toInt = s3Z) (s3K : h.1 114 2 = s3) : Ct y_Rod_sheet b_Rod_sheet 4 (some .int) 2 45 [.ref 85, .int k, .int l, .int n] h (q_Rod_sheetX h k kZ l lZ n nZ t0 t0Z t1 t1Z t2 t2Z t3 t3Z s0 s0Z s1 s1Z s2 s2Z s3 s3Z) := by
  refine ct_ow R_Rod [some (.ref 85), some (.int k), some (.int l), some (.int n)] rfl (by decide) rfl (Nat.le_of_ble_eq_true rfl) ?_
  have f0 : fr S_Rod_sheetX h h := fr_rf
  have g1 : 0 ≤ s0Z ∧ s0Z ≤ 40 := inv_at hI s0E s0K.symm rfl
  have g2 : 0 ≤ s1Z ∧ s1Z ≤ 40 := inv_at hI s1E s1K.symm rfl
  have g3 : 0 ≤ s2Z ∧ s2Z ≤ 40 := inv_at hI s2E s2K.symm rfl
  have g4 : 0 ≤ s3Z ∧ s3Z ≤ 40 := inv_at hI s3E s3K.symm rfl
  refine V_iload_n 1 d_Rod_sheet_0 rfl rfl ?_
  refine N_callSI [.int k] [] cs_Rod_283 d_Rod_sheet_1 rfl (Nat.le_of_ble_eq_true rfl) (by decide) (by decide) (c_Rod_isSheet h k kZ kE) (fun z5 h6 z5Z z5E p7 => ?_)
  obtain ⟨eh6, p7⟩ := p7
  subst eh6
  refine V_if_eq 20 z5E d_Rod_sheet_4 (by decide) (fun c8 => ?_) (fun c8 => ?_)
  ·
    refine V_iconst (-1) d_Rod_sheet_20 (by decide) ?_
    exact V_iret rfl d_Rod_sheet_21 ⟨(-1), rfl, ⟨hI, f0, t0, t0Z, t0E, t0K, t1, t1Z, t1E, t1K, t2, t2Z, t2E, t2K, t3, t3Z, t3E, t3K, s0, s0Z, s0E, s0K, s1, s1Z, s1E, s1K, s2, s2Z, s2E, s2K, s3, s3Z, s3E, s3K, ⟨by rw [tc_m1]; omega, by omega, by omega, by omega, by omega⟩⟩⟩
  ·
    refine V_iload_n 2 d_Rod_sheet_7 rfl rfl ?_
    refine N_callSI [.int l] [] cs_Rod_286 d_Rod_sheet_8 rfl (Nat.le_of_ble_eq_true rfl) (by decide) (by decide) (c_Rod_isLane h l lZ lE) (fun z9 h10 z9Z z9E p11 => ?_)
    obtain ⟨eh10, p11⟩ := p11
    subst eh10
    refine V_if_eq 20 z9E d_Rod_sheet_11 (by decide) (fun c12 => ?_) (fun c12 => ?_)
    ·
      refine V_iconst (-1) d_Rod_sheet_20 (by decide) ?_
      exact V_iret rfl d_Rod_sheet_21 ⟨(-1), rfl, ⟨hI, f0, t0, t0Z, t0E, t0K, t1, t1Z, t1E, t1K, t2, t2Z, t2E, t2K, t3, t3Z, t3E, t3K, s0, s0Z, s0E, s0K, s1, s1Z, s1E, s1K, s2, s2Z, s2E, s2K, s3, s3Z, s3E, s3K, ⟨by rw [tc_m1]; omega, by omega, by omega, by omega, by omega⟩⟩⟩
    ·
      refine V_iload_n 3 d_Rod_sheet_14 rfl rfl ?_
      refine V_bipush 40 d_Rod_sheet_15 (by decide) ?_
      refine V_icmp_le 22 nE tc_40 d_Rod_sheet_17 (by decide) (fun c13 => ?_) (fun c13 => ?_)
      ·
        refine V_iload_n 3 d_Rod_sheet_22 rfl rfl ?_
        refine V_if_ge 29 nE d_Rod_sheet_23 (by decide) (fun c14 => ?_) (fun c14 => ?_)
        ·
          refine V_aload_n 0 d_Rod_sheet_29 rfl rfl ?_
          refine V_getR fa_Rod_62 sk_85 rfl d_Rod_sheet_30 ?_
          refine V_iload_n 1 d_Rod_sheet_33 rfl rfl ?_
          rcases (by omega : kZ = 0 ∨ kZ = 1 ∨ kZ = 2 ∨ kZ = 3) with c15 | c15 | c15 | c15
          ·
            refine V_aald (r := 108) sk_107 (by decide) kE (by omega) (by rw [c15]; rfl) d_Rod_sheet_34 ?_
            refine V_iload_n 2 d_Rod_sheet_35 rfl rfl ?_
            refine V_iload_n 3 d_Rod_sheet_36 rfl rfl ?_
            refine N_callVV [.int l, .int n] [] cv_Rod_289 sk_108 rfl d_Rod_sheet_37 rfl (Nat.le_of_ble_eq_true rfl) (by decide) (by decide) (c_Sheet_makeNewX_0 h hI l lZ lE n nZ nE (by omega)) (fun h17 p18 => ?_)
            obtain ⟨hI19, fh17, o21, o21Z, o21E, o21K, o22, o22Z, o22E, o22K, p18⟩ := p18
            have f20 : fr S_Rod_sheetX h h17 := fr_call f0 fh17 rfl
            have g23 : 0 ≤ o22Z ∧ o22Z ≤ 40 := inv_at hI19 o22E o22K.symm rfl
            refine V_iconst 1 d_Rod_sheet_40 (by decide) ?_
            exact V_iret rfl d_Rod_sheet_41 ⟨1, rfl, ⟨hI19, f20, o21, o21Z, o21E, o21K, t1, t1Z, t1E, (kn_call fh17 t1K rfl), t2, t2Z, t2E, (kn_call fh17 t2K rfl), t3, t3Z, t3E, (kn_call fh17 t3K rfl), o22, o22Z, o22E, o22K, s1, s1Z, s1E, (kn_call fh17 s1K rfl), s2, s2Z, s2E, (kn_call fh17 s2K rfl), s3, s3Z, s3E, (kn_call fh17 s3K rfl), ⟨by rw [tc_1]; omega, by omega, by omega, by omega, by omega⟩⟩⟩
          ·
            refine V_aald (r := 110) sk_107 (by decide) kE (by omega) (by rw [c15]; rfl) d_Rod_sheet_34 ?_
            refine V_iload_n 2 d_Rod_sheet_35 rfl rfl ?_
            refine V_iload_n 3 d_Rod_sheet_36 rfl rfl ?_
            refine N_callVV [.int l, .int n] [] cv_Rod_289 sk_110 rfl d_Rod_sheet_37 rfl (Nat.le_of_ble_eq_true rfl) (by decide) (by decide) (c_Sheet_makeNewX_1 h hI l lZ lE n nZ nE (by omega)) (fun h25 p26 => ?_)
            obtain ⟨hI27, fh25, o29, o29Z, o29E, o29K, o30, o30Z, o30E, o30K, p26⟩ := p26
            have f28 : fr S_Rod_sheetX h h25 := fr_call f0 fh25 rfl
            have g31 : 0 ≤ o30Z ∧ o30Z ≤ 40 := inv_at hI27 o30E o30K.symm rfl
            refine V_iconst 1 d_Rod_sheet_40 (by decide) ?_
            exact V_iret rfl d_Rod_sheet_41 ⟨1, rfl, ⟨hI27, f28, t0, t0Z, t0E, (kn_call fh25 t0K rfl), o29, o29Z, o29E, o29K, t2, t2Z, t2E, (kn_call fh25 t2K rfl), t3, t3Z, t3E, (kn_call fh25 t3K rfl), s0, s0Z, s0E, (kn_call fh25 s0K rfl), o30, o30Z, o30E, o30K, s2, s2Z, s2E, (kn_call fh25 s2K rfl), s3, s3Z, s3E, (kn_call fh25 s3K rfl), ⟨by rw [tc_1]; omega, by omega, by omega, by omega, by omega⟩⟩⟩
          ·
            refine V_aald (r := 112) sk_107 (by decide) kE (by omega) (by rw [c15]; rfl) d_Rod_sheet_34 ?_
            refine V_iload_n 2 d_Rod_sheet_35 rfl rfl ?_
            refine V_iload_n 3 d_Rod_sheet_36 rfl rfl ?_
            refine N_callVV [.int l, .int n] [] cv_Rod_289 sk_112 rfl d_Rod_sheet_37 rfl (Nat.le_of_ble_eq_true rfl) (by decide) (by decide) (c_Sheet_makeNewX_2 h hI l lZ lE n nZ nE (by omega)) (fun h33 p34 => ?_)
            obtain ⟨hI35, fh33, o37, o37Z, o37E, o37K, o38, o38Z, o38E, o38K, p34⟩ := p34
            have f36 : fr S_Rod_sheetX h h33 := fr_call f0 fh33 rfl
            have g39 : 0 ≤ o38Z ∧ o38Z ≤ 40 := inv_at hI35 o38E o38K.symm rfl
            refine V_iconst 1 d_Rod_sheet_40 (by decide) ?_
            exact V_iret rfl d_Rod_sheet_41 ⟨1, rfl, ⟨hI35, f36, t0, t0Z, t0E, (kn_call fh33 t0K rfl), t1, t1Z, t1E, (kn_call fh33 t1K rfl), o37, o37Z, o37E, o37K, t3, t3Z, t3E, (kn_call fh33 t3K rfl), s0, s0Z, s0E, (kn_call fh33 s0K rfl), s1, s1Z, s1E, (kn_call fh33 s1K rfl), o38, o38Z, o38E, o38K, s3, s3Z, s3E, (kn_call fh33 s3K rfl), ⟨by rw [tc_1]; omega, by omega, by omega, by omega, by omega⟩⟩⟩
          ·
            refine V_aald (r := 114) sk_107 (by decide) kE (by omega) (by rw [c15]; rfl) d_Rod_sheet_34 ?_
            refine V_iload_n 2 d_Rod_sheet_35 rfl rfl ?_
            refine V_iload_n 3 d_Rod_sheet_36 rfl rfl ?_
            refine N_callVV [.int l, .int n] [] cv_Rod_289 sk_114 rfl d_Rod_sheet_37 rfl (Nat.le_of_ble_eq_true rfl) (by decide) (by decide) (c_Sheet_makeNewX_3 h hI l lZ lE n nZ nE (by omega)) (fun h41 p42 => ?_)
            obtain ⟨hI43, fh41, o45, o45Z, o45E, o45K, o46, o46Z, o46E, o46K, p42⟩ := p42
            have f44 : fr S_Rod_sheetX h h41 := fr_call f0 fh41 rfl
            have g47 : 0 ≤ o46Z ∧ o46Z ≤ 40 := inv_at hI43 o46E o46K.symm rfl
            refine V_iconst 1 d_Rod_sheet_40 (by decide) ?_
            exact V_iret rfl d_Rod_sheet_41 ⟨1, rfl, ⟨hI43, f44, t0, t0Z, t0E, (kn_call fh41 t0K rfl), t1, t1Z, t1E, (kn_call fh41 t1K rfl), t2, t2Z, t2E, (kn_call fh41 t2K rfl), o45, o45Z, o45E, o45K, s0, s0Z, s0E, (kn_call fh41 s0K rfl), s1, s1Z, s1E, (kn_call fh41 s1K rfl), s2, s2Z, s2E, (kn_call fh41 s2K rfl), o46, o46Z, o46E, o46K, ⟨by rw [tc_1]; omega, by omega, by omega, by omega, by omega⟩⟩⟩
        ·
          refine V_bipush (-14) d_Rod_sheet_26 (by decide) ?_
          exact V_iret rfl d_Rod_sheet_28 ⟨(-14), rfl, ⟨hI, f0, t0, t0Z, t0E, t0K, t1, t1Z, t1E, t1K, t2, t2Z, t2E, t2K, t3, t3Z, t3E, t3K, s0, s0Z, s0E, s0K, s1, s1Z, s1E, s1K, s2, s2Z, s2E, s2K, s3, s3Z, s3E, s3K, ⟨by rw [tc_m14]; omega, by omega, by omega, by omega, by omega⟩⟩⟩
      ·
        refine V_iconst (-1) d_Rod_sheet_20 (by decide) ?_
        exact V_iret rfl d_Rod_sheet_21 ⟨(-1), rfl, ⟨hI, f0, t0, t0Z, t0E, t0K, t1, t1Z, t1E, t1K, t2, t2Z, t2E, t2K, t3, t3Z, t3E, t3K, s0, s0Z, s0E, s0K, s1, s1Z, s1E, s1K, s2, s2Z, s2E, s2K, s3, s3Z, s3E, s3K, ⟨by rw [tc_m1]; omega, by omega, by omega, by omega, by omega⟩⟩⟩
def S_Rod_layX : List (Nat × Option Nat) := [(109, none), (111, none), (113, none), (115, none)]
abbrev q_Rod_layX (h : Hp) (k : Int32) (kZ : Int) (i : Int32) (iZ : Int) (v : Int32) (vZ : Int) (t0 : Int32) (t0Z : Int) (t1 : Int32) (t1Z : Int) (t2 : Int32) (t2Z : Int) (t3 : Int32) (t3Z : Int) (s0 : Int32) (s0Z : Int) (s1 : Int32) (s1Z : Int) (s2 : Int32) (s2Z : Int) (s3 : Int32) (s3Z : Int) : Option Value → Hp → Prop := pInt (fun r h' => Inv h' ∧ fr S_Rod_layX h h' ∧ ((kZ < 0 ∨ 3 < kZ) ∧ r.toInt = -1 ∨ kZ = 0 ∧ (t0Z = -1 ∧ r.toInt = -11 ∨ t0Z ≠ -1 ∧ (iZ < 0 ∨ s0Z ≤ iZ) ∧ r.toInt = -12 ∨ t0Z ≠ -1 ∧ 0 ≤ iZ ∧ iZ < s0Z ∧ r.toInt = 1) ∨ kZ = 1 ∧ (t1Z = -1 ∧ r.toInt = -11 ∨ t1Z ≠ -1 ∧ (iZ < 0 ∨ s1Z ≤ iZ) ∧ r.toInt = -12 ∨ t1Z ≠ -1 ∧ 0 ≤ iZ ∧ iZ < s1Z ∧ r.toInt = 1) ∨ kZ = 2 ∧ (t2Z = -1 ∧ r.toInt = -11 ∨ t2Z ≠ -1 ∧ (iZ < 0 ∨ s2Z ≤ iZ) ∧ r.toInt = -12 ∨ t2Z ≠ -1 ∧ 0 ≤ iZ ∧ iZ < s2Z ∧ r.toInt = 1) ∨ kZ = 3 ∧ (t3Z = -1 ∧ r.toInt = -11 ∨ t3Z ≠ -1 ∧ (iZ < 0 ∨ s3Z ≤ iZ) ∧ r.toInt = -12 ∨ t3Z ≠ -1 ∧ 0 ≤ iZ ∧ iZ < s3Z ∧ r.toInt = 1)))
set_option maxRecDepth 100000 in
theorem c_Rod_layX (h : Hp) (hI : Inv h) (k : Int32) (kZ : Int) (kE : k.toInt = kZ) (i : Int32) (iZ : Int) (iE : i.toInt = iZ) (v : Int32) (vZ : Int) (vE : v.toInt = vZ) (t0 : Int32) (t0Z : Int) (t0E : t0.toInt = t0Z) (t0K : h.1 108 1 = t0) (t1 : Int32) (t1Z : Int) (t1E : t1.toInt = t1Z) (t1K : h.1 110 1 = t1) (t2 : Int32) (t2Z : Int) (t2E : t2.toInt = t2Z) (t2K : h.1 112 1 = t2) (t3 : Int32) (t3Z : Int) (t3E : t3.toInt = t3Z) (t3K : h.1 114 1 = t3) (s0 : Int32) (s0Z : Int) (s0E : s0.toInt = s0Z) (s0K : h.1 108 2 = s0) (s1 : Int32) (s1Z : Int) (s1E : s1.toInt = s1Z) (s1K : h.1 110 2 = s1) (s2 : Int32) (s2Z : Int) (s2E : s2.toInt = s2Z) (s2K : h.1 112 2 = s2) (s3 : Int32) (s3Z : Int) (s3E : s3.toInt = s3Z) (s3K : h.1 114 2 = s3) : Ct y_Rod_lay b_Rod_lay 5 (some .int) 1 22 [.ref 85, .int k, .int i, .int v] h (q_Rod_layX h k kZ i iZ v vZ t0 t0Z t1 t1Z t2 t2Z t3 t3Z s0 s0Z s1 s1Z s2 s2Z s3 s3Z) := by
  refine ct_ow R_Rod [some (.ref 85), some (.int k), some (.int i), some (.int v), none] rfl (by decide) rfl (Nat.le_of_ble_eq_true rfl) ?_
  have f0 : fr S_Rod_layX h h := fr_rf
  have g1 : 0 ≤ s0Z ∧ s0Z ≤ 40 := inv_at hI s0E s0K.symm rfl
  have g2 : 0 ≤ s1Z ∧ s1Z ≤ 40 := inv_at hI s1E s1K.symm rfl
  have g3 : 0 ≤ s2Z ∧ s2Z ≤ 40 := inv_at hI s2E s2K.symm rfl
  have g4 : 0 ≤ s3Z ∧ s3Z ≤ 40 := inv_at hI s3E s3K.symm rfl
  refine V_iload_n 1 d_Rod_lay_0 rfl rfl ?_
  refine N_callSI [.int k] [] cs_Rod_283 d_Rod_lay_1 rfl (Nat.le_of_ble_eq_true rfl) (by decide) (by decide) (c_Rod_isSheet h k kZ kE) (fun z5 h6 z5Z z5E p7 => ?_)
  obtain ⟨eh6, p7⟩ := p7
  subst eh6
  refine V_if_ne 9 z5E d_Rod_lay_4 (by decide) (fun c8 => ?_) (fun c8 => ?_)
  ·
    refine V_aload_n 0 d_Rod_lay_9 rfl rfl ?_
    refine V_getR fa_Rod_62 sk_85 rfl d_Rod_lay_10 ?_
    refine V_iload_n 1 d_Rod_lay_13 rfl rfl ?_
    rcases (by omega : kZ = 0 ∨ kZ = 1 ∨ kZ = 2 ∨ kZ = 3) with c9 | c9 | c9 | c9
    ·
      refine V_aald (r := 108) sk_107 (by decide) kE (by omega) (by rw [c9]; rfl) d_Rod_lay_14 ?_
      refine V_astore 4 [some (.ref 85), some (.int k), some (.int i), some (.int v), some (.ref 108)] d_Rod_lay_15 (by decide) rfl rfl ?_
      refine V_aload d_Rod_lay_17 rfl ?_
      refine N_getK fa_Rod_293 sk_108 rfl d_Rod_lay_19 t0K ?_
      refine V_iconst (-1) d_Rod_lay_22 (by decide) ?_
      refine V_icmp_ne 29 t0E tc_m1 d_Rod_lay_23 (by decide) (fun c10 => ?_) (fun c10 => ?_)
      ·
        refine V_iload_n 2 d_Rod_lay_29 rfl rfl ?_
        refine V_if_lt 42 iE d_Rod_lay_30 (by decide) (fun c11 => ?_) (fun c11 => ?_)
        ·
          refine V_bipush (-12) d_Rod_lay_42 (by decide) ?_
          exact V_iret rfl d_Rod_lay_44 ⟨(-12), rfl, ⟨hI, f0, (Or.inr (Or.inl (⟨by omega, (Or.inr (Or.inl (⟨by omega, by omega, tc_m12⟩)))⟩)))⟩⟩
        ·
          refine V_iload_n 2 d_Rod_lay_33 rfl rfl ?_
          refine V_aload d_Rod_lay_34 rfl ?_
          refine N_getK fa_Rod_296 sk_108 rfl d_Rod_lay_36 s0K ?_
          refine V_icmp_lt 45 iE s0E d_Rod_lay_39 (by decide) (fun c12 => ?_) (fun c12 => ?_)
          ·
            refine V_aload d_Rod_lay_45 rfl ?_
            refine V_iload_n 2 d_Rod_lay_47 rfl rfl ?_
            refine V_iload_n 3 d_Rod_lay_48 rfl rfl ?_
            refine N_callVV [.int i, .int v] [] cv_Rod_297 sk_108 rfl d_Rod_lay_49 rfl (Nat.le_of_ble_eq_true rfl) (by decide) (by decide) (c_Sheet_put_0 h hI i iZ iE v vZ vE (by omega)) (fun h14 p15 => ?_)
            obtain ⟨hI16, fh14⟩ := p15
            have f17 : fr S_Rod_layX h h14 := fr_call f0 fh14 rfl
            refine V_iconst 1 d_Rod_lay_52 (by decide) ?_
            exact V_iret rfl d_Rod_lay_53 ⟨1, rfl, ⟨hI16, f17, (Or.inr (Or.inl (⟨by omega, (Or.inr (Or.inr (⟨by omega, by omega, by omega, tc_1⟩)))⟩)))⟩⟩
          ·
            refine V_bipush (-12) d_Rod_lay_42 (by decide) ?_
            exact V_iret rfl d_Rod_lay_44 ⟨(-12), rfl, ⟨hI, f0, (Or.inr (Or.inl (⟨by omega, (Or.inr (Or.inl (⟨by omega, by omega, tc_m12⟩)))⟩)))⟩⟩
      ·
        refine V_bipush (-11) d_Rod_lay_26 (by decide) ?_
        exact V_iret rfl d_Rod_lay_28 ⟨(-11), rfl, ⟨hI, f0, (Or.inr (Or.inl (⟨by omega, (Or.inl (⟨by omega, tc_m11⟩))⟩)))⟩⟩
    ·
      refine V_aald (r := 110) sk_107 (by decide) kE (by omega) (by rw [c9]; rfl) d_Rod_lay_14 ?_
      refine V_astore 4 [some (.ref 85), some (.int k), some (.int i), some (.int v), some (.ref 110)] d_Rod_lay_15 (by decide) rfl rfl ?_
      refine V_aload d_Rod_lay_17 rfl ?_
      refine N_getK fa_Rod_293 sk_110 rfl d_Rod_lay_19 t1K ?_
      refine V_iconst (-1) d_Rod_lay_22 (by decide) ?_
      refine V_icmp_ne 29 t1E tc_m1 d_Rod_lay_23 (by decide) (fun c18 => ?_) (fun c18 => ?_)
      ·
        refine V_iload_n 2 d_Rod_lay_29 rfl rfl ?_
        refine V_if_lt 42 iE d_Rod_lay_30 (by decide) (fun c19 => ?_) (fun c19 => ?_)
        ·
          refine V_bipush (-12) d_Rod_lay_42 (by decide) ?_
          exact V_iret rfl d_Rod_lay_44 ⟨(-12), rfl, ⟨hI, f0, (Or.inr (Or.inr (Or.inl (⟨by omega, (Or.inr (Or.inl (⟨by omega, by omega, tc_m12⟩)))⟩))))⟩⟩
        ·
          refine V_iload_n 2 d_Rod_lay_33 rfl rfl ?_
          refine V_aload d_Rod_lay_34 rfl ?_
          refine N_getK fa_Rod_296 sk_110 rfl d_Rod_lay_36 s1K ?_
          refine V_icmp_lt 45 iE s1E d_Rod_lay_39 (by decide) (fun c20 => ?_) (fun c20 => ?_)
          ·
            refine V_aload d_Rod_lay_45 rfl ?_
            refine V_iload_n 2 d_Rod_lay_47 rfl rfl ?_
            refine V_iload_n 3 d_Rod_lay_48 rfl rfl ?_
            refine N_callVV [.int i, .int v] [] cv_Rod_297 sk_110 rfl d_Rod_lay_49 rfl (Nat.le_of_ble_eq_true rfl) (by decide) (by decide) (c_Sheet_put_1 h hI i iZ iE v vZ vE (by omega)) (fun h22 p23 => ?_)
            obtain ⟨hI24, fh22⟩ := p23
            have f25 : fr S_Rod_layX h h22 := fr_call f0 fh22 rfl
            refine V_iconst 1 d_Rod_lay_52 (by decide) ?_
            exact V_iret rfl d_Rod_lay_53 ⟨1, rfl, ⟨hI24, f25, (Or.inr (Or.inr (Or.inl (⟨by omega, (Or.inr (Or.inr (⟨by omega, by omega, by omega, tc_1⟩)))⟩))))⟩⟩
          ·
            refine V_bipush (-12) d_Rod_lay_42 (by decide) ?_
            exact V_iret rfl d_Rod_lay_44 ⟨(-12), rfl, ⟨hI, f0, (Or.inr (Or.inr (Or.inl (⟨by omega, (Or.inr (Or.inl (⟨by omega, by omega, tc_m12⟩)))⟩))))⟩⟩
      ·
        refine V_bipush (-11) d_Rod_lay_26 (by decide) ?_
        exact V_iret rfl d_Rod_lay_28 ⟨(-11), rfl, ⟨hI, f0, (Or.inr (Or.inr (Or.inl (⟨by omega, (Or.inl (⟨by omega, tc_m11⟩))⟩))))⟩⟩
    ·
      refine V_aald (r := 112) sk_107 (by decide) kE (by omega) (by rw [c9]; rfl) d_Rod_lay_14 ?_
      refine V_astore 4 [some (.ref 85), some (.int k), some (.int i), some (.int v), some (.ref 112)] d_Rod_lay_15 (by decide) rfl rfl ?_
      refine V_aload d_Rod_lay_17 rfl ?_
      refine N_getK fa_Rod_293 sk_112 rfl d_Rod_lay_19 t2K ?_
      refine V_iconst (-1) d_Rod_lay_22 (by decide) ?_
      refine V_icmp_ne 29 t2E tc_m1 d_Rod_lay_23 (by decide) (fun c26 => ?_) (fun c26 => ?_)
      ·
        refine V_iload_n 2 d_Rod_lay_29 rfl rfl ?_
        refine V_if_lt 42 iE d_Rod_lay_30 (by decide) (fun c27 => ?_) (fun c27 => ?_)
        ·
          refine V_bipush (-12) d_Rod_lay_42 (by decide) ?_
          exact V_iret rfl d_Rod_lay_44 ⟨(-12), rfl, ⟨hI, f0, (Or.inr (Or.inr (Or.inr (Or.inl (⟨by omega, (Or.inr (Or.inl (⟨by omega, by omega, tc_m12⟩)))⟩)))))⟩⟩
        ·
          refine V_iload_n 2 d_Rod_lay_33 rfl rfl ?_
          refine V_aload d_Rod_lay_34 rfl ?_
          refine N_getK fa_Rod_296 sk_112 rfl d_Rod_lay_36 s2K ?_
          refine V_icmp_lt 45 iE s2E d_Rod_lay_39 (by decide) (fun c28 => ?_) (fun c28 => ?_)
          ·
            refine V_aload d_Rod_lay_45 rfl ?_
            refine V_iload_n 2 d_Rod_lay_47 rfl rfl ?_
            refine V_iload_n 3 d_Rod_lay_48 rfl rfl ?_
            refine N_callVV [.int i, .int v] [] cv_Rod_297 sk_112 rfl d_Rod_lay_49 rfl (Nat.le_of_ble_eq_true rfl) (by decide) (by decide) (c_Sheet_put_2 h hI i iZ iE v vZ vE (by omega)) (fun h30 p31 => ?_)
            obtain ⟨hI32, fh30⟩ := p31
            have f33 : fr S_Rod_layX h h30 := fr_call f0 fh30 rfl
            refine V_iconst 1 d_Rod_lay_52 (by decide) ?_
            exact V_iret rfl d_Rod_lay_53 ⟨1, rfl, ⟨hI32, f33, (Or.inr (Or.inr (Or.inr (Or.inl (⟨by omega, (Or.inr (Or.inr (⟨by omega, by omega, by omega, tc_1⟩)))⟩)))))⟩⟩
          ·
            refine V_bipush (-12) d_Rod_lay_42 (by decide) ?_
            exact V_iret rfl d_Rod_lay_44 ⟨(-12), rfl, ⟨hI, f0, (Or.inr (Or.inr (Or.inr (Or.inl (⟨by omega, (Or.inr (Or.inl (⟨by omega, by omega, tc_m12⟩)))⟩)))))⟩⟩
      ·
        refine V_bipush (-11) d_Rod_lay_26 (by decide) ?_
        exact V_iret rfl d_Rod_lay_28 ⟨(-11), rfl, ⟨hI, f0, (Or.inr (Or.inr (Or.inr (Or.inl (⟨by omega, (Or.inl (⟨by omega, tc_m11⟩))⟩)))))⟩⟩
    ·
      refine V_aald (r := 114) sk_107 (by decide) kE (by omega) (by rw [c9]; rfl) d_Rod_lay_14 ?_
      refine V_astore 4 [some (.ref 85), some (.int k), some (.int i), some (.int v), some (.ref 114)] d_Rod_lay_15 (by decide) rfl rfl ?_
      refine V_aload d_Rod_lay_17 rfl ?_
      refine N_getK fa_Rod_293 sk_114 rfl d_Rod_lay_19 t3K ?_
      refine V_iconst (-1) d_Rod_lay_22 (by decide) ?_
      refine V_icmp_ne 29 t3E tc_m1 d_Rod_lay_23 (by decide) (fun c34 => ?_) (fun c34 => ?_)
      ·
        refine V_iload_n 2 d_Rod_lay_29 rfl rfl ?_
        refine V_if_lt 42 iE d_Rod_lay_30 (by decide) (fun c35 => ?_) (fun c35 => ?_)
        ·
          refine V_bipush (-12) d_Rod_lay_42 (by decide) ?_
          exact V_iret rfl d_Rod_lay_44 ⟨(-12), rfl, ⟨hI, f0, (Or.inr (Or.inr (Or.inr (Or.inr (⟨by omega, (Or.inr (Or.inl (⟨by omega, by omega, tc_m12⟩)))⟩)))))⟩⟩
        ·
          refine V_iload_n 2 d_Rod_lay_33 rfl rfl ?_
          refine V_aload d_Rod_lay_34 rfl ?_
          refine N_getK fa_Rod_296 sk_114 rfl d_Rod_lay_36 s3K ?_
          refine V_icmp_lt 45 iE s3E d_Rod_lay_39 (by decide) (fun c36 => ?_) (fun c36 => ?_)
          ·
            refine V_aload d_Rod_lay_45 rfl ?_
            refine V_iload_n 2 d_Rod_lay_47 rfl rfl ?_
            refine V_iload_n 3 d_Rod_lay_48 rfl rfl ?_
            refine N_callVV [.int i, .int v] [] cv_Rod_297 sk_114 rfl d_Rod_lay_49 rfl (Nat.le_of_ble_eq_true rfl) (by decide) (by decide) (c_Sheet_put_3 h hI i iZ iE v vZ vE (by omega)) (fun h38 p39 => ?_)
            obtain ⟨hI40, fh38⟩ := p39
            have f41 : fr S_Rod_layX h h38 := fr_call f0 fh38 rfl
            refine V_iconst 1 d_Rod_lay_52 (by decide) ?_
            exact V_iret rfl d_Rod_lay_53 ⟨1, rfl, ⟨hI40, f41, (Or.inr (Or.inr (Or.inr (Or.inr (⟨by omega, (Or.inr (Or.inr (⟨by omega, by omega, by omega, tc_1⟩)))⟩)))))⟩⟩
          ·
            refine V_bipush (-12) d_Rod_lay_42 (by decide) ?_
            exact V_iret rfl d_Rod_lay_44 ⟨(-12), rfl, ⟨hI, f0, (Or.inr (Or.inr (Or.inr (Or.inr (⟨by omega, (Or.inr (Or.inl (⟨by omega, by omega, tc_m12⟩)))⟩)))))⟩⟩
      ·
        refine V_bipush (-11) d_Rod_lay_26 (by decide) ?_
        exact V_iret rfl d_Rod_lay_28 ⟨(-11), rfl, ⟨hI, f0, (Or.inr (Or.inr (Or.inr (Or.inr (⟨by omega, (Or.inl (⟨by omega, tc_m11⟩))⟩)))))⟩⟩
  ·
    refine V_iconst (-1) d_Rod_lay_7 (by decide) ?_
    exact V_iret rfl d_Rod_lay_8 ⟨(-1), rfl, ⟨hI, f0, (Or.inl (⟨by omega, tc_m1⟩))⟩⟩
def S_Mod_sheetX : List (Nat × Option Nat) := [(128, none), (129, none), (130, none)]
abbrev q_Mod_sheetX (h : Hp) (k : Int32) (kZ : Int) (l : Int32) (lZ : Int) (n : Int32) (nZ : Int) (t0 : Int32) (t0Z : Int) (t1 : Int32) (t1Z : Int) (t2 : Int32) (t2Z : Int) (t3 : Int32) (t3Z : Int) (s0 : Int32) (s0Z : Int) (s1 : Int32) (s1Z : Int) (s2 : Int32) (s2Z : Int) (s3 : Int32) (s3Z : Int) : Option Value → Hp → Prop := pInt (fun r h' => Inv h' ∧ fr S_Mod_sheetX h h' ∧ ∃ (u0 : Int32) (u0Z : Int), u0.toInt = u0Z ∧ h'.1 128 0 = u0 ∧ ∃ (u1 : Int32) (u1Z : Int), u1.toInt = u1Z ∧ h'.1 128 1 = u1 ∧ ∃ (u2 : Int32) (u2Z : Int), u2.toInt = u2Z ∧ h'.1 128 2 = u2 ∧ ∃ (u3 : Int32) (u3Z : Int), u3.toInt = u3Z ∧ h'.1 128 3 = u3 ∧ ∃ (w0 : Int32) (w0Z : Int), w0.toInt = w0Z ∧ h'.1 129 0 = w0 ∧ ∃ (w1 : Int32) (w1Z : Int), w1.toInt = w1Z ∧ h'.1 129 1 = w1 ∧ ∃ (w2 : Int32) (w2Z : Int), w2.toInt = w2Z ∧ h'.1 129 2 = w2 ∧ ∃ (w3 : Int32) (w3Z : Int), w3.toInt = w3Z ∧ h'.1 129 3 = w3 ∧ (((kZ < 0 ∨ 3 < kZ ∨ lZ < 0 ∨ 2 < lZ ∨ 40 < nZ) ∧ r.toInt = -1 ∨ ¬ (kZ < 0 ∨ 3 < kZ ∨ lZ < 0 ∨ 2 < lZ ∨ 40 < nZ) ∧ nZ < 0 ∧ r.toInt = -14 ∨ ¬ (kZ < 0 ∨ 3 < kZ ∨ lZ < 0 ∨ 2 < lZ ∨ 40 < nZ) ∧ 0 ≤ nZ ∧ r.toInt = 1) ∧ (¬ (kZ < 0 ∨ 3 < kZ ∨ lZ < 0 ∨ 2 < lZ ∨ 40 < nZ) ∧ 0 ≤ nZ ∧ kZ = 0 ∧ u0Z = lZ ∧ w0Z = nZ ∨ ((kZ < 0 ∨ 3 < kZ ∨ lZ < 0 ∨ 2 < lZ ∨ 40 < nZ) ∨ nZ < 0 ∨ kZ ≠ 0) ∧ u0Z = t0Z ∧ w0Z = s0Z) ∧ (¬ (kZ < 0 ∨ 3 < kZ ∨ lZ < 0 ∨ 2 < lZ ∨ 40 < nZ) ∧ 0 ≤ nZ ∧ kZ = 1 ∧ u1Z = lZ ∧ w1Z = nZ ∨ ((kZ < 0 ∨ 3 < kZ ∨ lZ < 0 ∨ 2 < lZ ∨ 40 < nZ) ∨ nZ < 0 ∨ kZ ≠ 1) ∧ u1Z = t1Z ∧ w1Z = s1Z) ∧ (¬ (kZ < 0 ∨ 3 < kZ ∨ lZ < 0 ∨ 2 < lZ ∨ 40 < nZ) ∧ 0 ≤ nZ ∧ kZ = 2 ∧ u2Z = lZ ∧ w2Z = nZ ∨ ((kZ < 0 ∨ 3 < kZ ∨ lZ < 0 ∨ 2 < lZ ∨ 40 < nZ) ∨ nZ < 0 ∨ kZ ≠ 2) ∧ u2Z = t2Z ∧ w2Z = s2Z) ∧ (¬ (kZ < 0 ∨ 3 < kZ ∨ lZ < 0 ∨ 2 < lZ ∨ 40 < nZ) ∧ 0 ≤ nZ ∧ kZ = 3 ∧ u3Z = lZ ∧ w3Z = nZ ∨ ((kZ < 0 ∨ 3 < kZ ∨ lZ < 0 ∨ 2 < lZ ∨ 40 < nZ) ∨ nZ < 0 ∨ kZ ≠ 3) ∧ u3Z = t3Z ∧ w3Z = s3Z)))
set_option maxRecDepth 100000 in
theorem c_Mod_sheetX (h : Hp) (hI : Inv h) (k : Int32) (kZ : Int) (kE : k.toInt = kZ) (l : Int32) (lZ : Int) (lE : l.toInt = lZ) (n : Int32) (nZ : Int) (nE : n.toInt = nZ) (t0 : Int32) (t0Z : Int) (t0E : t0.toInt = t0Z) (t0K : h.1 128 0 = t0) (t1 : Int32) (t1Z : Int) (t1E : t1.toInt = t1Z) (t1K : h.1 128 1 = t1) (t2 : Int32) (t2Z : Int) (t2E : t2.toInt = t2Z) (t2K : h.1 128 2 = t2) (t3 : Int32) (t3Z : Int) (t3E : t3.toInt = t3Z) (t3K : h.1 128 3 = t3) (s0 : Int32) (s0Z : Int) (s0E : s0.toInt = s0Z) (s0K : h.1 129 0 = s0) (s1 : Int32) (s1Z : Int) (s1E : s1.toInt = s1Z) (s1K : h.1 129 1 = s1) (s2 : Int32) (s2Z : Int) (s2E : s2.toInt = s2Z) (s2K : h.1 129 2 = s2) (s3 : Int32) (s3Z : Int) (s3E : s3.toInt = s3Z) (s3K : h.1 129 3 = s3) : Ct y_Mod_sheet b_Mod_sheet 5 (some .int) 2 46 [.ref 116, .int k, .int l, .int n] h (q_Mod_sheetX h k kZ l lZ n nZ t0 t0Z t1 t1Z t2 t2Z t3 t3Z s0 s0Z s1 s1Z s2 s2Z s3 s3Z) := by
  refine ct_ow R_Mod [some (.ref 116), some (.int k), some (.int l), some (.int n), none] rfl (by decide) rfl (Nat.le_of_ble_eq_true rfl) ?_
  have f0 : fr S_Mod_sheetX h h := fr_rf
  have g1 : 0 ≤ s0Z ∧ s0Z ≤ 40 := inv_at hI s0E s0K.symm rfl
  have g2 : 0 ≤ s1Z ∧ s1Z ≤ 40 := inv_at hI s1E s1K.symm rfl
  have g3 : 0 ≤ s2Z ∧ s2Z ≤ 40 := inv_at hI s2E s2K.symm rfl
  have g4 : 0 ≤ s3Z ∧ s3Z ≤ 40 := inv_at hI s3E s3K.symm rfl
  refine V_iload_n 1 d_Mod_sheet_0 rfl rfl ?_
  refine V_iload_n 2 d_Mod_sheet_1 rfl rfl ?_
  refine N_callSI [.int k, .int l] [] cs_Mod_322 d_Mod_sheet_2 rfl (Nat.le_of_ble_eq_true rfl) (by decide) (by decide) (c_Mod_isSheet h k kZ kE l lZ lE) (fun z5 h6 z5Z z5E p7 => ?_)
  obtain ⟨eh6, p7⟩ := p7
  subst eh6
  refine V_if_eq 14 z5E d_Mod_sheet_5 (by decide) (fun c8 => ?_) (fun c8 => ?_)
  ·
    refine V_iconst (-1) d_Mod_sheet_14 (by decide) ?_
    exact V_iret rfl d_Mod_sheet_15 ⟨(-1), rfl, ⟨hI, f0, t0, t0Z, t0E, t0K, t1, t1Z, t1E, t1K, t2, t2Z, t2E, t2K, t3, t3Z, t3E, t3K, s0, s0Z, s0E, s0K, s1, s1Z, s1E, s1K, s2, s2Z, s2E, s2K, s3, s3Z, s3E, s3K, ⟨by rw [tc_m1]; omega, by omega, by omega, by omega, by omega⟩⟩⟩
  ·
    refine V_iload_n 3 d_Mod_sheet_8 rfl rfl ?_
    refine V_bipush 40 d_Mod_sheet_9 (by decide) ?_
    refine V_icmp_le 16 nE tc_40 d_Mod_sheet_11 (by decide) (fun c9 => ?_) (fun c9 => ?_)
    ·
      refine V_iload_n 3 d_Mod_sheet_16 rfl rfl ?_
      refine V_if_ge 23 nE d_Mod_sheet_17 (by decide) (fun c10 => ?_) (fun c10 => ?_)
      ·
        rcases (by omega : kZ = 0 ∨ kZ = 1 ∨ kZ = 2 ∨ kZ = 3) with c11 | c11 | c11 | c11
        ·
          refine V_aload_n 0 d_Mod_sheet_23 rfl rfl ?_
          refine V_getR fa_Mod_44 sk_116 rfl d_Mod_sheet_24 ?_
          refine V_iload_n 1 d_Mod_sheet_27 rfl rfl ?_
          refine V_iload_n 2 d_Mod_sheet_28 rfl rfl ?_
          refine N_iast sk_128 (kE.trans c11) (by omega) d_Mod_sheet_29 (fun h12 eh12 => ?_)
          have hI13 : Inv h12 := inv_full hI eh12 rfl
          have f14 : fr S_Mod_sheetX h h12 := fr_put f0 eh12 rfl
          refine V_aload_n 0 d_Mod_sheet_30 rfl rfl ?_
          refine V_getR fa_Mod_47 sk_116 rfl d_Mod_sheet_31 ?_
          refine V_iload_n 1 d_Mod_sheet_34 rfl rfl ?_
          refine V_iload_n 3 d_Mod_sheet_35 rfl rfl ?_
          refine N_iast sk_129 (kE.trans c11) (by omega) d_Mod_sheet_36 (fun h15 eh15 => ?_)
          have hI16 : Inv h15 := inv_put (lo := 0) (hi := 40) hI13 eh15 rfl nE (by omega)
          have f17 : fr S_Mod_sheetX h h15 := fr_put f14 eh15 rfl
          refine V_iconst 0 d_Mod_sheet_37 (by decide) ?_
          refine V_istore 4 [some (.ref 116), some (.int k), some (.int l), some (.int n), some (.int 0)] d_Mod_sheet_38 (by decide) rfl rfl ?_
          have L18 : ∀ (nn : Nat) (v20 : Int32) (v20Z : Int) (h21 : Hp), v20.toInt = v20Z → Inv h21 → fr S_Mod_sheetX h h21 → h21.1 128 0 = l → h21.1 128 1 = t1 → h21.1 128 2 = t2 → h21.1 128 3 = t3 → h21.1 129 0 = n → h21.1 129 1 = s1 → h21.1 129 2 = s2 → h21.1 129 3 = s3 → 0 ≤ v20Z ∧ v20Z ≤ 40 → 40 - v20Z < (nn : Int) → V R_Mod b_Mod_sheet 5 (some .int) 2 46 (q_Mod_sheetX h k kZ l lZ n nZ t0 t0Z t1 t1Z t2 t2Z t3 t3Z s0 s0Z s1 s1Z s2 s2Z s3 s3Z) h21 40 [some (.ref 116), some (.int k), some (.int l), some (.int n), some (.int v20)] [] := by
            intro nn
            induction nn with
            | zero => intro v20 v20Z h21 v20E Ih21 Fh21 K22 K23 K24 K25 K26 K27 K28 K29 q30 hm31; exact absurd hm31 (by omega)
            | succ nn ihL18 =>
              intro v20 v20Z h21 v20E Ih21 Fh21 K22 K23 K24 K25 K26 K27 K28 K29 q30 hm31
              refine V_iload d_Mod_sheet_40 rfl ?_
              refine V_bipush 40 d_Mod_sheet_42 (by decide) ?_
              refine V_icmp_ge 66 v20E tc_40 d_Mod_sheet_44 (by decide) (fun c32 => ?_) (fun c32 => ?_)
              ·
                refine V_iconst 1 d_Mod_sheet_66 (by decide) ?_
                exact V_iret rfl d_Mod_sheet_67 ⟨1, rfl, ⟨Ih21, Fh21, l, lZ, lE, K22, t1, t1Z, t1E, K23, t2, t2Z, t2E, K24, t3, t3Z, t3E, K25, n, nZ, nE, K26, s1, s1Z, s1E, K27, s2, s2Z, s2E, K28, s3, s3Z, s3E, K29, ⟨by rw [tc_1]; omega, by omega, by omega, by omega, by omega⟩⟩⟩
              ·
                refine V_aload_n 0 d_Mod_sheet_47 rfl rfl ?_
                refine V_getR fa_Mod_50 sk_116 rfl d_Mod_sheet_48 ?_
                refine V_bipush 40 d_Mod_sheet_51 (by decide) ?_
                refine V_iload_n 1 d_Mod_sheet_53 rfl rfl ?_
                refine V_imul tc_40 (kE.trans c11) (by omega) d_Mod_sheet_54 (fun z33 z33e z33E => ?_)
                refine V_iload d_Mod_sheet_55 rfl ?_
                refine V_iadd z33E v20E (by omega) d_Mod_sheet_57 (fun z34 z34e z34E => ?_)
                refine V_iconst 0 d_Mod_sheet_58 (by decide) ?_
                refine N_iast sk_130 z34E (by omega) d_Mod_sheet_59 (fun h35 eh35 => ?_)
                have hI36 : Inv h35 := inv_full Ih21 eh35 rfl
                have f37 : fr S_Mod_sheetX h h35 := fr_put Fh21 eh35 rfl
                obtain ⟨z38, z38E, z38e⟩ : ∃ y : Int32, y.toInt = v20Z + 1 ∧ y = v20 + Int32.ofInt 1 := ⟨_, ti_add v20E (by decide) (by omega), rfl⟩
                refine V_iinc 4 [some (.ref 116), some (.int k), some (.int l), some (.int n), some (.int z38)] d_Mod_sheet_60 rfl z38e.symm (by decide) rfl rfl ?_
                refine V_goto 40 d_Mod_sheet_63 (by decide) ?_
                exact ihL18 z38 ((v20Z + 1)) h35 z38E hI36 f37 (kn_ne eh35 K22 (by decide)) (kn_ne eh35 K23 (by decide)) (kn_ne eh35 K24 (by decide)) (kn_ne eh35 K25 (by decide)) (kn_ne eh35 K26 (by decide)) (kn_ne eh35 K27 (by decide)) (kn_ne eh35 K28 (by decide)) (kn_ne eh35 K29 (by decide)) (by omega) (by omega)
          exact L18 (Int.toNat ((40 - 0 : Int) + 1)) 0 0 h15 tc_0 hI16 f17 (kn_ne eh15 (kn_put eh12) (by decide)) (kn_ne eh15 (kn_nei eh12 t1K (by decide)) (by decide)) (kn_ne eh15 (kn_nei eh12 t2K (by decide)) (by decide)) (kn_ne eh15 (kn_nei eh12 t3K (by decide)) (by decide)) (kn_put eh15) (kn_nei eh15 (kn_ne eh12 s1K (by decide)) (by decide)) (kn_nei eh15 (kn_ne eh12 s2K (by decide)) (by decide)) (kn_nei eh15 (kn_ne eh12 s3K (by decide)) (by decide)) (by omega) (by omega)
        ·
          refine V_aload_n 0 d_Mod_sheet_23 rfl rfl ?_
          refine V_getR fa_Mod_44 sk_116 rfl d_Mod_sheet_24 ?_
          refine V_iload_n 1 d_Mod_sheet_27 rfl rfl ?_
          refine V_iload_n 2 d_Mod_sheet_28 rfl rfl ?_
          refine N_iast sk_128 (kE.trans c11) (by omega) d_Mod_sheet_29 (fun h39 eh39 => ?_)
          have hI40 : Inv h39 := inv_full hI eh39 rfl
          have f41 : fr S_Mod_sheetX h h39 := fr_put f0 eh39 rfl
          refine V_aload_n 0 d_Mod_sheet_30 rfl rfl ?_
          refine V_getR fa_Mod_47 sk_116 rfl d_Mod_sheet_31 ?_
          refine V_iload_n 1 d_Mod_sheet_34 rfl rfl ?_
          refine V_iload_n 3 d_Mod_sheet_35 rfl rfl ?_
          refine N_iast sk_129 (kE.trans c11) (by omega) d_Mod_sheet_36 (fun h42 eh42 => ?_)
          have hI43 : Inv h42 := inv_put (lo := 0) (hi := 40) hI40 eh42 rfl nE (by omega)
          have f44 : fr S_Mod_sheetX h h42 := fr_put f41 eh42 rfl
          refine V_iconst 0 d_Mod_sheet_37 (by decide) ?_
          refine V_istore 4 [some (.ref 116), some (.int k), some (.int l), some (.int n), some (.int 0)] d_Mod_sheet_38 (by decide) rfl rfl ?_
          have L45 : ∀ (nn : Nat) (v47 : Int32) (v47Z : Int) (h48 : Hp), v47.toInt = v47Z → Inv h48 → fr S_Mod_sheetX h h48 → h48.1 128 0 = t0 → h48.1 128 1 = l → h48.1 128 2 = t2 → h48.1 128 3 = t3 → h48.1 129 0 = s0 → h48.1 129 1 = n → h48.1 129 2 = s2 → h48.1 129 3 = s3 → 0 ≤ v47Z ∧ v47Z ≤ 40 → 40 - v47Z < (nn : Int) → V R_Mod b_Mod_sheet 5 (some .int) 2 46 (q_Mod_sheetX h k kZ l lZ n nZ t0 t0Z t1 t1Z t2 t2Z t3 t3Z s0 s0Z s1 s1Z s2 s2Z s3 s3Z) h48 40 [some (.ref 116), some (.int k), some (.int l), some (.int n), some (.int v47)] [] := by
            intro nn
            induction nn with
            | zero => intro v47 v47Z h48 v47E Ih48 Fh48 K49 K50 K51 K52 K53 K54 K55 K56 q57 hm58; exact absurd hm58 (by omega)
            | succ nn ihL45 =>
              intro v47 v47Z h48 v47E Ih48 Fh48 K49 K50 K51 K52 K53 K54 K55 K56 q57 hm58
              refine V_iload d_Mod_sheet_40 rfl ?_
              refine V_bipush 40 d_Mod_sheet_42 (by decide) ?_
              refine V_icmp_ge 66 v47E tc_40 d_Mod_sheet_44 (by decide) (fun c59 => ?_) (fun c59 => ?_)
              ·
                refine V_iconst 1 d_Mod_sheet_66 (by decide) ?_
                exact V_iret rfl d_Mod_sheet_67 ⟨1, rfl, ⟨Ih48, Fh48, t0, t0Z, t0E, K49, l, lZ, lE, K50, t2, t2Z, t2E, K51, t3, t3Z, t3E, K52, s0, s0Z, s0E, K53, n, nZ, nE, K54, s2, s2Z, s2E, K55, s3, s3Z, s3E, K56, ⟨by rw [tc_1]; omega, by omega, by omega, by omega, by omega⟩⟩⟩
              ·
                refine V_aload_n 0 d_Mod_sheet_47 rfl rfl ?_
                refine V_getR fa_Mod_50 sk_116 rfl d_Mod_sheet_48 ?_
                refine V_bipush 40 d_Mod_sheet_51 (by decide) ?_
                refine V_iload_n 1 d_Mod_sheet_53 rfl rfl ?_
                refine V_imul tc_40 (kE.trans c11) (by omega) d_Mod_sheet_54 (fun z60 z60e z60E => ?_)
                refine V_iload d_Mod_sheet_55 rfl ?_
                refine V_iadd z60E v47E (by omega) d_Mod_sheet_57 (fun z61 z61e z61E => ?_)
                refine V_iconst 0 d_Mod_sheet_58 (by decide) ?_
                refine N_iast sk_130 z61E (by omega) d_Mod_sheet_59 (fun h62 eh62 => ?_)
                have hI63 : Inv h62 := inv_full Ih48 eh62 rfl
                have f64 : fr S_Mod_sheetX h h62 := fr_put Fh48 eh62 rfl
                obtain ⟨z65, z65E, z65e⟩ : ∃ y : Int32, y.toInt = v47Z + 1 ∧ y = v47 + Int32.ofInt 1 := ⟨_, ti_add v47E (by decide) (by omega), rfl⟩
                refine V_iinc 4 [some (.ref 116), some (.int k), some (.int l), some (.int n), some (.int z65)] d_Mod_sheet_60 rfl z65e.symm (by decide) rfl rfl ?_
                refine V_goto 40 d_Mod_sheet_63 (by decide) ?_
                exact ihL45 z65 ((v47Z + 1)) h62 z65E hI63 f64 (kn_ne eh62 K49 (by decide)) (kn_ne eh62 K50 (by decide)) (kn_ne eh62 K51 (by decide)) (kn_ne eh62 K52 (by decide)) (kn_ne eh62 K53 (by decide)) (kn_ne eh62 K54 (by decide)) (kn_ne eh62 K55 (by decide)) (kn_ne eh62 K56 (by decide)) (by omega) (by omega)
          exact L45 (Int.toNat ((40 - 0 : Int) + 1)) 0 0 h42 tc_0 hI43 f44 (kn_ne eh42 (kn_nei eh39 t0K (by decide)) (by decide)) (kn_ne eh42 (kn_put eh39) (by decide)) (kn_ne eh42 (kn_nei eh39 t2K (by decide)) (by decide)) (kn_ne eh42 (kn_nei eh39 t3K (by decide)) (by decide)) (kn_nei eh42 (kn_ne eh39 s0K (by decide)) (by decide)) (kn_put eh42) (kn_nei eh42 (kn_ne eh39 s2K (by decide)) (by decide)) (kn_nei eh42 (kn_ne eh39 s3K (by decide)) (by decide)) (by omega) (by omega)
        ·
          refine V_aload_n 0 d_Mod_sheet_23 rfl rfl ?_
          refine V_getR fa_Mod_44 sk_116 rfl d_Mod_sheet_24 ?_
          refine V_iload_n 1 d_Mod_sheet_27 rfl rfl ?_
          refine V_iload_n 2 d_Mod_sheet_28 rfl rfl ?_
          refine N_iast sk_128 (kE.trans c11) (by omega) d_Mod_sheet_29 (fun h66 eh66 => ?_)
          have hI67 : Inv h66 := inv_full hI eh66 rfl
          have f68 : fr S_Mod_sheetX h h66 := fr_put f0 eh66 rfl
          refine V_aload_n 0 d_Mod_sheet_30 rfl rfl ?_
          refine V_getR fa_Mod_47 sk_116 rfl d_Mod_sheet_31 ?_
          refine V_iload_n 1 d_Mod_sheet_34 rfl rfl ?_
          refine V_iload_n 3 d_Mod_sheet_35 rfl rfl ?_
          refine N_iast sk_129 (kE.trans c11) (by omega) d_Mod_sheet_36 (fun h69 eh69 => ?_)
          have hI70 : Inv h69 := inv_put (lo := 0) (hi := 40) hI67 eh69 rfl nE (by omega)
          have f71 : fr S_Mod_sheetX h h69 := fr_put f68 eh69 rfl
          refine V_iconst 0 d_Mod_sheet_37 (by decide) ?_
          refine V_istore 4 [some (.ref 116), some (.int k), some (.int l), some (.int n), some (.int 0)] d_Mod_sheet_38 (by decide) rfl rfl ?_
          have L72 : ∀ (nn : Nat) (v74 : Int32) (v74Z : Int) (h75 : Hp), v74.toInt = v74Z → Inv h75 → fr S_Mod_sheetX h h75 → h75.1 128 0 = t0 → h75.1 128 1 = t1 → h75.1 128 2 = l → h75.1 128 3 = t3 → h75.1 129 0 = s0 → h75.1 129 1 = s1 → h75.1 129 2 = n → h75.1 129 3 = s3 → 0 ≤ v74Z ∧ v74Z ≤ 40 → 40 - v74Z < (nn : Int) → V R_Mod b_Mod_sheet 5 (some .int) 2 46 (q_Mod_sheetX h k kZ l lZ n nZ t0 t0Z t1 t1Z t2 t2Z t3 t3Z s0 s0Z s1 s1Z s2 s2Z s3 s3Z) h75 40 [some (.ref 116), some (.int k), some (.int l), some (.int n), some (.int v74)] [] := by
            intro nn
            induction nn with
            | zero => intro v74 v74Z h75 v74E Ih75 Fh75 K76 K77 K78 K79 K80 K81 K82 K83 q84 hm85; exact absurd hm85 (by omega)
            | succ nn ihL72 =>
              intro v74 v74Z h75 v74E Ih75 Fh75 K76 K77 K78 K79 K80 K81 K82 K83 q84 hm85
              refine V_iload d_Mod_sheet_40 rfl ?_
              refine V_bipush 40 d_Mod_sheet_42 (by decide) ?_
              refine V_icmp_ge 66 v74E tc_40 d_Mod_sheet_44 (by decide) (fun c86 => ?_) (fun c86 => ?_)
              ·
                refine V_iconst 1 d_Mod_sheet_66 (by decide) ?_
                exact V_iret rfl d_Mod_sheet_67 ⟨1, rfl, ⟨Ih75, Fh75, t0, t0Z, t0E, K76, t1, t1Z, t1E, K77, l, lZ, lE, K78, t3, t3Z, t3E, K79, s0, s0Z, s0E, K80, s1, s1Z, s1E, K81, n, nZ, nE, K82, s3, s3Z, s3E, K83, ⟨by rw [tc_1]; omega, by omega, by omega, by omega, by omega⟩⟩⟩
              ·
                refine V_aload_n 0 d_Mod_sheet_47 rfl rfl ?_
                refine V_getR fa_Mod_50 sk_116 rfl d_Mod_sheet_48 ?_
                refine V_bipush 40 d_Mod_sheet_51 (by decide) ?_
                refine V_iload_n 1 d_Mod_sheet_53 rfl rfl ?_
                refine V_imul tc_40 (kE.trans c11) (by omega) d_Mod_sheet_54 (fun z87 z87e z87E => ?_)
                refine V_iload d_Mod_sheet_55 rfl ?_
                refine V_iadd z87E v74E (by omega) d_Mod_sheet_57 (fun z88 z88e z88E => ?_)
                refine V_iconst 0 d_Mod_sheet_58 (by decide) ?_
                refine N_iast sk_130 z88E (by omega) d_Mod_sheet_59 (fun h89 eh89 => ?_)
                have hI90 : Inv h89 := inv_full Ih75 eh89 rfl
                have f91 : fr S_Mod_sheetX h h89 := fr_put Fh75 eh89 rfl
                obtain ⟨z92, z92E, z92e⟩ : ∃ y : Int32, y.toInt = v74Z + 1 ∧ y = v74 + Int32.ofInt 1 := ⟨_, ti_add v74E (by decide) (by omega), rfl⟩
                refine V_iinc 4 [some (.ref 116), some (.int k), some (.int l), some (.int n), some (.int z92)] d_Mod_sheet_60 rfl z92e.symm (by decide) rfl rfl ?_
                refine V_goto 40 d_Mod_sheet_63 (by decide) ?_
                exact ihL72 z92 ((v74Z + 1)) h89 z92E hI90 f91 (kn_ne eh89 K76 (by decide)) (kn_ne eh89 K77 (by decide)) (kn_ne eh89 K78 (by decide)) (kn_ne eh89 K79 (by decide)) (kn_ne eh89 K80 (by decide)) (kn_ne eh89 K81 (by decide)) (kn_ne eh89 K82 (by decide)) (kn_ne eh89 K83 (by decide)) (by omega) (by omega)
          exact L72 (Int.toNat ((40 - 0 : Int) + 1)) 0 0 h69 tc_0 hI70 f71 (kn_ne eh69 (kn_nei eh66 t0K (by decide)) (by decide)) (kn_ne eh69 (kn_nei eh66 t1K (by decide)) (by decide)) (kn_ne eh69 (kn_put eh66) (by decide)) (kn_ne eh69 (kn_nei eh66 t3K (by decide)) (by decide)) (kn_nei eh69 (kn_ne eh66 s0K (by decide)) (by decide)) (kn_nei eh69 (kn_ne eh66 s1K (by decide)) (by decide)) (kn_put eh69) (kn_nei eh69 (kn_ne eh66 s3K (by decide)) (by decide)) (by omega) (by omega)
        ·
          refine V_aload_n 0 d_Mod_sheet_23 rfl rfl ?_
          refine V_getR fa_Mod_44 sk_116 rfl d_Mod_sheet_24 ?_
          refine V_iload_n 1 d_Mod_sheet_27 rfl rfl ?_
          refine V_iload_n 2 d_Mod_sheet_28 rfl rfl ?_
          refine N_iast sk_128 (kE.trans c11) (by omega) d_Mod_sheet_29 (fun h93 eh93 => ?_)
          have hI94 : Inv h93 := inv_full hI eh93 rfl
          have f95 : fr S_Mod_sheetX h h93 := fr_put f0 eh93 rfl
          refine V_aload_n 0 d_Mod_sheet_30 rfl rfl ?_
          refine V_getR fa_Mod_47 sk_116 rfl d_Mod_sheet_31 ?_
          refine V_iload_n 1 d_Mod_sheet_34 rfl rfl ?_
          refine V_iload_n 3 d_Mod_sheet_35 rfl rfl ?_
          refine N_iast sk_129 (kE.trans c11) (by omega) d_Mod_sheet_36 (fun h96 eh96 => ?_)
          have hI97 : Inv h96 := inv_put (lo := 0) (hi := 40) hI94 eh96 rfl nE (by omega)
          have f98 : fr S_Mod_sheetX h h96 := fr_put f95 eh96 rfl
          refine V_iconst 0 d_Mod_sheet_37 (by decide) ?_
          refine V_istore 4 [some (.ref 116), some (.int k), some (.int l), some (.int n), some (.int 0)] d_Mod_sheet_38 (by decide) rfl rfl ?_
          have L99 : ∀ (nn : Nat) (v101 : Int32) (v101Z : Int) (h102 : Hp), v101.toInt = v101Z → Inv h102 → fr S_Mod_sheetX h h102 → h102.1 128 0 = t0 → h102.1 128 1 = t1 → h102.1 128 2 = t2 → h102.1 128 3 = l → h102.1 129 0 = s0 → h102.1 129 1 = s1 → h102.1 129 2 = s2 → h102.1 129 3 = n → 0 ≤ v101Z ∧ v101Z ≤ 40 → 40 - v101Z < (nn : Int) → V R_Mod b_Mod_sheet 5 (some .int) 2 46 (q_Mod_sheetX h k kZ l lZ n nZ t0 t0Z t1 t1Z t2 t2Z t3 t3Z s0 s0Z s1 s1Z s2 s2Z s3 s3Z) h102 40 [some (.ref 116), some (.int k), some (.int l), some (.int n), some (.int v101)] [] := by
            intro nn
            induction nn with
            | zero => intro v101 v101Z h102 v101E Ih102 Fh102 K103 K104 K105 K106 K107 K108 K109 K110 q111 hm112; exact absurd hm112 (by omega)
            | succ nn ihL99 =>
              intro v101 v101Z h102 v101E Ih102 Fh102 K103 K104 K105 K106 K107 K108 K109 K110 q111 hm112
              refine V_iload d_Mod_sheet_40 rfl ?_
              refine V_bipush 40 d_Mod_sheet_42 (by decide) ?_
              refine V_icmp_ge 66 v101E tc_40 d_Mod_sheet_44 (by decide) (fun c113 => ?_) (fun c113 => ?_)
              ·
                refine V_iconst 1 d_Mod_sheet_66 (by decide) ?_
                exact V_iret rfl d_Mod_sheet_67 ⟨1, rfl, ⟨Ih102, Fh102, t0, t0Z, t0E, K103, t1, t1Z, t1E, K104, t2, t2Z, t2E, K105, l, lZ, lE, K106, s0, s0Z, s0E, K107, s1, s1Z, s1E, K108, s2, s2Z, s2E, K109, n, nZ, nE, K110, ⟨by rw [tc_1]; omega, by omega, by omega, by omega, by omega⟩⟩⟩
              ·
                refine V_aload_n 0 d_Mod_sheet_47 rfl rfl ?_
                refine V_getR fa_Mod_50 sk_116 rfl d_Mod_sheet_48 ?_
                refine V_bipush 40 d_Mod_sheet_51 (by decide) ?_
                refine V_iload_n 1 d_Mod_sheet_53 rfl rfl ?_
                refine V_imul tc_40 (kE.trans c11) (by omega) d_Mod_sheet_54 (fun z114 z114e z114E => ?_)
                refine V_iload d_Mod_sheet_55 rfl ?_
                refine V_iadd z114E v101E (by omega) d_Mod_sheet_57 (fun z115 z115e z115E => ?_)
                refine V_iconst 0 d_Mod_sheet_58 (by decide) ?_
                refine N_iast sk_130 z115E (by omega) d_Mod_sheet_59 (fun h116 eh116 => ?_)
                have hI117 : Inv h116 := inv_full Ih102 eh116 rfl
                have f118 : fr S_Mod_sheetX h h116 := fr_put Fh102 eh116 rfl
                obtain ⟨z119, z119E, z119e⟩ : ∃ y : Int32, y.toInt = v101Z + 1 ∧ y = v101 + Int32.ofInt 1 := ⟨_, ti_add v101E (by decide) (by omega), rfl⟩
                refine V_iinc 4 [some (.ref 116), some (.int k), some (.int l), some (.int n), some (.int z119)] d_Mod_sheet_60 rfl z119e.symm (by decide) rfl rfl ?_
                refine V_goto 40 d_Mod_sheet_63 (by decide) ?_
                exact ihL99 z119 ((v101Z + 1)) h116 z119E hI117 f118 (kn_ne eh116 K103 (by decide)) (kn_ne eh116 K104 (by decide)) (kn_ne eh116 K105 (by decide)) (kn_ne eh116 K106 (by decide)) (kn_ne eh116 K107 (by decide)) (kn_ne eh116 K108 (by decide)) (kn_ne eh116 K109 (by decide)) (kn_ne eh116 K110 (by decide)) (by omega) (by omega)
          exact L99 (Int.toNat ((40 - 0 : Int) + 1)) 0 0 h96 tc_0 hI97 f98 (kn_ne eh96 (kn_nei eh93 t0K (by decide)) (by decide)) (kn_ne eh96 (kn_nei eh93 t1K (by decide)) (by decide)) (kn_ne eh96 (kn_nei eh93 t2K (by decide)) (by decide)) (kn_ne eh96 (kn_put eh93) (by decide)) (kn_nei eh96 (kn_ne eh93 s0K (by decide)) (by decide)) (kn_nei eh96 (kn_ne eh93 s1K (by decide)) (by decide)) (kn_nei eh96 (kn_ne eh93 s2K (by decide)) (by decide)) (kn_put eh96) (by omega) (by omega)
      ·
        refine V_bipush (-14) d_Mod_sheet_20 (by decide) ?_
        exact V_iret rfl d_Mod_sheet_22 ⟨(-14), rfl, ⟨hI, f0, t0, t0Z, t0E, t0K, t1, t1Z, t1E, t1K, t2, t2Z, t2E, t2K, t3, t3Z, t3E, t3K, s0, s0Z, s0E, s0K, s1, s1Z, s1E, s1K, s2, s2Z, s2E, s2K, s3, s3Z, s3E, s3K, ⟨by rw [tc_m14]; omega, by omega, by omega, by omega, by omega⟩⟩⟩
    ·
      refine V_iconst (-1) d_Mod_sheet_14 (by decide) ?_
      exact V_iret rfl d_Mod_sheet_15 ⟨(-1), rfl, ⟨hI, f0, t0, t0Z, t0E, t0K, t1, t1Z, t1E, t1K, t2, t2Z, t2E, t2K, t3, t3Z, t3E, t3K, s0, s0Z, s0E, s0K, s1, s1Z, s1E, s1K, s2, s2Z, s2E, s2K, s3, s3Z, s3E, s3K, ⟨by rw [tc_m1]; omega, by omega, by omega, by omega, by omega⟩⟩⟩
def S_Mod_layX : List (Nat × Option Nat) := [(130, none)]
abbrev q_Mod_layX (h : Hp) (k : Int32) (kZ : Int) (i : Int32) (iZ : Int) (v : Int32) (vZ : Int) (t0 : Int32) (t0Z : Int) (t1 : Int32) (t1Z : Int) (t2 : Int32) (t2Z : Int) (t3 : Int32) (t3Z : Int) (s0 : Int32) (s0Z : Int) (s1 : Int32) (s1Z : Int) (s2 : Int32) (s2Z : Int) (s3 : Int32) (s3Z : Int) : Option Value → Hp → Prop := pInt (fun r h' => Inv h' ∧ fr S_Mod_layX h h' ∧ ((kZ < 0 ∨ 3 < kZ) ∧ r.toInt = -1 ∨ kZ = 0 ∧ (t0Z = -4 ∧ r.toInt = -11 ∨ t0Z ≠ -4 ∧ (iZ < 0 ∨ s0Z ≤ iZ) ∧ r.toInt = -12 ∨ t0Z ≠ -4 ∧ 0 ≤ iZ ∧ iZ < s0Z ∧ r.toInt = 1) ∨ kZ = 1 ∧ (t1Z = -4 ∧ r.toInt = -11 ∨ t1Z ≠ -4 ∧ (iZ < 0 ∨ s1Z ≤ iZ) ∧ r.toInt = -12 ∨ t1Z ≠ -4 ∧ 0 ≤ iZ ∧ iZ < s1Z ∧ r.toInt = 1) ∨ kZ = 2 ∧ (t2Z = -4 ∧ r.toInt = -11 ∨ t2Z ≠ -4 ∧ (iZ < 0 ∨ s2Z ≤ iZ) ∧ r.toInt = -12 ∨ t2Z ≠ -4 ∧ 0 ≤ iZ ∧ iZ < s2Z ∧ r.toInt = 1) ∨ kZ = 3 ∧ (t3Z = -4 ∧ r.toInt = -11 ∨ t3Z ≠ -4 ∧ (iZ < 0 ∨ s3Z ≤ iZ) ∧ r.toInt = -12 ∨ t3Z ≠ -4 ∧ 0 ≤ iZ ∧ iZ < s3Z ∧ r.toInt = 1)))
set_option maxRecDepth 100000 in
theorem c_Mod_layX (h : Hp) (hI : Inv h) (k : Int32) (kZ : Int) (kE : k.toInt = kZ) (i : Int32) (iZ : Int) (iE : i.toInt = iZ) (v : Int32) (vZ : Int) (vE : v.toInt = vZ) (t0 : Int32) (t0Z : Int) (t0E : t0.toInt = t0Z) (t0K : h.1 128 0 = t0) (t1 : Int32) (t1Z : Int) (t1E : t1.toInt = t1Z) (t1K : h.1 128 1 = t1) (t2 : Int32) (t2Z : Int) (t2E : t2.toInt = t2Z) (t2K : h.1 128 2 = t2) (t3 : Int32) (t3Z : Int) (t3E : t3.toInt = t3Z) (t3K : h.1 128 3 = t3) (s0 : Int32) (s0Z : Int) (s0E : s0.toInt = s0Z) (s0K : h.1 129 0 = s0) (s1 : Int32) (s1Z : Int) (s1E : s1.toInt = s1Z) (s1K : h.1 129 1 = s1) (s2 : Int32) (s2Z : Int) (s2E : s2.toInt = s2Z) (s2K : h.1 129 2 = s2) (s3 : Int32) (s3Z : Int) (s3E : s3.toInt = s3Z) (s3K : h.1 129 3 = s3) : Ct y_Mod_lay b_Mod_lay 4 (some .int) 2 46 [.ref 116, .int k, .int i, .int v] h (q_Mod_layX h k kZ i iZ v vZ t0 t0Z t1 t1Z t2 t2Z t3 t3Z s0 s0Z s1 s1Z s2 s2Z s3 s3Z) := by
  refine ct_ow R_Mod [some (.ref 116), some (.int k), some (.int i), some (.int v)] rfl (by decide) rfl (Nat.le_of_ble_eq_true rfl) ?_
  have f0 : fr S_Mod_layX h h := fr_rf
  have g1 : 0 ≤ s0Z ∧ s0Z ≤ 40 := inv_at hI s0E s0K.symm rfl
  have g2 : 0 ≤ s1Z ∧ s1Z ≤ 40 := inv_at hI s1E s1K.symm rfl
  have g3 : 0 ≤ s2Z ∧ s2Z ≤ 40 := inv_at hI s2E s2K.symm rfl
  have g4 : 0 ≤ s3Z ∧ s3Z ≤ 40 := inv_at hI s3E s3K.symm rfl
  refine V_iload_n 1 d_Mod_lay_0 rfl rfl ?_
  refine V_iconst 0 d_Mod_lay_1 (by decide) ?_
  refine N_callSI [.int k, .int 0] [] cs_Mod_322 d_Mod_lay_2 rfl (Nat.le_of_ble_eq_true rfl) (by decide) (by decide) (c_Mod_isSheet h k kZ kE 0 0 tc_0) (fun z5 h6 z5Z z5E p7 => ?_)
  obtain ⟨eh6, p7⟩ := p7
  subst eh6
  refine V_if_ne 10 z5E d_Mod_lay_5 (by decide) (fun c8 => ?_) (fun c8 => ?_)
  ·
    rcases (by omega : kZ = 0 ∨ kZ = 1 ∨ kZ = 2 ∨ kZ = 3) with c9 | c9 | c9 | c9
    ·
      refine V_aload_n 0 d_Mod_lay_10 rfl rfl ?_
      refine V_getR fa_Mod_44 sk_116 rfl d_Mod_lay_11 ?_
      refine V_iload_n 1 d_Mod_lay_14 rfl rfl ?_
      refine N_ialdK sk_128 (kE.trans c9) (by omega) d_Mod_lay_15 t0K ?_
      refine V_bipush (-4) d_Mod_lay_16 (by decide) ?_
      refine V_icmp_ne 24 t0E tc_m4 d_Mod_lay_18 (by decide) (fun c11 => ?_) (fun c11 => ?_)
      ·
        refine V_iload_n 2 d_Mod_lay_24 rfl rfl ?_
        refine V_i2l d_Mod_lay_25 (fun z12 z12e z12E => ?_)
        have z12F : z12.toInt = iZ := z12E.trans iE
        refine V_lconst 0 d_Mod_lay_26 (by decide) ?_
        refine V_aload_n 0 d_Mod_lay_27 rfl rfl ?_
        refine V_getR fa_Mod_47 sk_116 rfl d_Mod_lay_28 ?_
        refine V_iload_n 1 d_Mod_lay_31 rfl rfl ?_
        refine N_ialdK sk_129 (kE.trans c9) (by omega) d_Mod_lay_32 s0K ?_
        refine V_iconst 1 d_Mod_lay_33 (by decide) ?_
        refine V_isub s0E tc_1 (by omega) d_Mod_lay_34 (fun z14 z14e z14E => ?_)
        refine V_i2l d_Mod_lay_35 (fun z15 z15e z15E => ?_)
        have z15F : z15.toInt = (s0Z - 1) := z15E.trans z14E
        refine N_callSI [.long z12, .long 0, .long z15] [] cs_Mod_95 d_Mod_lay_36 rfl (Nat.le_of_ble_eq_true rfl) (by decide) (by decide) (c_Mod_in h z12 iZ z12F 0 0 tl_0 z15 ((s0Z - 1)) z15F) (fun z16 h17 z16Z z16E p18 => ?_)
        obtain ⟨eh17, p18⟩ := p18
        subst eh17
        refine V_if_ne 45 z16E d_Mod_lay_39 (by decide) (fun c19 => ?_) (fun c19 => ?_)
        ·
          refine V_aload_n 0 d_Mod_lay_45 rfl rfl ?_
          refine V_getR fa_Mod_50 sk_116 rfl d_Mod_lay_46 ?_
          refine V_bipush 40 d_Mod_lay_49 (by decide) ?_
          refine V_iload_n 1 d_Mod_lay_51 rfl rfl ?_
          refine V_imul tc_40 (kE.trans c9) (by omega) d_Mod_lay_52 (fun z20 z20e z20E => ?_)
          refine V_iload_n 2 d_Mod_lay_53 rfl rfl ?_
          refine V_iadd z20E iE (by omega) d_Mod_lay_54 (fun z21 z21e z21E => ?_)
          refine V_aload_n 0 d_Mod_lay_55 rfl rfl ?_
          refine V_getR fa_Mod_44 sk_116 rfl d_Mod_lay_56 ?_
          refine V_iload_n 1 d_Mod_lay_59 rfl rfl ?_
          refine N_ialdK sk_128 (kE.trans c9) (by omega) d_Mod_lay_60 t0K ?_
          refine V_if_ne 69 t0E d_Mod_lay_61 (by decide) (fun c23 => ?_) (fun c23 => ?_)
          ·
            refine V_aload_n 0 d_Mod_lay_69 rfl rfl ?_
            refine V_getR fa_Mod_44 sk_116 rfl d_Mod_lay_70 ?_
            refine V_iload_n 1 d_Mod_lay_73 rfl rfl ?_
            refine N_ialdK sk_128 (kE.trans c9) (by omega) d_Mod_lay_74 t0K ?_
            refine V_iconst 1 d_Mod_lay_75 (by decide) ?_
            refine V_icmp_ne 84 t0E tc_1 d_Mod_lay_76 (by decide) (fun c25 => ?_) (fun c25 => ?_)
            ·
              refine V_iload_n 3 d_Mod_lay_84 rfl rfl ?_
              refine N_iast sk_130 z21E (by omega) d_Mod_lay_85 (fun h26 eh26 => ?_)
              have hI27 : Inv h26 := inv_full hI eh26 rfl
              have f28 : fr S_Mod_layX h h26 := fr_put f0 eh26 rfl
              refine V_iconst 1 d_Mod_lay_86 (by decide) ?_
              exact V_iret rfl d_Mod_lay_87 ⟨1, rfl, ⟨hI27, f28, (Or.inr (Or.inl (⟨by omega, (Or.inr (Or.inr (⟨by omega, by omega, by omega, tc_1⟩)))⟩)))⟩⟩
            ·
              refine V_iload_n 3 d_Mod_lay_79 rfl rfl ?_
              refine N_i2s d_Mod_lay_80 (fun z29 z29Z z29E z29e => ?_)
              refine V_goto 85 d_Mod_lay_81 (by decide) ?_
              refine N_iast sk_130 z21E (by omega) d_Mod_lay_85 (fun h30 eh30 => ?_)
              have hI31 : Inv h30 := inv_full hI eh30 rfl
              have f32 : fr S_Mod_layX h h30 := fr_put f0 eh30 rfl
              refine V_iconst 1 d_Mod_lay_86 (by decide) ?_
              exact V_iret rfl d_Mod_lay_87 ⟨1, rfl, ⟨hI31, f32, (Or.inr (Or.inl (⟨by omega, (Or.inr (Or.inr (⟨by omega, by omega, by omega, tc_1⟩)))⟩)))⟩⟩
          ·
            refine V_iload_n 3 d_Mod_lay_64 rfl rfl ?_
            refine N_i2b d_Mod_lay_65 (fun z33 z33Z z33E z33e => ?_)
            refine V_goto 85 d_Mod_lay_66 (by decide) ?_
            refine N_iast sk_130 z21E (by omega) d_Mod_lay_85 (fun h34 eh34 => ?_)
            have hI35 : Inv h34 := inv_full hI eh34 rfl
            have f36 : fr S_Mod_layX h h34 := fr_put f0 eh34 rfl
            refine V_iconst 1 d_Mod_lay_86 (by decide) ?_
            exact V_iret rfl d_Mod_lay_87 ⟨1, rfl, ⟨hI35, f36, (Or.inr (Or.inl (⟨by omega, (Or.inr (Or.inr (⟨by omega, by omega, by omega, tc_1⟩)))⟩)))⟩⟩
        ·
          refine V_bipush (-12) d_Mod_lay_42 (by decide) ?_
          exact V_iret rfl d_Mod_lay_44 ⟨(-12), rfl, ⟨hI, f0, (Or.inr (Or.inl (⟨by omega, (Or.inr (Or.inl (⟨by omega, by omega, tc_m12⟩)))⟩)))⟩⟩
      ·
        refine V_bipush (-11) d_Mod_lay_21 (by decide) ?_
        exact V_iret rfl d_Mod_lay_23 ⟨(-11), rfl, ⟨hI, f0, (Or.inr (Or.inl (⟨by omega, (Or.inl (⟨by omega, tc_m11⟩))⟩)))⟩⟩
    ·
      refine V_aload_n 0 d_Mod_lay_10 rfl rfl ?_
      refine V_getR fa_Mod_44 sk_116 rfl d_Mod_lay_11 ?_
      refine V_iload_n 1 d_Mod_lay_14 rfl rfl ?_
      refine N_ialdK sk_128 (kE.trans c9) (by omega) d_Mod_lay_15 t1K ?_
      refine V_bipush (-4) d_Mod_lay_16 (by decide) ?_
      refine V_icmp_ne 24 t1E tc_m4 d_Mod_lay_18 (by decide) (fun c38 => ?_) (fun c38 => ?_)
      ·
        refine V_iload_n 2 d_Mod_lay_24 rfl rfl ?_
        refine V_i2l d_Mod_lay_25 (fun z39 z39e z39E => ?_)
        have z39F : z39.toInt = iZ := z39E.trans iE
        refine V_lconst 0 d_Mod_lay_26 (by decide) ?_
        refine V_aload_n 0 d_Mod_lay_27 rfl rfl ?_
        refine V_getR fa_Mod_47 sk_116 rfl d_Mod_lay_28 ?_
        refine V_iload_n 1 d_Mod_lay_31 rfl rfl ?_
        refine N_ialdK sk_129 (kE.trans c9) (by omega) d_Mod_lay_32 s1K ?_
        refine V_iconst 1 d_Mod_lay_33 (by decide) ?_
        refine V_isub s1E tc_1 (by omega) d_Mod_lay_34 (fun z41 z41e z41E => ?_)
        refine V_i2l d_Mod_lay_35 (fun z42 z42e z42E => ?_)
        have z42F : z42.toInt = (s1Z - 1) := z42E.trans z41E
        refine N_callSI [.long z39, .long 0, .long z42] [] cs_Mod_95 d_Mod_lay_36 rfl (Nat.le_of_ble_eq_true rfl) (by decide) (by decide) (c_Mod_in h z39 iZ z39F 0 0 tl_0 z42 ((s1Z - 1)) z42F) (fun z43 h44 z43Z z43E p45 => ?_)
        obtain ⟨eh44, p45⟩ := p45
        subst eh44
        refine V_if_ne 45 z43E d_Mod_lay_39 (by decide) (fun c46 => ?_) (fun c46 => ?_)
        ·
          refine V_aload_n 0 d_Mod_lay_45 rfl rfl ?_
          refine V_getR fa_Mod_50 sk_116 rfl d_Mod_lay_46 ?_
          refine V_bipush 40 d_Mod_lay_49 (by decide) ?_
          refine V_iload_n 1 d_Mod_lay_51 rfl rfl ?_
          refine V_imul tc_40 (kE.trans c9) (by omega) d_Mod_lay_52 (fun z47 z47e z47E => ?_)
          refine V_iload_n 2 d_Mod_lay_53 rfl rfl ?_
          refine V_iadd z47E iE (by omega) d_Mod_lay_54 (fun z48 z48e z48E => ?_)
          refine V_aload_n 0 d_Mod_lay_55 rfl rfl ?_
          refine V_getR fa_Mod_44 sk_116 rfl d_Mod_lay_56 ?_
          refine V_iload_n 1 d_Mod_lay_59 rfl rfl ?_
          refine N_ialdK sk_128 (kE.trans c9) (by omega) d_Mod_lay_60 t1K ?_
          refine V_if_ne 69 t1E d_Mod_lay_61 (by decide) (fun c50 => ?_) (fun c50 => ?_)
          ·
            refine V_aload_n 0 d_Mod_lay_69 rfl rfl ?_
            refine V_getR fa_Mod_44 sk_116 rfl d_Mod_lay_70 ?_
            refine V_iload_n 1 d_Mod_lay_73 rfl rfl ?_
            refine N_ialdK sk_128 (kE.trans c9) (by omega) d_Mod_lay_74 t1K ?_
            refine V_iconst 1 d_Mod_lay_75 (by decide) ?_
            refine V_icmp_ne 84 t1E tc_1 d_Mod_lay_76 (by decide) (fun c52 => ?_) (fun c52 => ?_)
            ·
              refine V_iload_n 3 d_Mod_lay_84 rfl rfl ?_
              refine N_iast sk_130 z48E (by omega) d_Mod_lay_85 (fun h53 eh53 => ?_)
              have hI54 : Inv h53 := inv_full hI eh53 rfl
              have f55 : fr S_Mod_layX h h53 := fr_put f0 eh53 rfl
              refine V_iconst 1 d_Mod_lay_86 (by decide) ?_
              exact V_iret rfl d_Mod_lay_87 ⟨1, rfl, ⟨hI54, f55, (Or.inr (Or.inr (Or.inl (⟨by omega, (Or.inr (Or.inr (⟨by omega, by omega, by omega, tc_1⟩)))⟩))))⟩⟩
            ·
              refine V_iload_n 3 d_Mod_lay_79 rfl rfl ?_
              refine N_i2s d_Mod_lay_80 (fun z56 z56Z z56E z56e => ?_)
              refine V_goto 85 d_Mod_lay_81 (by decide) ?_
              refine N_iast sk_130 z48E (by omega) d_Mod_lay_85 (fun h57 eh57 => ?_)
              have hI58 : Inv h57 := inv_full hI eh57 rfl
              have f59 : fr S_Mod_layX h h57 := fr_put f0 eh57 rfl
              refine V_iconst 1 d_Mod_lay_86 (by decide) ?_
              exact V_iret rfl d_Mod_lay_87 ⟨1, rfl, ⟨hI58, f59, (Or.inr (Or.inr (Or.inl (⟨by omega, (Or.inr (Or.inr (⟨by omega, by omega, by omega, tc_1⟩)))⟩))))⟩⟩
          ·
            refine V_iload_n 3 d_Mod_lay_64 rfl rfl ?_
            refine N_i2b d_Mod_lay_65 (fun z60 z60Z z60E z60e => ?_)
            refine V_goto 85 d_Mod_lay_66 (by decide) ?_
            refine N_iast sk_130 z48E (by omega) d_Mod_lay_85 (fun h61 eh61 => ?_)
            have hI62 : Inv h61 := inv_full hI eh61 rfl
            have f63 : fr S_Mod_layX h h61 := fr_put f0 eh61 rfl
            refine V_iconst 1 d_Mod_lay_86 (by decide) ?_
            exact V_iret rfl d_Mod_lay_87 ⟨1, rfl, ⟨hI62, f63, (Or.inr (Or.inr (Or.inl (⟨by omega, (Or.inr (Or.inr (⟨by omega, by omega, by omega, tc_1⟩)))⟩))))⟩⟩
        ·
          refine V_bipush (-12) d_Mod_lay_42 (by decide) ?_
          exact V_iret rfl d_Mod_lay_44 ⟨(-12), rfl, ⟨hI, f0, (Or.inr (Or.inr (Or.inl (⟨by omega, (Or.inr (Or.inl (⟨by omega, by omega, tc_m12⟩)))⟩))))⟩⟩
      ·
        refine V_bipush (-11) d_Mod_lay_21 (by decide) ?_
        exact V_iret rfl d_Mod_lay_23 ⟨(-11), rfl, ⟨hI, f0, (Or.inr (Or.inr (Or.inl (⟨by omega, (Or.inl (⟨by omega, tc_m11⟩))⟩))))⟩⟩
    ·
      refine V_aload_n 0 d_Mod_lay_10 rfl rfl ?_
      refine V_getR fa_Mod_44 sk_116 rfl d_Mod_lay_11 ?_
      refine V_iload_n 1 d_Mod_lay_14 rfl rfl ?_
      refine N_ialdK sk_128 (kE.trans c9) (by omega) d_Mod_lay_15 t2K ?_
      refine V_bipush (-4) d_Mod_lay_16 (by decide) ?_
      refine V_icmp_ne 24 t2E tc_m4 d_Mod_lay_18 (by decide) (fun c65 => ?_) (fun c65 => ?_)
      ·
        refine V_iload_n 2 d_Mod_lay_24 rfl rfl ?_
        refine V_i2l d_Mod_lay_25 (fun z66 z66e z66E => ?_)
        have z66F : z66.toInt = iZ := z66E.trans iE
        refine V_lconst 0 d_Mod_lay_26 (by decide) ?_
        refine V_aload_n 0 d_Mod_lay_27 rfl rfl ?_
        refine V_getR fa_Mod_47 sk_116 rfl d_Mod_lay_28 ?_
        refine V_iload_n 1 d_Mod_lay_31 rfl rfl ?_
        refine N_ialdK sk_129 (kE.trans c9) (by omega) d_Mod_lay_32 s2K ?_
        refine V_iconst 1 d_Mod_lay_33 (by decide) ?_
        refine V_isub s2E tc_1 (by omega) d_Mod_lay_34 (fun z68 z68e z68E => ?_)
        refine V_i2l d_Mod_lay_35 (fun z69 z69e z69E => ?_)
        have z69F : z69.toInt = (s2Z - 1) := z69E.trans z68E
        refine N_callSI [.long z66, .long 0, .long z69] [] cs_Mod_95 d_Mod_lay_36 rfl (Nat.le_of_ble_eq_true rfl) (by decide) (by decide) (c_Mod_in h z66 iZ z66F 0 0 tl_0 z69 ((s2Z - 1)) z69F) (fun z70 h71 z70Z z70E p72 => ?_)
        obtain ⟨eh71, p72⟩ := p72
        subst eh71
        refine V_if_ne 45 z70E d_Mod_lay_39 (by decide) (fun c73 => ?_) (fun c73 => ?_)
        ·
          refine V_aload_n 0 d_Mod_lay_45 rfl rfl ?_
          refine V_getR fa_Mod_50 sk_116 rfl d_Mod_lay_46 ?_
          refine V_bipush 40 d_Mod_lay_49 (by decide) ?_
          refine V_iload_n 1 d_Mod_lay_51 rfl rfl ?_
          refine V_imul tc_40 (kE.trans c9) (by omega) d_Mod_lay_52 (fun z74 z74e z74E => ?_)
          refine V_iload_n 2 d_Mod_lay_53 rfl rfl ?_
          refine V_iadd z74E iE (by omega) d_Mod_lay_54 (fun z75 z75e z75E => ?_)
          refine V_aload_n 0 d_Mod_lay_55 rfl rfl ?_
          refine V_getR fa_Mod_44 sk_116 rfl d_Mod_lay_56 ?_
          refine V_iload_n 1 d_Mod_lay_59 rfl rfl ?_
          refine N_ialdK sk_128 (kE.trans c9) (by omega) d_Mod_lay_60 t2K ?_
          refine V_if_ne 69 t2E d_Mod_lay_61 (by decide) (fun c77 => ?_) (fun c77 => ?_)
          ·
            refine V_aload_n 0 d_Mod_lay_69 rfl rfl ?_
            refine V_getR fa_Mod_44 sk_116 rfl d_Mod_lay_70 ?_
            refine V_iload_n 1 d_Mod_lay_73 rfl rfl ?_
            refine N_ialdK sk_128 (kE.trans c9) (by omega) d_Mod_lay_74 t2K ?_
            refine V_iconst 1 d_Mod_lay_75 (by decide) ?_
            refine V_icmp_ne 84 t2E tc_1 d_Mod_lay_76 (by decide) (fun c79 => ?_) (fun c79 => ?_)
            ·
              refine V_iload_n 3 d_Mod_lay_84 rfl rfl ?_
              refine N_iast sk_130 z75E (by omega) d_Mod_lay_85 (fun h80 eh80 => ?_)
              have hI81 : Inv h80 := inv_full hI eh80 rfl
              have f82 : fr S_Mod_layX h h80 := fr_put f0 eh80 rfl
              refine V_iconst 1 d_Mod_lay_86 (by decide) ?_
              exact V_iret rfl d_Mod_lay_87 ⟨1, rfl, ⟨hI81, f82, (Or.inr (Or.inr (Or.inr (Or.inl (⟨by omega, (Or.inr (Or.inr (⟨by omega, by omega, by omega, tc_1⟩)))⟩)))))⟩⟩
            ·
              refine V_iload_n 3 d_Mod_lay_79 rfl rfl ?_
              refine N_i2s d_Mod_lay_80 (fun z83 z83Z z83E z83e => ?_)
              refine V_goto 85 d_Mod_lay_81 (by decide) ?_
              refine N_iast sk_130 z75E (by omega) d_Mod_lay_85 (fun h84 eh84 => ?_)
              have hI85 : Inv h84 := inv_full hI eh84 rfl
              have f86 : fr S_Mod_layX h h84 := fr_put f0 eh84 rfl
              refine V_iconst 1 d_Mod_lay_86 (by decide) ?_
              exact V_iret rfl d_Mod_lay_87 ⟨1, rfl, ⟨hI85, f86, (Or.inr (Or.inr (Or.inr (Or.inl (⟨by omega, (Or.inr (Or.inr (⟨by omega, by omega, by omega, tc_1⟩)))⟩)))))⟩⟩
          ·
            refine V_iload_n 3 d_Mod_lay_64 rfl rfl ?_
            refine N_i2b d_Mod_lay_65 (fun z87 z87Z z87E z87e => ?_)
            refine V_goto 85 d_Mod_lay_66 (by decide) ?_
            refine N_iast sk_130 z75E (by omega) d_Mod_lay_85 (fun h88 eh88 => ?_)
            have hI89 : Inv h88 := inv_full hI eh88 rfl
            have f90 : fr S_Mod_layX h h88 := fr_put f0 eh88 rfl
            refine V_iconst 1 d_Mod_lay_86 (by decide) ?_
            exact V_iret rfl d_Mod_lay_87 ⟨1, rfl, ⟨hI89, f90, (Or.inr (Or.inr (Or.inr (Or.inl (⟨by omega, (Or.inr (Or.inr (⟨by omega, by omega, by omega, tc_1⟩)))⟩)))))⟩⟩
        ·
          refine V_bipush (-12) d_Mod_lay_42 (by decide) ?_
          exact V_iret rfl d_Mod_lay_44 ⟨(-12), rfl, ⟨hI, f0, (Or.inr (Or.inr (Or.inr (Or.inl (⟨by omega, (Or.inr (Or.inl (⟨by omega, by omega, tc_m12⟩)))⟩)))))⟩⟩
      ·
        refine V_bipush (-11) d_Mod_lay_21 (by decide) ?_
        exact V_iret rfl d_Mod_lay_23 ⟨(-11), rfl, ⟨hI, f0, (Or.inr (Or.inr (Or.inr (Or.inl (⟨by omega, (Or.inl (⟨by omega, tc_m11⟩))⟩)))))⟩⟩
    ·
      refine V_aload_n 0 d_Mod_lay_10 rfl rfl ?_
      refine V_getR fa_Mod_44 sk_116 rfl d_Mod_lay_11 ?_
      refine V_iload_n 1 d_Mod_lay_14 rfl rfl ?_
      refine N_ialdK sk_128 (kE.trans c9) (by omega) d_Mod_lay_15 t3K ?_
      refine V_bipush (-4) d_Mod_lay_16 (by decide) ?_
      refine V_icmp_ne 24 t3E tc_m4 d_Mod_lay_18 (by decide) (fun c92 => ?_) (fun c92 => ?_)
      ·
        refine V_iload_n 2 d_Mod_lay_24 rfl rfl ?_
        refine V_i2l d_Mod_lay_25 (fun z93 z93e z93E => ?_)
        have z93F : z93.toInt = iZ := z93E.trans iE
        refine V_lconst 0 d_Mod_lay_26 (by decide) ?_
        refine V_aload_n 0 d_Mod_lay_27 rfl rfl ?_
        refine V_getR fa_Mod_47 sk_116 rfl d_Mod_lay_28 ?_
        refine V_iload_n 1 d_Mod_lay_31 rfl rfl ?_
        refine N_ialdK sk_129 (kE.trans c9) (by omega) d_Mod_lay_32 s3K ?_
        refine V_iconst 1 d_Mod_lay_33 (by decide) ?_
        refine V_isub s3E tc_1 (by omega) d_Mod_lay_34 (fun z95 z95e z95E => ?_)
        refine V_i2l d_Mod_lay_35 (fun z96 z96e z96E => ?_)
        have z96F : z96.toInt = (s3Z - 1) := z96E.trans z95E
        refine N_callSI [.long z93, .long 0, .long z96] [] cs_Mod_95 d_Mod_lay_36 rfl (Nat.le_of_ble_eq_true rfl) (by decide) (by decide) (c_Mod_in h z93 iZ z93F 0 0 tl_0 z96 ((s3Z - 1)) z96F) (fun z97 h98 z97Z z97E p99 => ?_)
        obtain ⟨eh98, p99⟩ := p99
        subst eh98
        refine V_if_ne 45 z97E d_Mod_lay_39 (by decide) (fun c100 => ?_) (fun c100 => ?_)
        ·
          refine V_aload_n 0 d_Mod_lay_45 rfl rfl ?_
          refine V_getR fa_Mod_50 sk_116 rfl d_Mod_lay_46 ?_
          refine V_bipush 40 d_Mod_lay_49 (by decide) ?_
          refine V_iload_n 1 d_Mod_lay_51 rfl rfl ?_
          refine V_imul tc_40 (kE.trans c9) (by omega) d_Mod_lay_52 (fun z101 z101e z101E => ?_)
          refine V_iload_n 2 d_Mod_lay_53 rfl rfl ?_
          refine V_iadd z101E iE (by omega) d_Mod_lay_54 (fun z102 z102e z102E => ?_)
          refine V_aload_n 0 d_Mod_lay_55 rfl rfl ?_
          refine V_getR fa_Mod_44 sk_116 rfl d_Mod_lay_56 ?_
          refine V_iload_n 1 d_Mod_lay_59 rfl rfl ?_
          refine N_ialdK sk_128 (kE.trans c9) (by omega) d_Mod_lay_60 t3K ?_
          refine V_if_ne 69 t3E d_Mod_lay_61 (by decide) (fun c104 => ?_) (fun c104 => ?_)
          ·
            refine V_aload_n 0 d_Mod_lay_69 rfl rfl ?_
            refine V_getR fa_Mod_44 sk_116 rfl d_Mod_lay_70 ?_
            refine V_iload_n 1 d_Mod_lay_73 rfl rfl ?_
            refine N_ialdK sk_128 (kE.trans c9) (by omega) d_Mod_lay_74 t3K ?_
            refine V_iconst 1 d_Mod_lay_75 (by decide) ?_
            refine V_icmp_ne 84 t3E tc_1 d_Mod_lay_76 (by decide) (fun c106 => ?_) (fun c106 => ?_)
            ·
              refine V_iload_n 3 d_Mod_lay_84 rfl rfl ?_
              refine N_iast sk_130 z102E (by omega) d_Mod_lay_85 (fun h107 eh107 => ?_)
              have hI108 : Inv h107 := inv_full hI eh107 rfl
              have f109 : fr S_Mod_layX h h107 := fr_put f0 eh107 rfl
              refine V_iconst 1 d_Mod_lay_86 (by decide) ?_
              exact V_iret rfl d_Mod_lay_87 ⟨1, rfl, ⟨hI108, f109, (Or.inr (Or.inr (Or.inr (Or.inr (⟨by omega, (Or.inr (Or.inr (⟨by omega, by omega, by omega, tc_1⟩)))⟩)))))⟩⟩
            ·
              refine V_iload_n 3 d_Mod_lay_79 rfl rfl ?_
              refine N_i2s d_Mod_lay_80 (fun z110 z110Z z110E z110e => ?_)
              refine V_goto 85 d_Mod_lay_81 (by decide) ?_
              refine N_iast sk_130 z102E (by omega) d_Mod_lay_85 (fun h111 eh111 => ?_)
              have hI112 : Inv h111 := inv_full hI eh111 rfl
              have f113 : fr S_Mod_layX h h111 := fr_put f0 eh111 rfl
              refine V_iconst 1 d_Mod_lay_86 (by decide) ?_
              exact V_iret rfl d_Mod_lay_87 ⟨1, rfl, ⟨hI112, f113, (Or.inr (Or.inr (Or.inr (Or.inr (⟨by omega, (Or.inr (Or.inr (⟨by omega, by omega, by omega, tc_1⟩)))⟩)))))⟩⟩
          ·
            refine V_iload_n 3 d_Mod_lay_64 rfl rfl ?_
            refine N_i2b d_Mod_lay_65 (fun z114 z114Z z114E z114e => ?_)
            refine V_goto 85 d_Mod_lay_66 (by decide) ?_
            refine N_iast sk_130 z102E (by omega) d_Mod_lay_85 (fun h115 eh115 => ?_)
            have hI116 : Inv h115 := inv_full hI eh115 rfl
            have f117 : fr S_Mod_layX h h115 := fr_put f0 eh115 rfl
            refine V_iconst 1 d_Mod_lay_86 (by decide) ?_
            exact V_iret rfl d_Mod_lay_87 ⟨1, rfl, ⟨hI116, f117, (Or.inr (Or.inr (Or.inr (Or.inr (⟨by omega, (Or.inr (Or.inr (⟨by omega, by omega, by omega, tc_1⟩)))⟩)))))⟩⟩
        ·
          refine V_bipush (-12) d_Mod_lay_42 (by decide) ?_
          exact V_iret rfl d_Mod_lay_44 ⟨(-12), rfl, ⟨hI, f0, (Or.inr (Or.inr (Or.inr (Or.inr (⟨by omega, (Or.inr (Or.inl (⟨by omega, by omega, tc_m12⟩)))⟩)))))⟩⟩
      ·
        refine V_bipush (-11) d_Mod_lay_21 (by decide) ?_
        exact V_iret rfl d_Mod_lay_23 ⟨(-11), rfl, ⟨hI, f0, (Or.inr (Or.inr (Or.inr (Or.inr (⟨by omega, (Or.inl (⟨by omega, tc_m11⟩))⟩)))))⟩⟩
  ·
    refine V_iconst (-1) d_Mod_lay_8 (by decide) ?_
    exact V_iret rfl d_Mod_lay_9 ⟨(-1), rfl, ⟨hI, f0, (Or.inl (⟨by omega, tc_m1⟩))⟩⟩
