abbrev q_Sheet_wholeBoresX_0 (h : Hp) (l : Int32) (lZ : Int) (f : Int32) (fZ : Int) (n : Int32) (nZ : Int) (t : Int32) (tZ : Int) (s : Int32) (sZ : Int) : Option Value → Hp → Prop := pInt (fun r h' => h = h' ∧ (r.toInt = whl tZ sZ lZ fZ nZ ∧ 0 ≤ r.toInt ∧ r.toInt ≤ nZ ∧ (r.toInt = 0 ∨ 0 ≤ fZ ∧ fZ + 3 * r.toInt ≤ sZ)))
set_option maxRecDepth 100000 in
theorem c_Sheet_wholeBoresX_0 (h : Hp) (hI : Inv h) (l : Int32) (lZ : Int) (lE : l.toInt = lZ) (f : Int32) (fZ : Int) (fE : f.toInt = fZ) (n : Int32) (nZ : Int) (nE : n.toInt = nZ) (t : Int32) (tZ : Int) (tE : t.toInt = tZ) (tK : h.1 108 1 = t) (s : Int32) (sZ : Int) (sE : s.toInt = sZ) (sK : h.1 108 2 = s) (hy0 : 0 ≤ nZ ∧ nZ ≤ 13) : Ct y_Sheet_wholeBores b_Sheet_wholeBores 4 (some .int) 1 21 [.ref 108, .int l, .int f, .int n] h (q_Sheet_wholeBoresX_0 h l lZ f fZ n nZ t tZ s sZ) := by
  refine ct_ow R_Sheet [some (.ref 108), some (.int l), some (.int f), some (.int n)] rfl (by decide) rfl (Nat.le_of_ble_eq_true rfl) ?_
  have f0 : fr [] h h := fr_rf
  have g1 : 0 ≤ sZ ∧ sZ ≤ 40 := inv_at hI sE sK.symm rfl
  refine V_aload_n 0 d_Sheet_wholeBores_0 rfl rfl ?_
  refine N_getK fa_Sheet_15 sk_108 rfl d_Sheet_wholeBores_1 tK ?_
  refine V_iload_n 1 d_Sheet_wholeBores_4 rfl rfl ?_
  refine V_icmp_ne 20 tE lE d_Sheet_wholeBores_5 (by decide) (fun c2 => ?_) (fun c2 => ?_)
  ·
    refine V_iconst 0 d_Sheet_wholeBores_20 (by decide) ?_
    exact V_iret rfl d_Sheet_wholeBores_21 ⟨0, rfl, ⟨rfl, ⟨by unfold whl; rw [if_pos (by (first | decide +kernel | omega))]; rfl, by (try rw [show Int32.toInt 0 = 0 from rfl]) <;> omega⟩⟩⟩
  ·
    refine V_iload_n 2 d_Sheet_wholeBores_8 rfl rfl ?_
    refine V_if_lt 20 fE d_Sheet_wholeBores_9 (by decide) (fun c3 => ?_) (fun c3 => ?_)
    ·
      refine V_iconst 0 d_Sheet_wholeBores_20 (by decide) ?_
      exact V_iret rfl d_Sheet_wholeBores_21 ⟨0, rfl, ⟨rfl, ⟨by unfold whl; rw [if_pos (by (first | decide +kernel | omega))]; rfl, by (try rw [show Int32.toInt 0 = 0 from rfl]) <;> omega⟩⟩⟩
    ·
      refine V_iload_n 2 d_Sheet_wholeBores_12 rfl rfl ?_
      refine V_aload_n 0 d_Sheet_wholeBores_13 rfl rfl ?_
      refine N_getK fa_Sheet_25 sk_108 rfl d_Sheet_wholeBores_14 sK ?_
      refine V_icmp_lt 22 fE sE d_Sheet_wholeBores_17 (by decide) (fun c4 => ?_) (fun c4 => ?_)
      ·
        refine V_iload_n 3 d_Sheet_wholeBores_22 rfl rfl ?_
        refine V_aload_n 0 d_Sheet_wholeBores_23 rfl rfl ?_
        refine N_getK fa_Sheet_25 sk_108 rfl d_Sheet_wholeBores_24 sK ?_
        refine V_iload_n 2 d_Sheet_wholeBores_27 rfl rfl ?_
        refine V_isub sE fE (by (first | decide +kernel | omega)) d_Sheet_wholeBores_28 (fun z5 z5e z5E => ?_)
        refine V_iconst 3 d_Sheet_wholeBores_29 (by decide) ?_
        refine N_idiv z5E tc_3 (by (first | decide +kernel | omega)) d_Sheet_wholeBores_30 (fun z6 z6e z6E => ?_)
        refine N_min nE z6E wm_Sheet_28 d_Sheet_wholeBores_31 (Nat.le_of_ble_eq_true rfl) (by decide) wmin1 wM2 wmin3 (fun z7 z7Z z7E z7e z7g => ?_)
        exact V_iret rfl d_Sheet_wholeBores_34 ⟨z7, rfl, ⟨rfl, ⟨by rw [z7E]; unfold whl; rw [if_neg (by (first | decide +kernel | omega))]; split <;> omega, by rw [z7E]; omega⟩⟩⟩
      ·
        refine V_iconst 0 d_Sheet_wholeBores_20 (by decide) ?_
        exact V_iret rfl d_Sheet_wholeBores_21 ⟨0, rfl, ⟨rfl, ⟨by unfold whl; rw [if_pos (by (first | decide +kernel | omega))]; rfl, by (try rw [show Int32.toInt 0 = 0 from rfl]) <;> omega⟩⟩⟩
abbrev q_Sheet_wholeBoresX_1 (h : Hp) (l : Int32) (lZ : Int) (f : Int32) (fZ : Int) (n : Int32) (nZ : Int) (t : Int32) (tZ : Int) (s : Int32) (sZ : Int) : Option Value → Hp → Prop := pInt (fun r h' => h = h' ∧ (r.toInt = whl tZ sZ lZ fZ nZ ∧ 0 ≤ r.toInt ∧ r.toInt ≤ nZ ∧ (r.toInt = 0 ∨ 0 ≤ fZ ∧ fZ + 3 * r.toInt ≤ sZ)))
set_option maxRecDepth 100000 in
theorem c_Sheet_wholeBoresX_1 (h : Hp) (hI : Inv h) (l : Int32) (lZ : Int) (lE : l.toInt = lZ) (f : Int32) (fZ : Int) (fE : f.toInt = fZ) (n : Int32) (nZ : Int) (nE : n.toInt = nZ) (t : Int32) (tZ : Int) (tE : t.toInt = tZ) (tK : h.1 110 1 = t) (s : Int32) (sZ : Int) (sE : s.toInt = sZ) (sK : h.1 110 2 = s) (hy0 : 0 ≤ nZ ∧ nZ ≤ 13) : Ct y_Sheet_wholeBores b_Sheet_wholeBores 4 (some .int) 1 21 [.ref 110, .int l, .int f, .int n] h (q_Sheet_wholeBoresX_1 h l lZ f fZ n nZ t tZ s sZ) := by
  refine ct_ow R_Sheet [some (.ref 110), some (.int l), some (.int f), some (.int n)] rfl (by decide) rfl (Nat.le_of_ble_eq_true rfl) ?_
  have f0 : fr [] h h := fr_rf
  have g1 : 0 ≤ sZ ∧ sZ ≤ 40 := inv_at hI sE sK.symm rfl
  refine V_aload_n 0 d_Sheet_wholeBores_0 rfl rfl ?_
  refine N_getK fa_Sheet_15 sk_110 rfl d_Sheet_wholeBores_1 tK ?_
  refine V_iload_n 1 d_Sheet_wholeBores_4 rfl rfl ?_
  refine V_icmp_ne 20 tE lE d_Sheet_wholeBores_5 (by decide) (fun c2 => ?_) (fun c2 => ?_)
  ·
    refine V_iconst 0 d_Sheet_wholeBores_20 (by decide) ?_
    exact V_iret rfl d_Sheet_wholeBores_21 ⟨0, rfl, ⟨rfl, ⟨by unfold whl; rw [if_pos (by (first | decide +kernel | omega))]; rfl, by (try rw [show Int32.toInt 0 = 0 from rfl]) <;> omega⟩⟩⟩
  ·
    refine V_iload_n 2 d_Sheet_wholeBores_8 rfl rfl ?_
    refine V_if_lt 20 fE d_Sheet_wholeBores_9 (by decide) (fun c3 => ?_) (fun c3 => ?_)
    ·
      refine V_iconst 0 d_Sheet_wholeBores_20 (by decide) ?_
      exact V_iret rfl d_Sheet_wholeBores_21 ⟨0, rfl, ⟨rfl, ⟨by unfold whl; rw [if_pos (by (first | decide +kernel | omega))]; rfl, by (try rw [show Int32.toInt 0 = 0 from rfl]) <;> omega⟩⟩⟩
    ·
      refine V_iload_n 2 d_Sheet_wholeBores_12 rfl rfl ?_
      refine V_aload_n 0 d_Sheet_wholeBores_13 rfl rfl ?_
      refine N_getK fa_Sheet_25 sk_110 rfl d_Sheet_wholeBores_14 sK ?_
      refine V_icmp_lt 22 fE sE d_Sheet_wholeBores_17 (by decide) (fun c4 => ?_) (fun c4 => ?_)
      ·
        refine V_iload_n 3 d_Sheet_wholeBores_22 rfl rfl ?_
        refine V_aload_n 0 d_Sheet_wholeBores_23 rfl rfl ?_
        refine N_getK fa_Sheet_25 sk_110 rfl d_Sheet_wholeBores_24 sK ?_
        refine V_iload_n 2 d_Sheet_wholeBores_27 rfl rfl ?_
        refine V_isub sE fE (by (first | decide +kernel | omega)) d_Sheet_wholeBores_28 (fun z5 z5e z5E => ?_)
        refine V_iconst 3 d_Sheet_wholeBores_29 (by decide) ?_
        refine N_idiv z5E tc_3 (by (first | decide +kernel | omega)) d_Sheet_wholeBores_30 (fun z6 z6e z6E => ?_)
        refine N_min nE z6E wm_Sheet_28 d_Sheet_wholeBores_31 (Nat.le_of_ble_eq_true rfl) (by decide) wmin1 wM2 wmin3 (fun z7 z7Z z7E z7e z7g => ?_)
        exact V_iret rfl d_Sheet_wholeBores_34 ⟨z7, rfl, ⟨rfl, ⟨by rw [z7E]; unfold whl; rw [if_neg (by (first | decide +kernel | omega))]; split <;> omega, by rw [z7E]; omega⟩⟩⟩
      ·
        refine V_iconst 0 d_Sheet_wholeBores_20 (by decide) ?_
        exact V_iret rfl d_Sheet_wholeBores_21 ⟨0, rfl, ⟨rfl, ⟨by unfold whl; rw [if_pos (by (first | decide +kernel | omega))]; rfl, by (try rw [show Int32.toInt 0 = 0 from rfl]) <;> omega⟩⟩⟩
abbrev q_Sheet_wholeBoresX_2 (h : Hp) (l : Int32) (lZ : Int) (f : Int32) (fZ : Int) (n : Int32) (nZ : Int) (t : Int32) (tZ : Int) (s : Int32) (sZ : Int) : Option Value → Hp → Prop := pInt (fun r h' => h = h' ∧ (r.toInt = whl tZ sZ lZ fZ nZ ∧ 0 ≤ r.toInt ∧ r.toInt ≤ nZ ∧ (r.toInt = 0 ∨ 0 ≤ fZ ∧ fZ + 3 * r.toInt ≤ sZ)))
set_option maxRecDepth 100000 in
theorem c_Sheet_wholeBoresX_2 (h : Hp) (hI : Inv h) (l : Int32) (lZ : Int) (lE : l.toInt = lZ) (f : Int32) (fZ : Int) (fE : f.toInt = fZ) (n : Int32) (nZ : Int) (nE : n.toInt = nZ) (t : Int32) (tZ : Int) (tE : t.toInt = tZ) (tK : h.1 112 1 = t) (s : Int32) (sZ : Int) (sE : s.toInt = sZ) (sK : h.1 112 2 = s) (hy0 : 0 ≤ nZ ∧ nZ ≤ 13) : Ct y_Sheet_wholeBores b_Sheet_wholeBores 4 (some .int) 1 21 [.ref 112, .int l, .int f, .int n] h (q_Sheet_wholeBoresX_2 h l lZ f fZ n nZ t tZ s sZ) := by
  refine ct_ow R_Sheet [some (.ref 112), some (.int l), some (.int f), some (.int n)] rfl (by decide) rfl (Nat.le_of_ble_eq_true rfl) ?_
  have f0 : fr [] h h := fr_rf
  have g1 : 0 ≤ sZ ∧ sZ ≤ 40 := inv_at hI sE sK.symm rfl
  refine V_aload_n 0 d_Sheet_wholeBores_0 rfl rfl ?_
  refine N_getK fa_Sheet_15 sk_112 rfl d_Sheet_wholeBores_1 tK ?_
  refine V_iload_n 1 d_Sheet_wholeBores_4 rfl rfl ?_
  refine V_icmp_ne 20 tE lE d_Sheet_wholeBores_5 (by decide) (fun c2 => ?_) (fun c2 => ?_)
  ·
    refine V_iconst 0 d_Sheet_wholeBores_20 (by decide) ?_
    exact V_iret rfl d_Sheet_wholeBores_21 ⟨0, rfl, ⟨rfl, ⟨by unfold whl; rw [if_pos (by (first | decide +kernel | omega))]; rfl, by (try rw [show Int32.toInt 0 = 0 from rfl]) <;> omega⟩⟩⟩
  ·
    refine V_iload_n 2 d_Sheet_wholeBores_8 rfl rfl ?_
    refine V_if_lt 20 fE d_Sheet_wholeBores_9 (by decide) (fun c3 => ?_) (fun c3 => ?_)
    ·
      refine V_iconst 0 d_Sheet_wholeBores_20 (by decide) ?_
      exact V_iret rfl d_Sheet_wholeBores_21 ⟨0, rfl, ⟨rfl, ⟨by unfold whl; rw [if_pos (by (first | decide +kernel | omega))]; rfl, by (try rw [show Int32.toInt 0 = 0 from rfl]) <;> omega⟩⟩⟩
    ·
      refine V_iload_n 2 d_Sheet_wholeBores_12 rfl rfl ?_
      refine V_aload_n 0 d_Sheet_wholeBores_13 rfl rfl ?_
      refine N_getK fa_Sheet_25 sk_112 rfl d_Sheet_wholeBores_14 sK ?_
      refine V_icmp_lt 22 fE sE d_Sheet_wholeBores_17 (by decide) (fun c4 => ?_) (fun c4 => ?_)
      ·
        refine V_iload_n 3 d_Sheet_wholeBores_22 rfl rfl ?_
        refine V_aload_n 0 d_Sheet_wholeBores_23 rfl rfl ?_
        refine N_getK fa_Sheet_25 sk_112 rfl d_Sheet_wholeBores_24 sK ?_
        refine V_iload_n 2 d_Sheet_wholeBores_27 rfl rfl ?_
        refine V_isub sE fE (by (first | decide +kernel | omega)) d_Sheet_wholeBores_28 (fun z5 z5e z5E => ?_)
        refine V_iconst 3 d_Sheet_wholeBores_29 (by decide) ?_
        refine N_idiv z5E tc_3 (by (first | decide +kernel | omega)) d_Sheet_wholeBores_30 (fun z6 z6e z6E => ?_)
        refine N_min nE z6E wm_Sheet_28 d_Sheet_wholeBores_31 (Nat.le_of_ble_eq_true rfl) (by decide) wmin1 wM2 wmin3 (fun z7 z7Z z7E z7e z7g => ?_)
        exact V_iret rfl d_Sheet_wholeBores_34 ⟨z7, rfl, ⟨rfl, ⟨by rw [z7E]; unfold whl; rw [if_neg (by (first | decide +kernel | omega))]; split <;> omega, by rw [z7E]; omega⟩⟩⟩
      ·
        refine V_iconst 0 d_Sheet_wholeBores_20 (by decide) ?_
        exact V_iret rfl d_Sheet_wholeBores_21 ⟨0, rfl, ⟨rfl, ⟨by unfold whl; rw [if_pos (by (first | decide +kernel | omega))]; rfl, by (try rw [show Int32.toInt 0 = 0 from rfl]) <;> omega⟩⟩⟩
abbrev q_Sheet_wholeBoresX_3 (h : Hp) (l : Int32) (lZ : Int) (f : Int32) (fZ : Int) (n : Int32) (nZ : Int) (t : Int32) (tZ : Int) (s : Int32) (sZ : Int) : Option Value → Hp → Prop := pInt (fun r h' => h = h' ∧ (r.toInt = whl tZ sZ lZ fZ nZ ∧ 0 ≤ r.toInt ∧ r.toInt ≤ nZ ∧ (r.toInt = 0 ∨ 0 ≤ fZ ∧ fZ + 3 * r.toInt ≤ sZ)))
set_option maxRecDepth 100000 in
theorem c_Sheet_wholeBoresX_3 (h : Hp) (hI : Inv h) (l : Int32) (lZ : Int) (lE : l.toInt = lZ) (f : Int32) (fZ : Int) (fE : f.toInt = fZ) (n : Int32) (nZ : Int) (nE : n.toInt = nZ) (t : Int32) (tZ : Int) (tE : t.toInt = tZ) (tK : h.1 114 1 = t) (s : Int32) (sZ : Int) (sE : s.toInt = sZ) (sK : h.1 114 2 = s) (hy0 : 0 ≤ nZ ∧ nZ ≤ 13) : Ct y_Sheet_wholeBores b_Sheet_wholeBores 4 (some .int) 1 21 [.ref 114, .int l, .int f, .int n] h (q_Sheet_wholeBoresX_3 h l lZ f fZ n nZ t tZ s sZ) := by
  refine ct_ow R_Sheet [some (.ref 114), some (.int l), some (.int f), some (.int n)] rfl (by decide) rfl (Nat.le_of_ble_eq_true rfl) ?_
  have f0 : fr [] h h := fr_rf
  have g1 : 0 ≤ sZ ∧ sZ ≤ 40 := inv_at hI sE sK.symm rfl
  refine V_aload_n 0 d_Sheet_wholeBores_0 rfl rfl ?_
  refine N_getK fa_Sheet_15 sk_114 rfl d_Sheet_wholeBores_1 tK ?_
  refine V_iload_n 1 d_Sheet_wholeBores_4 rfl rfl ?_
  refine V_icmp_ne 20 tE lE d_Sheet_wholeBores_5 (by decide) (fun c2 => ?_) (fun c2 => ?_)
  ·
    refine V_iconst 0 d_Sheet_wholeBores_20 (by decide) ?_
    exact V_iret rfl d_Sheet_wholeBores_21 ⟨0, rfl, ⟨rfl, ⟨by unfold whl; rw [if_pos (by (first | decide +kernel | omega))]; rfl, by (try rw [show Int32.toInt 0 = 0 from rfl]) <;> omega⟩⟩⟩
  ·
    refine V_iload_n 2 d_Sheet_wholeBores_8 rfl rfl ?_
    refine V_if_lt 20 fE d_Sheet_wholeBores_9 (by decide) (fun c3 => ?_) (fun c3 => ?_)
    ·
      refine V_iconst 0 d_Sheet_wholeBores_20 (by decide) ?_
      exact V_iret rfl d_Sheet_wholeBores_21 ⟨0, rfl, ⟨rfl, ⟨by unfold whl; rw [if_pos (by (first | decide +kernel | omega))]; rfl, by (try rw [show Int32.toInt 0 = 0 from rfl]) <;> omega⟩⟩⟩
    ·
      refine V_iload_n 2 d_Sheet_wholeBores_12 rfl rfl ?_
      refine V_aload_n 0 d_Sheet_wholeBores_13 rfl rfl ?_
      refine N_getK fa_Sheet_25 sk_114 rfl d_Sheet_wholeBores_14 sK ?_
      refine V_icmp_lt 22 fE sE d_Sheet_wholeBores_17 (by decide) (fun c4 => ?_) (fun c4 => ?_)
      ·
        refine V_iload_n 3 d_Sheet_wholeBores_22 rfl rfl ?_
        refine V_aload_n 0 d_Sheet_wholeBores_23 rfl rfl ?_
        refine N_getK fa_Sheet_25 sk_114 rfl d_Sheet_wholeBores_24 sK ?_
        refine V_iload_n 2 d_Sheet_wholeBores_27 rfl rfl ?_
        refine V_isub sE fE (by (first | decide +kernel | omega)) d_Sheet_wholeBores_28 (fun z5 z5e z5E => ?_)
        refine V_iconst 3 d_Sheet_wholeBores_29 (by decide) ?_
        refine N_idiv z5E tc_3 (by (first | decide +kernel | omega)) d_Sheet_wholeBores_30 (fun z6 z6e z6E => ?_)
        refine N_min nE z6E wm_Sheet_28 d_Sheet_wholeBores_31 (Nat.le_of_ble_eq_true rfl) (by decide) wmin1 wM2 wmin3 (fun z7 z7Z z7E z7e z7g => ?_)
        exact V_iret rfl d_Sheet_wholeBores_34 ⟨z7, rfl, ⟨rfl, ⟨by rw [z7E]; unfold whl; rw [if_neg (by (first | decide +kernel | omega))]; split <;> omega, by rw [z7E]; omega⟩⟩⟩
      ·
        refine V_iconst 0 d_Sheet_wholeBores_20 (by decide) ?_
        exact V_iret rfl d_Sheet_wholeBores_21 ⟨0, rfl, ⟨rfl, ⟨by unfold whl; rw [if_pos (by (first | decide +kernel | omega))]; rfl, by (try rw [show Int32.toInt 0 = 0 from rfl]) <;> omega⟩⟩⟩
def S_Rod_readZ : List (Nat × Option Nat) := [(0, some 3), (0, some 4), (1, none), (2, none), (3, none), (4, none), (5, none), (6, none), (7, some 4), (8, none), (9, none), (10, none), (11, none), (12, some 4), (13, none), (14, none), (15, none), (16, none), (17, some 3), (17, some 4), (18, none), (19, none), (20, none), (21, none), (22, none), (23, none), (24, some 4), (25, none), (26, none), (27, none), (28, none), (29, some 4), (30, none), (31, none), (32, none), (33, none), (85, some 10)]
abbrev q_Rod_readZ (h : Hp) (k : Int32) (kZ : Int) (l : Int32) (lZ : Int) (f : Int32) (fZ : Int) (n : Int32) (nZ : Int) (w : Int32) (wZ : Int) (g : Int32) (gZ : Int) (x : Int32) (xZ : Int) (y : Int32) (yZ : Int) (t0 : Int32) (t0Z : Int) (t1 : Int32) (t1Z : Int) (t2 : Int32) (t2Z : Int) (t3 : Int32) (t3Z : Int) (s0 : Int32) (s0Z : Int) (s1 : Int32) (s1Z : Int) (s2 : Int32) (s2Z : Int) (s3 : Int32) (s3Z : Int) : Option Value → Hp → Prop := pInt (fun r h' => Inv h' ∧ fr S_Rod_readZ h h' ∧ ((kZ < 0 ∨ 3 < kZ ∨ lZ < 0 ∨ 2 < lZ ∨ nZ < 0 ∨ 13 < nZ) ∧ h' = h ∧ r.toInt = -1 ∨ ¬ (kZ < 0 ∨ 3 < kZ ∨ lZ < 0 ∨ 2 < lZ ∨ nZ < 0 ∨ 13 < nZ) ∧ RDc h h' kZ.toNat lZ fZ nZ (wZ * gZ) r))
set_option maxRecDepth 100000 in
theorem c_Rod_readZ (h : Hp) (hI : Inv h) (k : Int32) (kZ : Int) (kE : k.toInt = kZ) (l : Int32) (lZ : Int) (lE : l.toInt = lZ) (f : Int32) (fZ : Int) (fE : f.toInt = fZ) (n : Int32) (nZ : Int) (nE : n.toInt = nZ) (w : Int32) (wZ : Int) (wE : w.toInt = wZ) (wK : h.1 1 0 = w) (g : Int32) (gZ : Int) (gE : g.toInt = gZ) (gK : h.1 1 1 = g) (x : Int32) (xZ : Int) (xE : x.toInt = xZ) (xK : h.1 1 2 = x) (y : Int32) (yZ : Int) (yE : y.toInt = yZ) (yK : h.1 1 3 = y) (t0 : Int32) (t0Z : Int) (t0E : t0.toInt = t0Z) (t0K : h.1 108 1 = t0) (t1 : Int32) (t1Z : Int) (t1E : t1.toInt = t1Z) (t1K : h.1 110 1 = t1) (t2 : Int32) (t2Z : Int) (t2E : t2.toInt = t2Z) (t2K : h.1 112 1 = t2) (t3 : Int32) (t3Z : Int) (t3E : t3.toInt = t3Z) (t3K : h.1 114 1 = t3) (s0 : Int32) (s0Z : Int) (s0E : s0.toInt = s0Z) (s0K : h.1 108 2 = s0) (s1 : Int32) (s1Z : Int) (s1E : s1.toInt = s1Z) (s1K : h.1 110 2 = s1) (s2 : Int32) (s2Z : Int) (s2E : s2.toInt = s2Z) (s2K : h.1 112 2 = s2) (s3 : Int32) (s3Z : Int) (s3E : s3.toInt = s3Z) (s3K : h.1 114 2 = s3) : Ct y_Rod_read b_Rod_read 9 (some .int) 3 102 [.ref 85, .int k, .int l, .int f, .int n] h (q_Rod_readZ h k kZ l lZ f fZ n nZ w wZ g gZ x xZ y yZ t0 t0Z t1 t1Z t2 t2Z t3 t3Z s0 s0Z s1 s1Z s2 s2Z s3 s3Z) := by
  refine ct_ow R_Rod [some (.ref 85), some (.int k), some (.int l), some (.int f), some (.int n), none, none, none, none] rfl (by decide) rfl (Nat.le_of_ble_eq_true rfl) ?_
  have f0 : fr S_Rod_readZ h h := fr_rf
  have g1 : 2 ≤ wZ ∧ wZ ≤ 4 := inv_at hI wE wK.symm rfl
  have g2 : 2 ≤ gZ ∧ gZ ≤ 4 := inv_at hI gE gK.symm rfl
  have g3 : 0 ≤ s0Z ∧ s0Z ≤ 40 := inv_at hI s0E s0K.symm rfl
  have g4 : 0 ≤ s1Z ∧ s1Z ≤ 40 := inv_at hI s1E s1K.symm rfl
  have g5 : 0 ≤ s2Z ∧ s2Z ≤ 40 := inv_at hI s2E s2K.symm rfl
  have g6 : 0 ≤ s3Z ∧ s3Z ≤ 40 := inv_at hI s3E s3K.symm rfl
  have m24 := mul24 (A := wZ) (B := gZ) (by (first | decide +kernel | omega)) (by (first | decide +kernel | omega))
  refine V_iload_n 1 d_Rod_read_0 rfl rfl ?_
  refine N_callSI [.int k] [] cs_Rod_283 d_Rod_read_1 rfl (Nat.le_of_ble_eq_true rfl) (by decide) (by decide) (c_Rod_isSheet h k kZ kE) (fun z7 h8 z7Z z7E p9 => ?_)
  obtain ⟨eh8, p9⟩ := p9
  subst eh8
  refine V_if_eq 26 z7E d_Rod_read_4 (by decide) (fun c10 => ?_) (fun c10 => ?_)
  ·
    refine V_iconst (-1) d_Rod_read_26 (by decide) ?_
    exact V_iret rfl d_Rod_read_27 ⟨(-1), rfl, ⟨hI, f0, (Or.inl ⟨by (first | decide +kernel | omega), rfl, tc_m1⟩)⟩⟩
  ·
    refine V_iload_n 2 d_Rod_read_7 rfl rfl ?_
    refine N_callSI [.int l] [] cs_Rod_286 d_Rod_read_8 rfl (Nat.le_of_ble_eq_true rfl) (by decide) (by decide) (c_Rod_isLane h l lZ lE) (fun z11 h12 z11Z z11E p13 => ?_)
    obtain ⟨eh12, p13⟩ := p13
    subst eh12
    refine V_if_eq 26 z11E d_Rod_read_11 (by decide) (fun c14 => ?_) (fun c14 => ?_)
    ·
      refine V_iconst (-1) d_Rod_read_26 (by decide) ?_
      exact V_iret rfl d_Rod_read_27 ⟨(-1), rfl, ⟨hI, f0, (Or.inl ⟨by (first | decide +kernel | omega), rfl, tc_m1⟩)⟩⟩
    ·
      refine V_iload d_Rod_read_14 rfl ?_
      refine V_if_lt 26 nE d_Rod_read_16 (by decide) (fun c15 => ?_) (fun c15 => ?_)
      ·
        refine V_iconst (-1) d_Rod_read_26 (by decide) ?_
        exact V_iret rfl d_Rod_read_27 ⟨(-1), rfl, ⟨hI, f0, (Or.inl ⟨by (first | decide +kernel | omega), rfl, tc_m1⟩)⟩⟩
      ·
        refine V_iload d_Rod_read_19 rfl ?_
        refine V_bipush 13 d_Rod_read_21 (by decide) ?_
        refine V_icmp_le 28 nE tc_13 d_Rod_read_23 (by decide) (fun c16 => ?_) (fun c16 => ?_)
        ·
          refine V_aload_n 0 d_Rod_read_28 rfl rfl ?_
          refine V_getR fa_Rod_62 sk_85 rfl d_Rod_read_29 ?_
          refine V_iload_n 1 d_Rod_read_32 rfl rfl ?_
          rcases (by (first | decide +kernel | omega) : kZ = 0 ∨ kZ = 1 ∨ kZ = 2 ∨ kZ = 3) with c17 | c17 | c17 | c17
          ·
            refine V_aald (r := 108) sk_107 (by decide) kE (by (first | decide +kernel | omega)) (by rw [c17]; rfl) d_Rod_read_33 ?_
            refine V_astore 5 [some (.ref 85), some (.int k), some (.int l), some (.int f), some (.int n), some (.ref 108), none, none, none] d_Rod_read_34 (by decide) rfl rfl ?_
            refine V_aload d_Rod_read_36 rfl ?_
            refine V_iload_n 2 d_Rod_read_38 rfl rfl ?_
            refine V_iload_n 3 d_Rod_read_39 rfl rfl ?_
            refine V_iload d_Rod_read_40 rfl ?_
            refine N_callVI [.int l, .int f, .int n] [] cv_Rod_300 sk_108 rfl d_Rod_read_42 rfl (Nat.le_of_ble_eq_true rfl) (by decide) (by decide) (c_Sheet_wholeBoresX_0 h hI l lZ lE f fZ fE n nZ nE t0 t0Z t0E t0K s0 s0Z s0E s0K (by (first | decide +kernel | omega))) (fun z18 h19 z18Z z18E p20 => ?_)
            obtain ⟨eh19, p20⟩ := p20
            subst eh19
            refine V_istore 6 [some (.ref 85), some (.int k), some (.int l), some (.int f), some (.int n), some (.ref 108), some (.int z18), none, none] d_Rod_read_45 (by decide) rfl rfl ?_
            refine V_aload_n 0 d_Rod_read_47 rfl rfl ?_
            refine V_getR fa_Rod_16 sk_85 rfl d_Rod_read_48 ?_
            refine V_aload_n 0 d_Rod_read_51 rfl rfl ?_
            refine V_getR fa_Rod_12 sk_85 rfl d_Rod_read_52 ?_
            obtain ⟨z21, z21Z, z21E, z21e⟩ : ∃ (y : Int32) (Y : Int), y.toInt = Y ∧ y = h.1 0 3 := ⟨_, _, rfl, rfl⟩
            obtain ⟨z22, z22Z, z22E, z22e⟩ : ∃ (y : Int32) (Y : Int), y.toInt = Y ∧ y = h.1 0 4 := ⟨_, _, rfl, rfl⟩
            refine N_callVV [.ref 0] [] cv_Rod_84 sk_17 rfl d_Rod_read_55 rfl (Nat.le_of_ble_eq_true rfl) (by decide) (by decide) (c_County_copyX_1_0 h hI z21 z21Z z21E z21e.symm z22 z22Z z22E z22e.symm) (fun h24 p25 => ?_)
            obtain ⟨hI26, fh24, p25⟩ := p25
            have f27 : fr S_Rod_readZ h h24 := fr_call f0 fh24 rfl
            have P28 : sp3 h h24 := sp3_of p25 fh24 rfl
            refine V_iconst 0 d_Rod_read_58 (by decide) ?_
            refine V_istore 7 [some (.ref 85), some (.int k), some (.int l), some (.int f), some (.int n), some (.ref 108), some (.int z18), some (.int 0), none] d_Rod_read_59 (by decide) rfl rfl ?_
            have L29 : ∀ (nn : Nat) (v31 : Int32) (v31Z : Int) (h32 : Hp), v31.toInt = v31Z → Inv h32 → fr S_Rod_readZ h h32 → h32.1 1 0 = w → h32.1 1 1 = g → h32.1 1 2 = x → h32.1 1 3 = y → 0 ≤ v31Z ∧ v31Z ≤ z18Z → sp3 h h32 → RN (h.1 5) (h.1 2) (h.1 1 2) (h.1 1 3) (wZ * gZ) (h.1 109) fZ.toNat (h.1 8) (h.1 6) v31Z.toNat (h32.1 8) (h32.1 6) → z18Z - v31Z < (nn : Int) → V R_Rod b_Rod_read 9 (some .int) 3 102 (q_Rod_readZ h k kZ l lZ f fZ n nZ w wZ g gZ x xZ y yZ t0 t0Z t1 t1Z t2 t2Z t3 t3Z s0 s0Z s1 s1Z s2 s2Z s3 s3Z) h32 61 [some (.ref 85), some (.int k), some (.int l), some (.int f), some (.int n), some (.ref 108), some (.int z18), some (.int v31), none] [] := by
              intro nn
              induction nn with
              | zero => intro v31 v31Z h32 v31E Ih32 Fh32 K33 K34 K35 K36 q37 q38 q39 hm40; exact absurd hm40 (by (first | decide +kernel | omega))
              | succ nn ihL29 =>
                intro v31 v31Z h32 v31E Ih32 Fh32 K33 K34 K35 K36 q37 q38 q39 hm40
                have sp9 : sp3 h h32 := by assumption
                have rn9 : RN (h.1 5) (h.1 2) (h.1 1 2) (h.1 1 3) (wZ * gZ) (h.1 109) fZ.toNat (h.1 8) (h.1 6) v31Z.toNat (h32.1 8) (h32.1 6) := by assumption
                refine V_iload d_Rod_read_61 rfl ?_
                refine V_iload d_Rod_read_63 rfl ?_
                refine V_icmp_ge 137 v31E z18E d_Rod_read_65 (by decide) (fun c41 => ?_) (fun c41 => ?_)
                ·
                  refine V_aload_n 0 d_Rod_read_137 rfl rfl ?_
                  refine V_aload d_Rod_read_138 rfl ?_
                  refine V_iload_n 2 d_Rod_read_140 rfl rfl ?_
                  refine V_iload d_Rod_read_141 rfl ?_
                  refine V_iload d_Rod_read_143 rfl ?_
                  refine N_callVI [.int l, .int n, .int z18] [.ref 85] cv_Rod_306 sk_108 rfl d_Rod_read_145 rfl (Nat.le_of_ble_eq_true rfl) (by decide) (by decide) (c_Sheet_readFault_0 h32 Ih32 l lZ lE n nZ nE z18 z18Z z18E) (fun z42 h43 z42Z z42E p44 => ?_)
                  subst p44
                  refine N_putI fp_Rod_309 sk_85 rfl d_Rod_read_148 (fun h45 eh45 => ?_)
                  have hI46 : Inv h45 := inv_full Ih32 eh45 rfl
                  have f47 : fr S_Rod_readZ h h45 := fr_put Fh32 eh45 rfl
                  have P48 : sp3 h h45 := sp3_put sp9 eh45 (by decide)
                  refine V_iload d_Rod_read_151 rfl ?_
                  exact V_iret rfl d_Rod_read_153 ⟨z18, rfl, ⟨hI46, f47, (Or.inr ⟨by (first | decide +kernel | omega), by rw [show kZ.toNat = 0 by (first | decide +kernel | omega)]; exact RDc_good (m := z18Z.toNat) (show ((z18Z.toNat : Nat) : Int) = whl (h.1 108 1).toInt (h.1 108 2).toInt lZ fZ nZ from by rw [t0K, s0K, t0E, s0E]; omega) (by rw [z18E]; omega) (by rw [eh45, pI_ne (by decide), pI_ne (by decide), show z18Z.toNat = v31Z.toNat by (first | decide +kernel | omega)]; exact rn9) P48⟩)⟩⟩
                ·
                  refine V_iload_n 3 d_Rod_read_68 rfl rfl ?_
                  refine V_iconst 3 d_Rod_read_69 (by decide) ?_
                  refine V_iload d_Rod_read_70 rfl ?_
                  refine V_imul tc_3 v31E (by (first | decide +kernel | omega)) d_Rod_read_72 (fun z49 z49e z49E => ?_)
                  refine V_iadd fE z49E (by (first | decide +kernel | omega)) d_Rod_read_73 (fun z50 z50e z50E => ?_)
                  refine V_istore 8 [some (.ref 85), some (.int k), some (.int l), some (.int f), some (.int n), some (.ref 108), some (.int z18), some (.int v31), some (.int z50)] d_Rod_read_74 (by decide) rfl rfl ?_
                  refine V_aload_n 0 d_Rod_read_76 rfl rfl ?_
                  refine V_getR fa_Rod_12 sk_85 rfl d_Rod_read_77 ?_
                  refine V_aload d_Rod_read_80 rfl ?_
                  refine V_getR fa_Rod_303 sk_108 rfl d_Rod_read_82 ?_
                  refine V_iload d_Rod_read_85 rfl ?_
                  refine N_iald sk_109 z50E (by (first | decide +kernel | omega)) d_Rod_read_87 (fun z51 z51Z z51E z51e => ?_)
                  refine V_aload d_Rod_read_88 rfl ?_
                  refine V_getR fa_Rod_303 sk_108 rfl d_Rod_read_90 ?_
                  refine V_iload d_Rod_read_93 rfl ?_
                  refine V_iconst 1 d_Rod_read_95 (by decide) ?_
                  refine V_iadd z50E tc_1 (by (first | decide +kernel | omega)) d_Rod_read_96 (fun z52 z52e z52E => ?_)
                  refine N_iald sk_109 z52E (by (first | decide +kernel | omega)) d_Rod_read_97 (fun z53 z53Z z53E z53e => ?_)
                  refine V_aload d_Rod_read_98 rfl ?_
                  refine V_getR fa_Rod_303 sk_108 rfl d_Rod_read_100 ?_
                  refine V_iload d_Rod_read_103 rfl ?_
                  refine V_iconst 2 d_Rod_read_105 (by decide) ?_
                  refine V_iadd z50E tc_2 (by (first | decide +kernel | omega)) d_Rod_read_106 (fun z54 z54e z54E => ?_)
                  refine N_iald sk_109 z54E (by (first | decide +kernel | omega)) d_Rod_read_107 (fun z55 z55Z z55E z55e => ?_)
                  refine N_callVI [.int z51, .int z53, .int z55] [] cv_Rod_227 sk_0 rfl d_Rod_read_108 rfl (Nat.le_of_ble_eq_true rfl) (by decide) (by decide) (c_County_boreByX_0 h32 Ih32 z51 z51Z z51E z53 z53Z z53E z55 z55Z z55E w wZ wE K33 g gZ gE K34 x xZ xE K35 y yZ yE K36) (fun z56 h57 z56Z z56E p58 => ?_)
                  obtain ⟨hI59, fh57, p58⟩ := p58
                  have f60 : fr S_Rod_readZ h h57 := fr_call Fh32 fh57 rfl
                  have P61 : sp3 h h57 := sp3_fr sp9 fh57 rfl
                  have hB := RN_c (h := h) (row := 109) (f := fZ.toNat) (n := v31Z.toNat) (W := wZ * gZ) (by (first | decide +kernel | omega)) rn9 sp9 z51E z53E z55E p58 (by rw [z51e, Fh32.1 109 _ rfl]; exact congrArg (h.1 109) (by (first | decide +kernel | omega))) (by rw [z53e, Fh32.1 109 _ rfl]; exact congrArg (h.1 109) (by (first | decide +kernel | omega))) (by rw [z55e, Fh32.1 109 _ rfl]; exact congrArg (h.1 109) (by (first | decide +kernel | omega)))
                  refine V_if_ge 131 z56E d_Rod_read_111 (by decide) (fun c62 => ?_) (fun c62 => ?_)
                  ·
                    have hb9 := (hB.resolve_left (fun q => absurd q.1 (by (first | decide +kernel | omega)))).2
                    obtain ⟨z63, z63E, z63e⟩ : ∃ y : Int32, y.toInt = v31Z + 1 ∧ y = v31 + Int32.ofInt 1 := ⟨_, ti_add v31E (by decide) (by (first | decide +kernel | omega)), rfl⟩
                    refine V_iinc 7 [some (.ref 85), some (.int k), some (.int l), some (.int f), some (.int n), some (.ref 108), some (.int z18), some (.int z63), some (.int z50)] d_Rod_read_131 rfl z63e.symm (by decide) rfl rfl ?_
                    refine V_goto 61 d_Rod_read_134 (by decide) ?_
                    refine V_drop 8 [some (.ref 85), some (.int k), some (.int l), some (.int f), some (.int n), some (.ref 108), some (.int z18), some (.int z63), none] rfl ?_
                    exact ihL29 z63 ((v31Z + 1)) h57 z63E hI59 f60 (kn_call fh57 K33 rfl) (kn_call fh57 K34 rfl) (kn_call fh57 K35 rfl) (kn_call fh57 K36 rfl) (by (first | decide +kernel | omega)) P61 (by rw [show ((v31Z + 1)).toNat = (v31Z).toNat + 1 by (first | decide +kernel | omega)]; exact hb9) (by (first | decide +kernel | omega))
                  ·
                    obtain ⟨hb0, hb1, hb2⟩ := hB.resolve_right (fun q => absurd q.1 (by (first | decide +kernel | omega)))
                    refine V_aload_n 0 d_Rod_read_114 rfl rfl ?_
                    refine V_getR fa_Rod_12 sk_85 rfl d_Rod_read_115 ?_
                    refine V_aload_n 0 d_Rod_read_118 rfl rfl ?_
                    refine V_getR fa_Rod_16 sk_85 rfl d_Rod_read_119 ?_
                    obtain ⟨z64, z64Z, z64E, z64e⟩ : ∃ (y : Int32) (Y : Int), y.toInt = Y ∧ y = h57.1 17 3 := ⟨_, _, rfl, rfl⟩
                    obtain ⟨z65, z65Z, z65E, z65e⟩ : ∃ (y : Int32) (Y : Int), y.toInt = Y ∧ y = h57.1 17 4 := ⟨_, _, rfl, rfl⟩
                    refine N_callVV [.ref 17] [] cv_Rod_84 sk_0 rfl d_Rod_read_122 rfl (Nat.le_of_ble_eq_true rfl) (by decide) (by decide) (c_County_copyX_0_1 h57 hI59 z64 z64Z z64E z64e.symm z65 z65Z z65E z65e.symm) (fun h67 p68 => ?_)
                    obtain ⟨hI69, fh67, p68⟩ := p68
                    have f70 : fr S_Rod_readZ h h67 := fr_call f60 fh67 rfl
                    have P71 : cF h h67 := sp3_back P61 p68
                    refine V_bipush (-20) d_Rod_read_125 (by decide) ?_
                    refine V_iload d_Rod_read_127 rfl ?_
                    refine V_isub tc_m20 v31E (by (first | decide +kernel | omega)) d_Rod_read_129 (fun z72 z72e z72E => ?_)
                    exact V_iret rfl d_Rod_read_130 ⟨z72, rfl, ⟨hI69, f70, (Or.inr ⟨by (first | decide +kernel | omega), by rw [show kZ.toNat = 0 by (first | decide +kernel | omega)]; exact RDc_bad (m := z18Z.toNat) (n := v31Z.toNat) (show ((z18Z.toNat : Nat) : Int) = whl (h.1 108 1).toInt (h.1 108 2).toInt lZ fZ nZ from by rw [t0K, s0K, t0E, s0E]; omega) (by (first | decide +kernel | omega)) (by rw [z72E]; omega) rn9 hb2 P71⟩)⟩⟩
            exact L29 (Int.toNat ((z18Z - 0 : Int) + 1)) 0 0 h24 tc_0 hI26 f27 (kn_call fh24 wK rfl) (kn_call fh24 gK rfl) (kn_call fh24 xK rfl) (kn_call fh24 yK rfl) (by (first | decide +kernel | omega)) P28 (RN_0 (fun k i hk => fh24.1 k i (ckS_no (lo := 0) (hi := 16) rfl (by (first | decide +kernel | omega)) hk))) (by (first | decide +kernel | omega))
          ·
            refine V_aald (r := 110) sk_107 (by decide) kE (by (first | decide +kernel | omega)) (by rw [c17]; rfl) d_Rod_read_33 ?_
            refine V_astore 5 [some (.ref 85), some (.int k), some (.int l), some (.int f), some (.int n), some (.ref 110), none, none, none] d_Rod_read_34 (by decide) rfl rfl ?_
            refine V_aload d_Rod_read_36 rfl ?_
            refine V_iload_n 2 d_Rod_read_38 rfl rfl ?_
            refine V_iload_n 3 d_Rod_read_39 rfl rfl ?_
            refine V_iload d_Rod_read_40 rfl ?_
            refine N_callVI [.int l, .int f, .int n] [] cv_Rod_300 sk_110 rfl d_Rod_read_42 rfl (Nat.le_of_ble_eq_true rfl) (by decide) (by decide) (c_Sheet_wholeBoresX_1 h hI l lZ lE f fZ fE n nZ nE t1 t1Z t1E t1K s1 s1Z s1E s1K (by (first | decide +kernel | omega))) (fun z73 h74 z73Z z73E p75 => ?_)
            obtain ⟨eh74, p75⟩ := p75
            subst eh74
            refine V_istore 6 [some (.ref 85), some (.int k), some (.int l), some (.int f), some (.int n), some (.ref 110), some (.int z73), none, none] d_Rod_read_45 (by decide) rfl rfl ?_
            refine V_aload_n 0 d_Rod_read_47 rfl rfl ?_
            refine V_getR fa_Rod_16 sk_85 rfl d_Rod_read_48 ?_
            refine V_aload_n 0 d_Rod_read_51 rfl rfl ?_
            refine V_getR fa_Rod_12 sk_85 rfl d_Rod_read_52 ?_
            obtain ⟨z76, z76Z, z76E, z76e⟩ : ∃ (y : Int32) (Y : Int), y.toInt = Y ∧ y = h.1 0 3 := ⟨_, _, rfl, rfl⟩
            obtain ⟨z77, z77Z, z77E, z77e⟩ : ∃ (y : Int32) (Y : Int), y.toInt = Y ∧ y = h.1 0 4 := ⟨_, _, rfl, rfl⟩
            refine N_callVV [.ref 0] [] cv_Rod_84 sk_17 rfl d_Rod_read_55 rfl (Nat.le_of_ble_eq_true rfl) (by decide) (by decide) (c_County_copyX_1_0 h hI z76 z76Z z76E z76e.symm z77 z77Z z77E z77e.symm) (fun h79 p80 => ?_)
            obtain ⟨hI81, fh79, p80⟩ := p80
            have f82 : fr S_Rod_readZ h h79 := fr_call f0 fh79 rfl
            have P83 : sp3 h h79 := sp3_of p80 fh79 rfl
            refine V_iconst 0 d_Rod_read_58 (by decide) ?_
            refine V_istore 7 [some (.ref 85), some (.int k), some (.int l), some (.int f), some (.int n), some (.ref 110), some (.int z73), some (.int 0), none] d_Rod_read_59 (by decide) rfl rfl ?_
            have L84 : ∀ (nn : Nat) (v86 : Int32) (v86Z : Int) (h87 : Hp), v86.toInt = v86Z → Inv h87 → fr S_Rod_readZ h h87 → h87.1 1 0 = w → h87.1 1 1 = g → h87.1 1 2 = x → h87.1 1 3 = y → 0 ≤ v86Z ∧ v86Z ≤ z73Z → sp3 h h87 → RN (h.1 5) (h.1 2) (h.1 1 2) (h.1 1 3) (wZ * gZ) (h.1 111) fZ.toNat (h.1 8) (h.1 6) v86Z.toNat (h87.1 8) (h87.1 6) → z73Z - v86Z < (nn : Int) → V R_Rod b_Rod_read 9 (some .int) 3 102 (q_Rod_readZ h k kZ l lZ f fZ n nZ w wZ g gZ x xZ y yZ t0 t0Z t1 t1Z t2 t2Z t3 t3Z s0 s0Z s1 s1Z s2 s2Z s3 s3Z) h87 61 [some (.ref 85), some (.int k), some (.int l), some (.int f), some (.int n), some (.ref 110), some (.int z73), some (.int v86), none] [] := by
              intro nn
              induction nn with
              | zero => intro v86 v86Z h87 v86E Ih87 Fh87 K88 K89 K90 K91 q92 q93 q94 hm95; exact absurd hm95 (by (first | decide +kernel | omega))
              | succ nn ihL84 =>
                intro v86 v86Z h87 v86E Ih87 Fh87 K88 K89 K90 K91 q92 q93 q94 hm95
                have sp9 : sp3 h h87 := by assumption
                have rn9 : RN (h.1 5) (h.1 2) (h.1 1 2) (h.1 1 3) (wZ * gZ) (h.1 111) fZ.toNat (h.1 8) (h.1 6) v86Z.toNat (h87.1 8) (h87.1 6) := by assumption
                refine V_iload d_Rod_read_61 rfl ?_
                refine V_iload d_Rod_read_63 rfl ?_
                refine V_icmp_ge 137 v86E z73E d_Rod_read_65 (by decide) (fun c96 => ?_) (fun c96 => ?_)
                ·
                  refine V_aload_n 0 d_Rod_read_137 rfl rfl ?_
                  refine V_aload d_Rod_read_138 rfl ?_
                  refine V_iload_n 2 d_Rod_read_140 rfl rfl ?_
                  refine V_iload d_Rod_read_141 rfl ?_
                  refine V_iload d_Rod_read_143 rfl ?_
                  refine N_callVI [.int l, .int n, .int z73] [.ref 85] cv_Rod_306 sk_110 rfl d_Rod_read_145 rfl (Nat.le_of_ble_eq_true rfl) (by decide) (by decide) (c_Sheet_readFault_1 h87 Ih87 l lZ lE n nZ nE z73 z73Z z73E) (fun z97 h98 z97Z z97E p99 => ?_)
                  subst p99
                  refine N_putI fp_Rod_309 sk_85 rfl d_Rod_read_148 (fun h100 eh100 => ?_)
                  have hI101 : Inv h100 := inv_full Ih87 eh100 rfl
                  have f102 : fr S_Rod_readZ h h100 := fr_put Fh87 eh100 rfl
                  have P103 : sp3 h h100 := sp3_put sp9 eh100 (by decide)
                  refine V_iload d_Rod_read_151 rfl ?_
                  exact V_iret rfl d_Rod_read_153 ⟨z73, rfl, ⟨hI101, f102, (Or.inr ⟨by (first | decide +kernel | omega), by rw [show kZ.toNat = 1 by (first | decide +kernel | omega)]; exact RDc_good (m := z73Z.toNat) (show ((z73Z.toNat : Nat) : Int) = whl (h.1 110 1).toInt (h.1 110 2).toInt lZ fZ nZ from by rw [t1K, s1K, t1E, s1E]; omega) (by rw [z73E]; omega) (by rw [eh100, pI_ne (by decide), pI_ne (by decide), show z73Z.toNat = v86Z.toNat by (first | decide +kernel | omega)]; exact rn9) P103⟩)⟩⟩
                ·
                  refine V_iload_n 3 d_Rod_read_68 rfl rfl ?_
                  refine V_iconst 3 d_Rod_read_69 (by decide) ?_
                  refine V_iload d_Rod_read_70 rfl ?_
                  refine V_imul tc_3 v86E (by (first | decide +kernel | omega)) d_Rod_read_72 (fun z104 z104e z104E => ?_)
                  refine V_iadd fE z104E (by (first | decide +kernel | omega)) d_Rod_read_73 (fun z105 z105e z105E => ?_)
                  refine V_istore 8 [some (.ref 85), some (.int k), some (.int l), some (.int f), some (.int n), some (.ref 110), some (.int z73), some (.int v86), some (.int z105)] d_Rod_read_74 (by decide) rfl rfl ?_
                  refine V_aload_n 0 d_Rod_read_76 rfl rfl ?_
                  refine V_getR fa_Rod_12 sk_85 rfl d_Rod_read_77 ?_
                  refine V_aload d_Rod_read_80 rfl ?_
                  refine V_getR fa_Rod_303 sk_110 rfl d_Rod_read_82 ?_
                  refine V_iload d_Rod_read_85 rfl ?_
                  refine N_iald sk_111 z105E (by (first | decide +kernel | omega)) d_Rod_read_87 (fun z106 z106Z z106E z106e => ?_)
                  refine V_aload d_Rod_read_88 rfl ?_
                  refine V_getR fa_Rod_303 sk_110 rfl d_Rod_read_90 ?_
                  refine V_iload d_Rod_read_93 rfl ?_
                  refine V_iconst 1 d_Rod_read_95 (by decide) ?_
                  refine V_iadd z105E tc_1 (by (first | decide +kernel | omega)) d_Rod_read_96 (fun z107 z107e z107E => ?_)
                  refine N_iald sk_111 z107E (by (first | decide +kernel | omega)) d_Rod_read_97 (fun z108 z108Z z108E z108e => ?_)
                  refine V_aload d_Rod_read_98 rfl ?_
                  refine V_getR fa_Rod_303 sk_110 rfl d_Rod_read_100 ?_
                  refine V_iload d_Rod_read_103 rfl ?_
                  refine V_iconst 2 d_Rod_read_105 (by decide) ?_
                  refine V_iadd z105E tc_2 (by (first | decide +kernel | omega)) d_Rod_read_106 (fun z109 z109e z109E => ?_)
                  refine N_iald sk_111 z109E (by (first | decide +kernel | omega)) d_Rod_read_107 (fun z110 z110Z z110E z110e => ?_)
                  refine N_callVI [.int z106, .int z108, .int z110] [] cv_Rod_227 sk_0 rfl d_Rod_read_108 rfl (Nat.le_of_ble_eq_true rfl) (by decide) (by decide) (c_County_boreByX_0 h87 Ih87 z106 z106Z z106E z108 z108Z z108E z110 z110Z z110E w wZ wE K88 g gZ gE K89 x xZ xE K90 y yZ yE K91) (fun z111 h112 z111Z z111E p113 => ?_)
                  obtain ⟨hI114, fh112, p113⟩ := p113
                  have f115 : fr S_Rod_readZ h h112 := fr_call Fh87 fh112 rfl
                  have P116 : sp3 h h112 := sp3_fr sp9 fh112 rfl
                  have hB := RN_c (h := h) (row := 111) (f := fZ.toNat) (n := v86Z.toNat) (W := wZ * gZ) (by (first | decide +kernel | omega)) rn9 sp9 z106E z108E z110E p113 (by rw [z106e, Fh87.1 111 _ rfl]; exact congrArg (h.1 111) (by (first | decide +kernel | omega))) (by rw [z108e, Fh87.1 111 _ rfl]; exact congrArg (h.1 111) (by (first | decide +kernel | omega))) (by rw [z110e, Fh87.1 111 _ rfl]; exact congrArg (h.1 111) (by (first | decide +kernel | omega)))
                  refine V_if_ge 131 z111E d_Rod_read_111 (by decide) (fun c117 => ?_) (fun c117 => ?_)
                  ·
                    have hb9 := (hB.resolve_left (fun q => absurd q.1 (by (first | decide +kernel | omega)))).2
                    obtain ⟨z118, z118E, z118e⟩ : ∃ y : Int32, y.toInt = v86Z + 1 ∧ y = v86 + Int32.ofInt 1 := ⟨_, ti_add v86E (by decide) (by (first | decide +kernel | omega)), rfl⟩
                    refine V_iinc 7 [some (.ref 85), some (.int k), some (.int l), some (.int f), some (.int n), some (.ref 110), some (.int z73), some (.int z118), some (.int z105)] d_Rod_read_131 rfl z118e.symm (by decide) rfl rfl ?_
                    refine V_goto 61 d_Rod_read_134 (by decide) ?_
                    refine V_drop 8 [some (.ref 85), some (.int k), some (.int l), some (.int f), some (.int n), some (.ref 110), some (.int z73), some (.int z118), none] rfl ?_
                    exact ihL84 z118 ((v86Z + 1)) h112 z118E hI114 f115 (kn_call fh112 K88 rfl) (kn_call fh112 K89 rfl) (kn_call fh112 K90 rfl) (kn_call fh112 K91 rfl) (by (first | decide +kernel | omega)) P116 (by rw [show ((v86Z + 1)).toNat = (v86Z).toNat + 1 by (first | decide +kernel | omega)]; exact hb9) (by (first | decide +kernel | omega))
                  ·
                    obtain ⟨hb0, hb1, hb2⟩ := hB.resolve_right (fun q => absurd q.1 (by (first | decide +kernel | omega)))
                    refine V_aload_n 0 d_Rod_read_114 rfl rfl ?_
                    refine V_getR fa_Rod_12 sk_85 rfl d_Rod_read_115 ?_
                    refine V_aload_n 0 d_Rod_read_118 rfl rfl ?_
                    refine V_getR fa_Rod_16 sk_85 rfl d_Rod_read_119 ?_
                    obtain ⟨z119, z119Z, z119E, z119e⟩ : ∃ (y : Int32) (Y : Int), y.toInt = Y ∧ y = h112.1 17 3 := ⟨_, _, rfl, rfl⟩
                    obtain ⟨z120, z120Z, z120E, z120e⟩ : ∃ (y : Int32) (Y : Int), y.toInt = Y ∧ y = h112.1 17 4 := ⟨_, _, rfl, rfl⟩
                    refine N_callVV [.ref 17] [] cv_Rod_84 sk_0 rfl d_Rod_read_122 rfl (Nat.le_of_ble_eq_true rfl) (by decide) (by decide) (c_County_copyX_0_1 h112 hI114 z119 z119Z z119E z119e.symm z120 z120Z z120E z120e.symm) (fun h122 p123 => ?_)
                    obtain ⟨hI124, fh122, p123⟩ := p123
                    have f125 : fr S_Rod_readZ h h122 := fr_call f115 fh122 rfl
                    have P126 : cF h h122 := sp3_back P116 p123
                    refine V_bipush (-20) d_Rod_read_125 (by decide) ?_
                    refine V_iload d_Rod_read_127 rfl ?_
                    refine V_isub tc_m20 v86E (by (first | decide +kernel | omega)) d_Rod_read_129 (fun z127 z127e z127E => ?_)
                    exact V_iret rfl d_Rod_read_130 ⟨z127, rfl, ⟨hI124, f125, (Or.inr ⟨by (first | decide +kernel | omega), by rw [show kZ.toNat = 1 by (first | decide +kernel | omega)]; exact RDc_bad (m := z73Z.toNat) (n := v86Z.toNat) (show ((z73Z.toNat : Nat) : Int) = whl (h.1 110 1).toInt (h.1 110 2).toInt lZ fZ nZ from by rw [t1K, s1K, t1E, s1E]; omega) (by (first | decide +kernel | omega)) (by rw [z127E]; omega) rn9 hb2 P126⟩)⟩⟩
            exact L84 (Int.toNat ((z73Z - 0 : Int) + 1)) 0 0 h79 tc_0 hI81 f82 (kn_call fh79 wK rfl) (kn_call fh79 gK rfl) (kn_call fh79 xK rfl) (kn_call fh79 yK rfl) (by (first | decide +kernel | omega)) P83 (RN_0 (fun k i hk => fh79.1 k i (ckS_no (lo := 0) (hi := 16) rfl (by (first | decide +kernel | omega)) hk))) (by (first | decide +kernel | omega))
          ·
            refine V_aald (r := 112) sk_107 (by decide) kE (by (first | decide +kernel | omega)) (by rw [c17]; rfl) d_Rod_read_33 ?_
            refine V_astore 5 [some (.ref 85), some (.int k), some (.int l), some (.int f), some (.int n), some (.ref 112), none, none, none] d_Rod_read_34 (by decide) rfl rfl ?_
            refine V_aload d_Rod_read_36 rfl ?_
            refine V_iload_n 2 d_Rod_read_38 rfl rfl ?_
            refine V_iload_n 3 d_Rod_read_39 rfl rfl ?_
            refine V_iload d_Rod_read_40 rfl ?_
            refine N_callVI [.int l, .int f, .int n] [] cv_Rod_300 sk_112 rfl d_Rod_read_42 rfl (Nat.le_of_ble_eq_true rfl) (by decide) (by decide) (c_Sheet_wholeBoresX_2 h hI l lZ lE f fZ fE n nZ nE t2 t2Z t2E t2K s2 s2Z s2E s2K (by (first | decide +kernel | omega))) (fun z128 h129 z128Z z128E p130 => ?_)
            obtain ⟨eh129, p130⟩ := p130
            subst eh129
            refine V_istore 6 [some (.ref 85), some (.int k), some (.int l), some (.int f), some (.int n), some (.ref 112), some (.int z128), none, none] d_Rod_read_45 (by decide) rfl rfl ?_
            refine V_aload_n 0 d_Rod_read_47 rfl rfl ?_
            refine V_getR fa_Rod_16 sk_85 rfl d_Rod_read_48 ?_
            refine V_aload_n 0 d_Rod_read_51 rfl rfl ?_
            refine V_getR fa_Rod_12 sk_85 rfl d_Rod_read_52 ?_
            obtain ⟨z131, z131Z, z131E, z131e⟩ : ∃ (y : Int32) (Y : Int), y.toInt = Y ∧ y = h.1 0 3 := ⟨_, _, rfl, rfl⟩
            obtain ⟨z132, z132Z, z132E, z132e⟩ : ∃ (y : Int32) (Y : Int), y.toInt = Y ∧ y = h.1 0 4 := ⟨_, _, rfl, rfl⟩
            refine N_callVV [.ref 0] [] cv_Rod_84 sk_17 rfl d_Rod_read_55 rfl (Nat.le_of_ble_eq_true rfl) (by decide) (by decide) (c_County_copyX_1_0 h hI z131 z131Z z131E z131e.symm z132 z132Z z132E z132e.symm) (fun h134 p135 => ?_)
            obtain ⟨hI136, fh134, p135⟩ := p135
            have f137 : fr S_Rod_readZ h h134 := fr_call f0 fh134 rfl
            have P138 : sp3 h h134 := sp3_of p135 fh134 rfl
            refine V_iconst 0 d_Rod_read_58 (by decide) ?_
            refine V_istore 7 [some (.ref 85), some (.int k), some (.int l), some (.int f), some (.int n), some (.ref 112), some (.int z128), some (.int 0), none] d_Rod_read_59 (by decide) rfl rfl ?_
            have L139 : ∀ (nn : Nat) (v141 : Int32) (v141Z : Int) (h142 : Hp), v141.toInt = v141Z → Inv h142 → fr S_Rod_readZ h h142 → h142.1 1 0 = w → h142.1 1 1 = g → h142.1 1 2 = x → h142.1 1 3 = y → 0 ≤ v141Z ∧ v141Z ≤ z128Z → sp3 h h142 → RN (h.1 5) (h.1 2) (h.1 1 2) (h.1 1 3) (wZ * gZ) (h.1 113) fZ.toNat (h.1 8) (h.1 6) v141Z.toNat (h142.1 8) (h142.1 6) → z128Z - v141Z < (nn : Int) → V R_Rod b_Rod_read 9 (some .int) 3 102 (q_Rod_readZ h k kZ l lZ f fZ n nZ w wZ g gZ x xZ y yZ t0 t0Z t1 t1Z t2 t2Z t3 t3Z s0 s0Z s1 s1Z s2 s2Z s3 s3Z) h142 61 [some (.ref 85), some (.int k), some (.int l), some (.int f), some (.int n), some (.ref 112), some (.int z128), some (.int v141), none] [] := by
              intro nn
              induction nn with
              | zero => intro v141 v141Z h142 v141E Ih142 Fh142 K143 K144 K145 K146 q147 q148 q149 hm150; exact absurd hm150 (by (first | decide +kernel | omega))
              | succ nn ihL139 =>
                intro v141 v141Z h142 v141E Ih142 Fh142 K143 K144 K145 K146 q147 q148 q149 hm150
                have sp9 : sp3 h h142 := by assumption
                have rn9 : RN (h.1 5) (h.1 2) (h.1 1 2) (h.1 1 3) (wZ * gZ) (h.1 113) fZ.toNat (h.1 8) (h.1 6) v141Z.toNat (h142.1 8) (h142.1 6) := by assumption
                refine V_iload d_Rod_read_61 rfl ?_
                refine V_iload d_Rod_read_63 rfl ?_
                refine V_icmp_ge 137 v141E z128E d_Rod_read_65 (by decide) (fun c151 => ?_) (fun c151 => ?_)
                ·
                  refine V_aload_n 0 d_Rod_read_137 rfl rfl ?_
                  refine V_aload d_Rod_read_138 rfl ?_
                  refine V_iload_n 2 d_Rod_read_140 rfl rfl ?_
                  refine V_iload d_Rod_read_141 rfl ?_
                  refine V_iload d_Rod_read_143 rfl ?_
                  refine N_callVI [.int l, .int n, .int z128] [.ref 85] cv_Rod_306 sk_112 rfl d_Rod_read_145 rfl (Nat.le_of_ble_eq_true rfl) (by decide) (by decide) (c_Sheet_readFault_2 h142 Ih142 l lZ lE n nZ nE z128 z128Z z128E) (fun z152 h153 z152Z z152E p154 => ?_)
                  subst p154
                  refine N_putI fp_Rod_309 sk_85 rfl d_Rod_read_148 (fun h155 eh155 => ?_)
                  have hI156 : Inv h155 := inv_full Ih142 eh155 rfl
                  have f157 : fr S_Rod_readZ h h155 := fr_put Fh142 eh155 rfl
                  have P158 : sp3 h h155 := sp3_put sp9 eh155 (by decide)
                  refine V_iload d_Rod_read_151 rfl ?_
                  exact V_iret rfl d_Rod_read_153 ⟨z128, rfl, ⟨hI156, f157, (Or.inr ⟨by (first | decide +kernel | omega), by rw [show kZ.toNat = 2 by (first | decide +kernel | omega)]; exact RDc_good (m := z128Z.toNat) (show ((z128Z.toNat : Nat) : Int) = whl (h.1 112 1).toInt (h.1 112 2).toInt lZ fZ nZ from by rw [t2K, s2K, t2E, s2E]; omega) (by rw [z128E]; omega) (by rw [eh155, pI_ne (by decide), pI_ne (by decide), show z128Z.toNat = v141Z.toNat by (first | decide +kernel | omega)]; exact rn9) P158⟩)⟩⟩
                ·
                  refine V_iload_n 3 d_Rod_read_68 rfl rfl ?_
                  refine V_iconst 3 d_Rod_read_69 (by decide) ?_
                  refine V_iload d_Rod_read_70 rfl ?_
                  refine V_imul tc_3 v141E (by (first | decide +kernel | omega)) d_Rod_read_72 (fun z159 z159e z159E => ?_)
                  refine V_iadd fE z159E (by (first | decide +kernel | omega)) d_Rod_read_73 (fun z160 z160e z160E => ?_)
                  refine V_istore 8 [some (.ref 85), some (.int k), some (.int l), some (.int f), some (.int n), some (.ref 112), some (.int z128), some (.int v141), some (.int z160)] d_Rod_read_74 (by decide) rfl rfl ?_
                  refine V_aload_n 0 d_Rod_read_76 rfl rfl ?_
                  refine V_getR fa_Rod_12 sk_85 rfl d_Rod_read_77 ?_
                  refine V_aload d_Rod_read_80 rfl ?_
                  refine V_getR fa_Rod_303 sk_112 rfl d_Rod_read_82 ?_
                  refine V_iload d_Rod_read_85 rfl ?_
                  refine N_iald sk_113 z160E (by (first | decide +kernel | omega)) d_Rod_read_87 (fun z161 z161Z z161E z161e => ?_)
                  refine V_aload d_Rod_read_88 rfl ?_
                  refine V_getR fa_Rod_303 sk_112 rfl d_Rod_read_90 ?_
                  refine V_iload d_Rod_read_93 rfl ?_
                  refine V_iconst 1 d_Rod_read_95 (by decide) ?_
                  refine V_iadd z160E tc_1 (by (first | decide +kernel | omega)) d_Rod_read_96 (fun z162 z162e z162E => ?_)
                  refine N_iald sk_113 z162E (by (first | decide +kernel | omega)) d_Rod_read_97 (fun z163 z163Z z163E z163e => ?_)
                  refine V_aload d_Rod_read_98 rfl ?_
                  refine V_getR fa_Rod_303 sk_112 rfl d_Rod_read_100 ?_
                  refine V_iload d_Rod_read_103 rfl ?_
                  refine V_iconst 2 d_Rod_read_105 (by decide) ?_
                  refine V_iadd z160E tc_2 (by (first | decide +kernel | omega)) d_Rod_read_106 (fun z164 z164e z164E => ?_)
                  refine N_iald sk_113 z164E (by (first | decide +kernel | omega)) d_Rod_read_107 (fun z165 z165Z z165E z165e => ?_)
                  refine N_callVI [.int z161, .int z163, .int z165] [] cv_Rod_227 sk_0 rfl d_Rod_read_108 rfl (Nat.le_of_ble_eq_true rfl) (by decide) (by decide) (c_County_boreByX_0 h142 Ih142 z161 z161Z z161E z163 z163Z z163E z165 z165Z z165E w wZ wE K143 g gZ gE K144 x xZ xE K145 y yZ yE K146) (fun z166 h167 z166Z z166E p168 => ?_)
                  obtain ⟨hI169, fh167, p168⟩ := p168
                  have f170 : fr S_Rod_readZ h h167 := fr_call Fh142 fh167 rfl
                  have P171 : sp3 h h167 := sp3_fr sp9 fh167 rfl
                  have hB := RN_c (h := h) (row := 113) (f := fZ.toNat) (n := v141Z.toNat) (W := wZ * gZ) (by (first | decide +kernel | omega)) rn9 sp9 z161E z163E z165E p168 (by rw [z161e, Fh142.1 113 _ rfl]; exact congrArg (h.1 113) (by (first | decide +kernel | omega))) (by rw [z163e, Fh142.1 113 _ rfl]; exact congrArg (h.1 113) (by (first | decide +kernel | omega))) (by rw [z165e, Fh142.1 113 _ rfl]; exact congrArg (h.1 113) (by (first | decide +kernel | omega)))
                  refine V_if_ge 131 z166E d_Rod_read_111 (by decide) (fun c172 => ?_) (fun c172 => ?_)
                  ·
                    have hb9 := (hB.resolve_left (fun q => absurd q.1 (by (first | decide +kernel | omega)))).2
                    obtain ⟨z173, z173E, z173e⟩ : ∃ y : Int32, y.toInt = v141Z + 1 ∧ y = v141 + Int32.ofInt 1 := ⟨_, ti_add v141E (by decide) (by (first | decide +kernel | omega)), rfl⟩
                    refine V_iinc 7 [some (.ref 85), some (.int k), some (.int l), some (.int f), some (.int n), some (.ref 112), some (.int z128), some (.int z173), some (.int z160)] d_Rod_read_131 rfl z173e.symm (by decide) rfl rfl ?_
                    refine V_goto 61 d_Rod_read_134 (by decide) ?_
                    refine V_drop 8 [some (.ref 85), some (.int k), some (.int l), some (.int f), some (.int n), some (.ref 112), some (.int z128), some (.int z173), none] rfl ?_
                    exact ihL139 z173 ((v141Z + 1)) h167 z173E hI169 f170 (kn_call fh167 K143 rfl) (kn_call fh167 K144 rfl) (kn_call fh167 K145 rfl) (kn_call fh167 K146 rfl) (by (first | decide +kernel | omega)) P171 (by rw [show ((v141Z + 1)).toNat = (v141Z).toNat + 1 by (first | decide +kernel | omega)]; exact hb9) (by (first | decide +kernel | omega))
                  ·
                    obtain ⟨hb0, hb1, hb2⟩ := hB.resolve_right (fun q => absurd q.1 (by (first | decide +kernel | omega)))
                    refine V_aload_n 0 d_Rod_read_114 rfl rfl ?_
                    refine V_getR fa_Rod_12 sk_85 rfl d_Rod_read_115 ?_
                    refine V_aload_n 0 d_Rod_read_118 rfl rfl ?_
                    refine V_getR fa_Rod_16 sk_85 rfl d_Rod_read_119 ?_
                    obtain ⟨z174, z174Z, z174E, z174e⟩ : ∃ (y : Int32) (Y : Int), y.toInt = Y ∧ y = h167.1 17 3 := ⟨_, _, rfl, rfl⟩
                    obtain ⟨z175, z175Z, z175E, z175e⟩ : ∃ (y : Int32) (Y : Int), y.toInt = Y ∧ y = h167.1 17 4 := ⟨_, _, rfl, rfl⟩
                    refine N_callVV [.ref 17] [] cv_Rod_84 sk_0 rfl d_Rod_read_122 rfl (Nat.le_of_ble_eq_true rfl) (by decide) (by decide) (c_County_copyX_0_1 h167 hI169 z174 z174Z z174E z174e.symm z175 z175Z z175E z175e.symm) (fun h177 p178 => ?_)
                    obtain ⟨hI179, fh177, p178⟩ := p178
                    have f180 : fr S_Rod_readZ h h177 := fr_call f170 fh177 rfl
                    have P181 : cF h h177 := sp3_back P171 p178
                    refine V_bipush (-20) d_Rod_read_125 (by decide) ?_
                    refine V_iload d_Rod_read_127 rfl ?_
                    refine V_isub tc_m20 v141E (by (first | decide +kernel | omega)) d_Rod_read_129 (fun z182 z182e z182E => ?_)
                    exact V_iret rfl d_Rod_read_130 ⟨z182, rfl, ⟨hI179, f180, (Or.inr ⟨by (first | decide +kernel | omega), by rw [show kZ.toNat = 2 by (first | decide +kernel | omega)]; exact RDc_bad (m := z128Z.toNat) (n := v141Z.toNat) (show ((z128Z.toNat : Nat) : Int) = whl (h.1 112 1).toInt (h.1 112 2).toInt lZ fZ nZ from by rw [t2K, s2K, t2E, s2E]; omega) (by (first | decide +kernel | omega)) (by rw [z182E]; omega) rn9 hb2 P181⟩)⟩⟩
            exact L139 (Int.toNat ((z128Z - 0 : Int) + 1)) 0 0 h134 tc_0 hI136 f137 (kn_call fh134 wK rfl) (kn_call fh134 gK rfl) (kn_call fh134 xK rfl) (kn_call fh134 yK rfl) (by (first | decide +kernel | omega)) P138 (RN_0 (fun k i hk => fh134.1 k i (ckS_no (lo := 0) (hi := 16) rfl (by (first | decide +kernel | omega)) hk))) (by (first | decide +kernel | omega))
          ·
            refine V_aald (r := 114) sk_107 (by decide) kE (by (first | decide +kernel | omega)) (by rw [c17]; rfl) d_Rod_read_33 ?_
            refine V_astore 5 [some (.ref 85), some (.int k), some (.int l), some (.int f), some (.int n), some (.ref 114), none, none, none] d_Rod_read_34 (by decide) rfl rfl ?_
            refine V_aload d_Rod_read_36 rfl ?_
            refine V_iload_n 2 d_Rod_read_38 rfl rfl ?_
            refine V_iload_n 3 d_Rod_read_39 rfl rfl ?_
            refine V_iload d_Rod_read_40 rfl ?_
            refine N_callVI [.int l, .int f, .int n] [] cv_Rod_300 sk_114 rfl d_Rod_read_42 rfl (Nat.le_of_ble_eq_true rfl) (by decide) (by decide) (c_Sheet_wholeBoresX_3 h hI l lZ lE f fZ fE n nZ nE t3 t3Z t3E t3K s3 s3Z s3E s3K (by (first | decide +kernel | omega))) (fun z183 h184 z183Z z183E p185 => ?_)
            obtain ⟨eh184, p185⟩ := p185
            subst eh184
            refine V_istore 6 [some (.ref 85), some (.int k), some (.int l), some (.int f), some (.int n), some (.ref 114), some (.int z183), none, none] d_Rod_read_45 (by decide) rfl rfl ?_
            refine V_aload_n 0 d_Rod_read_47 rfl rfl ?_
            refine V_getR fa_Rod_16 sk_85 rfl d_Rod_read_48 ?_
            refine V_aload_n 0 d_Rod_read_51 rfl rfl ?_
            refine V_getR fa_Rod_12 sk_85 rfl d_Rod_read_52 ?_
            obtain ⟨z186, z186Z, z186E, z186e⟩ : ∃ (y : Int32) (Y : Int), y.toInt = Y ∧ y = h.1 0 3 := ⟨_, _, rfl, rfl⟩
            obtain ⟨z187, z187Z, z187E, z187e⟩ : ∃ (y : Int32) (Y : Int), y.toInt = Y ∧ y = h.1 0 4 := ⟨_, _, rfl, rfl⟩
            refine N_callVV [.ref 0] [] cv_Rod_84 sk_17 rfl d_Rod_read_55 rfl (Nat.le_of_ble_eq_true rfl) (by decide) (by decide) (c_County_copyX_1_0 h hI z186 z186Z z186E z186e.symm z187 z187Z z187E z187e.symm) (fun h189 p190 => ?_)
            obtain ⟨hI191, fh189, p190⟩ := p190
            have f192 : fr S_Rod_readZ h h189 := fr_call f0 fh189 rfl
            have P193 : sp3 h h189 := sp3_of p190 fh189 rfl
            refine V_iconst 0 d_Rod_read_58 (by decide) ?_
            refine V_istore 7 [some (.ref 85), some (.int k), some (.int l), some (.int f), some (.int n), some (.ref 114), some (.int z183), some (.int 0), none] d_Rod_read_59 (by decide) rfl rfl ?_
            have L194 : ∀ (nn : Nat) (v196 : Int32) (v196Z : Int) (h197 : Hp), v196.toInt = v196Z → Inv h197 → fr S_Rod_readZ h h197 → h197.1 1 0 = w → h197.1 1 1 = g → h197.1 1 2 = x → h197.1 1 3 = y → 0 ≤ v196Z ∧ v196Z ≤ z183Z → sp3 h h197 → RN (h.1 5) (h.1 2) (h.1 1 2) (h.1 1 3) (wZ * gZ) (h.1 115) fZ.toNat (h.1 8) (h.1 6) v196Z.toNat (h197.1 8) (h197.1 6) → z183Z - v196Z < (nn : Int) → V R_Rod b_Rod_read 9 (some .int) 3 102 (q_Rod_readZ h k kZ l lZ f fZ n nZ w wZ g gZ x xZ y yZ t0 t0Z t1 t1Z t2 t2Z t3 t3Z s0 s0Z s1 s1Z s2 s2Z s3 s3Z) h197 61 [some (.ref 85), some (.int k), some (.int l), some (.int f), some (.int n), some (.ref 114), some (.int z183), some (.int v196), none] [] := by
              intro nn
              induction nn with
              | zero => intro v196 v196Z h197 v196E Ih197 Fh197 K198 K199 K200 K201 q202 q203 q204 hm205; exact absurd hm205 (by (first | decide +kernel | omega))
              | succ nn ihL194 =>
                intro v196 v196Z h197 v196E Ih197 Fh197 K198 K199 K200 K201 q202 q203 q204 hm205
                have sp9 : sp3 h h197 := by assumption
                have rn9 : RN (h.1 5) (h.1 2) (h.1 1 2) (h.1 1 3) (wZ * gZ) (h.1 115) fZ.toNat (h.1 8) (h.1 6) v196Z.toNat (h197.1 8) (h197.1 6) := by assumption
                refine V_iload d_Rod_read_61 rfl ?_
                refine V_iload d_Rod_read_63 rfl ?_
                refine V_icmp_ge 137 v196E z183E d_Rod_read_65 (by decide) (fun c206 => ?_) (fun c206 => ?_)
                ·
                  refine V_aload_n 0 d_Rod_read_137 rfl rfl ?_
                  refine V_aload d_Rod_read_138 rfl ?_
                  refine V_iload_n 2 d_Rod_read_140 rfl rfl ?_
                  refine V_iload d_Rod_read_141 rfl ?_
                  refine V_iload d_Rod_read_143 rfl ?_
                  refine N_callVI [.int l, .int n, .int z183] [.ref 85] cv_Rod_306 sk_114 rfl d_Rod_read_145 rfl (Nat.le_of_ble_eq_true rfl) (by decide) (by decide) (c_Sheet_readFault_3 h197 Ih197 l lZ lE n nZ nE z183 z183Z z183E) (fun z207 h208 z207Z z207E p209 => ?_)
                  subst p209
                  refine N_putI fp_Rod_309 sk_85 rfl d_Rod_read_148 (fun h210 eh210 => ?_)
                  have hI211 : Inv h210 := inv_full Ih197 eh210 rfl
                  have f212 : fr S_Rod_readZ h h210 := fr_put Fh197 eh210 rfl
                  have P213 : sp3 h h210 := sp3_put sp9 eh210 (by decide)
                  refine V_iload d_Rod_read_151 rfl ?_
                  exact V_iret rfl d_Rod_read_153 ⟨z183, rfl, ⟨hI211, f212, (Or.inr ⟨by (first | decide +kernel | omega), by rw [show kZ.toNat = 3 by (first | decide +kernel | omega)]; exact RDc_good (m := z183Z.toNat) (show ((z183Z.toNat : Nat) : Int) = whl (h.1 114 1).toInt (h.1 114 2).toInt lZ fZ nZ from by rw [t3K, s3K, t3E, s3E]; omega) (by rw [z183E]; omega) (by rw [eh210, pI_ne (by decide), pI_ne (by decide), show z183Z.toNat = v196Z.toNat by (first | decide +kernel | omega)]; exact rn9) P213⟩)⟩⟩
                ·
                  refine V_iload_n 3 d_Rod_read_68 rfl rfl ?_
                  refine V_iconst 3 d_Rod_read_69 (by decide) ?_
                  refine V_iload d_Rod_read_70 rfl ?_
                  refine V_imul tc_3 v196E (by (first | decide +kernel | omega)) d_Rod_read_72 (fun z214 z214e z214E => ?_)
                  refine V_iadd fE z214E (by (first | decide +kernel | omega)) d_Rod_read_73 (fun z215 z215e z215E => ?_)
                  refine V_istore 8 [some (.ref 85), some (.int k), some (.int l), some (.int f), some (.int n), some (.ref 114), some (.int z183), some (.int v196), some (.int z215)] d_Rod_read_74 (by decide) rfl rfl ?_
                  refine V_aload_n 0 d_Rod_read_76 rfl rfl ?_
                  refine V_getR fa_Rod_12 sk_85 rfl d_Rod_read_77 ?_
                  refine V_aload d_Rod_read_80 rfl ?_
                  refine V_getR fa_Rod_303 sk_114 rfl d_Rod_read_82 ?_
                  refine V_iload d_Rod_read_85 rfl ?_
                  refine N_iald sk_115 z215E (by (first | decide +kernel | omega)) d_Rod_read_87 (fun z216 z216Z z216E z216e => ?_)
                  refine V_aload d_Rod_read_88 rfl ?_
                  refine V_getR fa_Rod_303 sk_114 rfl d_Rod_read_90 ?_
                  refine V_iload d_Rod_read_93 rfl ?_
                  refine V_iconst 1 d_Rod_read_95 (by decide) ?_
                  refine V_iadd z215E tc_1 (by (first | decide +kernel | omega)) d_Rod_read_96 (fun z217 z217e z217E => ?_)
                  refine N_iald sk_115 z217E (by (first | decide +kernel | omega)) d_Rod_read_97 (fun z218 z218Z z218E z218e => ?_)
                  refine V_aload d_Rod_read_98 rfl ?_
                  refine V_getR fa_Rod_303 sk_114 rfl d_Rod_read_100 ?_
                  refine V_iload d_Rod_read_103 rfl ?_
                  refine V_iconst 2 d_Rod_read_105 (by decide) ?_
                  refine V_iadd z215E tc_2 (by (first | decide +kernel | omega)) d_Rod_read_106 (fun z219 z219e z219E => ?_)
                  refine N_iald sk_115 z219E (by (first | decide +kernel | omega)) d_Rod_read_107 (fun z220 z220Z z220E z220e => ?_)
                  refine N_callVI [.int z216, .int z218, .int z220] [] cv_Rod_227 sk_0 rfl d_Rod_read_108 rfl (Nat.le_of_ble_eq_true rfl) (by decide) (by decide) (c_County_boreByX_0 h197 Ih197 z216 z216Z z216E z218 z218Z z218E z220 z220Z z220E w wZ wE K198 g gZ gE K199 x xZ xE K200 y yZ yE K201) (fun z221 h222 z221Z z221E p223 => ?_)
                  obtain ⟨hI224, fh222, p223⟩ := p223
                  have f225 : fr S_Rod_readZ h h222 := fr_call Fh197 fh222 rfl
                  have P226 : sp3 h h222 := sp3_fr sp9 fh222 rfl
                  have hB := RN_c (h := h) (row := 115) (f := fZ.toNat) (n := v196Z.toNat) (W := wZ * gZ) (by (first | decide +kernel | omega)) rn9 sp9 z216E z218E z220E p223 (by rw [z216e, Fh197.1 115 _ rfl]; exact congrArg (h.1 115) (by (first | decide +kernel | omega))) (by rw [z218e, Fh197.1 115 _ rfl]; exact congrArg (h.1 115) (by (first | decide +kernel | omega))) (by rw [z220e, Fh197.1 115 _ rfl]; exact congrArg (h.1 115) (by (first | decide +kernel | omega)))
                  refine V_if_ge 131 z221E d_Rod_read_111 (by decide) (fun c227 => ?_) (fun c227 => ?_)
                  ·
                    have hb9 := (hB.resolve_left (fun q => absurd q.1 (by (first | decide +kernel | omega)))).2
                    obtain ⟨z228, z228E, z228e⟩ : ∃ y : Int32, y.toInt = v196Z + 1 ∧ y = v196 + Int32.ofInt 1 := ⟨_, ti_add v196E (by decide) (by (first | decide +kernel | omega)), rfl⟩
                    refine V_iinc 7 [some (.ref 85), some (.int k), some (.int l), some (.int f), some (.int n), some (.ref 114), some (.int z183), some (.int z228), some (.int z215)] d_Rod_read_131 rfl z228e.symm (by decide) rfl rfl ?_
                    refine V_goto 61 d_Rod_read_134 (by decide) ?_
                    refine V_drop 8 [some (.ref 85), some (.int k), some (.int l), some (.int f), some (.int n), some (.ref 114), some (.int z183), some (.int z228), none] rfl ?_
                    exact ihL194 z228 ((v196Z + 1)) h222 z228E hI224 f225 (kn_call fh222 K198 rfl) (kn_call fh222 K199 rfl) (kn_call fh222 K200 rfl) (kn_call fh222 K201 rfl) (by (first | decide +kernel | omega)) P226 (by rw [show ((v196Z + 1)).toNat = (v196Z).toNat + 1 by (first | decide +kernel | omega)]; exact hb9) (by (first | decide +kernel | omega))
                  ·
                    obtain ⟨hb0, hb1, hb2⟩ := hB.resolve_right (fun q => absurd q.1 (by (first | decide +kernel | omega)))
                    refine V_aload_n 0 d_Rod_read_114 rfl rfl ?_
                    refine V_getR fa_Rod_12 sk_85 rfl d_Rod_read_115 ?_
                    refine V_aload_n 0 d_Rod_read_118 rfl rfl ?_
                    refine V_getR fa_Rod_16 sk_85 rfl d_Rod_read_119 ?_
                    obtain ⟨z229, z229Z, z229E, z229e⟩ : ∃ (y : Int32) (Y : Int), y.toInt = Y ∧ y = h222.1 17 3 := ⟨_, _, rfl, rfl⟩
                    obtain ⟨z230, z230Z, z230E, z230e⟩ : ∃ (y : Int32) (Y : Int), y.toInt = Y ∧ y = h222.1 17 4 := ⟨_, _, rfl, rfl⟩
                    refine N_callVV [.ref 17] [] cv_Rod_84 sk_0 rfl d_Rod_read_122 rfl (Nat.le_of_ble_eq_true rfl) (by decide) (by decide) (c_County_copyX_0_1 h222 hI224 z229 z229Z z229E z229e.symm z230 z230Z z230E z230e.symm) (fun h232 p233 => ?_)
                    obtain ⟨hI234, fh232, p233⟩ := p233
                    have f235 : fr S_Rod_readZ h h232 := fr_call f225 fh232 rfl
                    have P236 : cF h h232 := sp3_back P226 p233
                    refine V_bipush (-20) d_Rod_read_125 (by decide) ?_
                    refine V_iload d_Rod_read_127 rfl ?_
                    refine V_isub tc_m20 v196E (by (first | decide +kernel | omega)) d_Rod_read_129 (fun z237 z237e z237E => ?_)
                    exact V_iret rfl d_Rod_read_130 ⟨z237, rfl, ⟨hI234, f235, (Or.inr ⟨by (first | decide +kernel | omega), by rw [show kZ.toNat = 3 by (first | decide +kernel | omega)]; exact RDc_bad (m := z183Z.toNat) (n := v196Z.toNat) (show ((z183Z.toNat : Nat) : Int) = whl (h.1 114 1).toInt (h.1 114 2).toInt lZ fZ nZ from by rw [t3K, s3K, t3E, s3E]; omega) (by (first | decide +kernel | omega)) (by rw [z237E]; omega) rn9 hb2 P236⟩)⟩⟩
            exact L194 (Int.toNat ((z183Z - 0 : Int) + 1)) 0 0 h189 tc_0 hI191 f192 (kn_call fh189 wK rfl) (kn_call fh189 gK rfl) (kn_call fh189 xK rfl) (kn_call fh189 yK rfl) (by (first | decide +kernel | omega)) P193 (RN_0 (fun k i hk => fh189.1 k i (ckS_no (lo := 0) (hi := 16) rfl (by (first | decide +kernel | omega)) hk))) (by (first | decide +kernel | omega))
        ·
          refine V_iconst (-1) d_Rod_read_26 (by decide) ?_
          exact V_iret rfl d_Rod_read_27 ⟨(-1), rfl, ⟨hI, f0, (Or.inl ⟨by (first | decide +kernel | omega), rfl, tc_m1⟩)⟩⟩
