def S_fillX_109 : List (Nat × Option Nat) := [(109, none)]
abbrev q_fillX_109 (h : Hp) (v : Int32) (vZ : Int) : Option Value → Hp → Prop := pVd (fun h' => Inv h' ∧ fr S_fillX_109 h h' ∧ fll h' 109 v 40)
set_option maxRecDepth 100000 in
theorem c_fillX_109 (h : Hp) (hI : Inv h) (v : Int32) (vZ : Int) (vE : v.toInt = vZ) : Ct y_Arr_fill b_Arr_fill 4 none 0 0 [.ref 109, .int v] h (q_fillX_109 h v vZ) := by
  refine ct_ow R_Arr [some (.ref 109), some (.int v), none, none] rfl (by decide) rfl (Nat.le_of_ble_eq_true rfl) ?_
  have f0 : fr S_fillX_109 h h := fr_rf
  refine V_iconst 0 d_Arr_fill_0 (by decide) ?_
  refine V_istore_n 2 [some (.ref 109), some (.int v), some (.int 0), none] d_Arr_fill_1 rfl (by decide) rfl rfl ?_
  refine V_aload_n 0 d_Arr_fill_2 rfl rfl ?_
  refine V_alen sk_109 (by decide) (by decide : Int32.ofNat 40 = 40) d_Arr_fill_3 ?_
  refine V_istore_n 3 [some (.ref 109), some (.int v), some (.int 0), some (.int 40)] d_Arr_fill_4 rfl (by decide) rfl rfl ?_
  have L1 : ∀ (nn : Nat) (v3 : Int32) (v3Z : Int) (h4 : Hp), v3.toInt = v3Z → Inv h4 → fr S_fillX_109 h h4 → 0 ≤ v3Z ∧ v3Z ≤ 40 → fll h4 109 v v3Z → 40 - v3Z < (nn : Int) → V R_Arr b_Arr_fill 4 none 0 0 (q_fillX_109 h v vZ) h4 5 [some (.ref 109), some (.int v), some (.int v3), some (.int 40)] [] := by
    intro nn
    induction nn with
    | zero => intro v3 v3Z h4 v3E Ih4 Fh4 q5 q6 hm7; exact absurd hm7 (by (first | decide +kernel | omega))
    | succ nn ihL1 =>
      intro v3 v3Z h4 v3E Ih4 Fh4 q5 q6 hm7
      refine V_iload_n 2 d_Arr_fill_5 rfl rfl ?_
      refine V_iload_n 3 d_Arr_fill_6 rfl rfl ?_
      refine V_icmp_ge 20 v3E tc_40 d_Arr_fill_7 (by decide) (fun c8 => ?_) (fun c8 => ?_)
      ·
        exact V_vret rfl d_Arr_fill_20 ⟨rfl, ⟨Ih4, Fh4, (fll_le (by assumption) (by (first | decide +kernel | omega)))⟩⟩
      ·
        refine V_aload_n 0 d_Arr_fill_10 rfl rfl ?_
        refine V_iload_n 2 d_Arr_fill_11 rfl rfl ?_
        refine V_iload_n 1 d_Arr_fill_12 rfl rfl ?_
        refine N_iast sk_109 v3E (by (first | decide +kernel | omega)) d_Arr_fill_13 (fun h9 eh9 => ?_)
        have hI10 : Inv h9 := inv_full Ih4 eh9 rfl
        have f11 : fr S_fillX_109 h h9 := fr_put Fh4 eh9 rfl
        obtain ⟨z12, z12E, z12e⟩ : ∃ y : Int32, y.toInt = v3Z + 1 ∧ y = v3 + Int32.ofInt 1 := ⟨_, ti_add v3E (by decide) (by (first | decide +kernel | omega)), rfl⟩
        refine V_iinc 2 [some (.ref 109), some (.int v), some (.int z12), some (.int 40)] d_Arr_fill_14 rfl z12e.symm (by decide) rfl rfl ?_
        refine V_goto 5 d_Arr_fill_17 (by decide) ?_
        exact ihL1 z12 ((v3Z + 1)) h9 z12E hI10 f11 (by (first | decide +kernel | omega)) (fll_s (by assumption) (by (first | decide +kernel | omega)) eh9) (by (first | decide +kernel | omega))
  exact L1 (Int.toNat ((40 - 0 : Int) + 1)) 0 0 h tc_0 hI f0 (by (first | decide +kernel | omega)) fll_0 (by (first | decide +kernel | omega))
def S_Sheet_makeNewZ_0 : List (Nat × Option Nat) := [(108, some 1), (108, some 2), (109, none)]
abbrev q_Sheet_makeNewZ_0 (h : Hp) (l : Int32) (lZ : Int) (n : Int32) (nZ : Int) : Option Value → Hp → Prop := pVd (fun h' => Inv h' ∧ fr S_Sheet_makeNewZ_0 h h' ∧ (h'.1 108 1 = l ∧ h'.1 108 2 = n ∧ fll h' 109 0 40))
set_option maxRecDepth 100000 in
theorem c_Sheet_makeNewZ_0 (h : Hp) (hI : Inv h) (l : Int32) (lZ : Int) (lE : l.toInt = lZ) (n : Int32) (nZ : Int) (nE : n.toInt = nZ) (hy0 : 0 ≤ nZ ∧ nZ ≤ 40) : Ct y_Sheet_makeNew b_Sheet_makeNew 3 none 1 23 [.ref 108, .int l, .int n] h (q_Sheet_makeNewZ_0 h l lZ n nZ) := by
  refine ct_ow R_Sheet [some (.ref 108), some (.int l), some (.int n)] rfl (by decide) rfl (Nat.le_of_ble_eq_true rfl) ?_
  have f0 : fr S_Sheet_makeNewZ_0 h h := fr_rf
  refine V_aload_n 0 d_Sheet_makeNew_0 rfl rfl ?_
  refine V_getR fa_Sheet_9 sk_108 rfl d_Sheet_makeNew_1 ?_
  refine V_iconst 0 d_Sheet_makeNew_4 (by decide) ?_
  refine N_callSV [.ref 109, .int 0] [] cs_Sheet_19 d_Sheet_makeNew_5 rfl (Nat.le_of_ble_eq_true rfl) (by decide) (by decide) (c_fillX_109 h hI 0 0 tc_0) (fun h2 p3 => ?_)
  obtain ⟨hI4, fh2, p3⟩ := p3
  have f5 : fr S_Sheet_makeNewZ_0 h h2 := fr_call f0 fh2 rfl
  refine V_aload_n 0 d_Sheet_makeNew_8 rfl rfl ?_
  refine V_iload_n 1 d_Sheet_makeNew_9 rfl rfl ?_
  refine N_putI fp_Sheet_15 sk_108 rfl d_Sheet_makeNew_10 (fun h6 eh6 => ?_)
  have hI7 : Inv h6 := inv_full hI4 eh6 rfl
  have f8 : fr S_Sheet_makeNewZ_0 h h6 := fr_put f5 eh6 rfl
  refine V_aload_n 0 d_Sheet_makeNew_13 rfl rfl ?_
  refine V_iload_n 2 d_Sheet_makeNew_14 rfl rfl ?_
  refine N_putI fp_Sheet_25 sk_108 rfl d_Sheet_makeNew_15 (fun h9 eh9 => ?_)
  have hI10 : Inv h9 := inv_put (lo := 0) (hi := 40) hI7 eh9 rfl nE (by (first | decide +kernel | omega))
  have f11 : fr S_Sheet_makeNewZ_0 h h9 := fr_put f8 eh9 rfl
  exact V_vret rfl d_Sheet_makeNew_18 ⟨rfl, ⟨hI10, f11, ⟨(kn_nei eh9 (kn_put eh6) (by decide)), (kn_put eh9), fll_ne eh9 (by decide) (fll_ne eh6 (by decide) p3)⟩⟩⟩
def S_Sheet_putZ_0 : List (Nat × Option Nat) := [(109, none)]
abbrev q_Sheet_putZ_0 (h : Hp) (i : Int32) (iZ : Int) (v : Int32) (vZ : Int) (t : Int32) (tZ : Int) : Option Value → Hp → Prop := pVd (fun h' => Inv h' ∧ fr S_Sheet_putZ_0 h h' ∧ (∃ x : Int32, nrw tZ v x ∧ h' = pI h 109 iZ.toNat x))
set_option maxRecDepth 100000 in
theorem c_Sheet_putZ_0 (h : Hp) (hI : Inv h) (i : Int32) (iZ : Int) (iE : i.toInt = iZ) (v : Int32) (vZ : Int) (vE : v.toInt = vZ) (t : Int32) (tZ : Int) (tE : t.toInt = tZ) (tK : h.1 108 1 = t) (hy0 : 0 ≤ iZ ∧ iZ < 40) : Ct y_Sheet_put b_Sheet_put 3 none 0 0 [.ref 108, .int i, .int v] h (q_Sheet_putZ_0 h i iZ v vZ t tZ) := by
  refine ct_ow R_Sheet [some (.ref 108), some (.int i), some (.int v)] rfl (by decide) rfl (Nat.le_of_ble_eq_true rfl) ?_
  have f0 : fr S_Sheet_putZ_0 h h := fr_rf
  refine V_aload_n 0 d_Sheet_put_0 rfl rfl ?_
  refine N_getK fa_Sheet_15 sk_108 rfl d_Sheet_put_1 tK ?_
  refine V_if_ne 18 tE d_Sheet_put_4 (by decide) (fun c1 => ?_) (fun c1 => ?_)
  ·
    refine V_aload_n 0 d_Sheet_put_18 rfl rfl ?_
    refine N_getK fa_Sheet_15 sk_108 rfl d_Sheet_put_19 tK ?_
    refine V_iconst 1 d_Sheet_put_22 (by decide) ?_
    refine V_icmp_ne 37 tE tc_1 d_Sheet_put_23 (by decide) (fun c2 => ?_) (fun c2 => ?_)
    ·
      refine V_aload_n 0 d_Sheet_put_37 rfl rfl ?_
      refine V_getR fa_Sheet_9 sk_108 rfl d_Sheet_put_38 ?_
      refine V_iload_n 1 d_Sheet_put_41 rfl rfl ?_
      refine V_iload_n 2 d_Sheet_put_42 rfl rfl ?_
      refine N_iast sk_109 iE (by (first | decide +kernel | omega)) d_Sheet_put_43 (fun h3 eh3 => ?_)
      have hI4 : Inv h3 := inv_full hI eh3 rfl
      have f5 : fr S_Sheet_putZ_0 h h3 := fr_put f0 eh3 rfl
      exact V_vret rfl d_Sheet_put_44 ⟨rfl, ⟨hI4, f5, ⟨v, Or.inr (Or.inr ⟨by (first | decide +kernel | omega), rfl⟩), (by rw [eh3] <;> rfl)⟩⟩⟩
    ·
      refine V_aload_n 0 d_Sheet_put_26 rfl rfl ?_
      refine V_getR fa_Sheet_9 sk_108 rfl d_Sheet_put_27 ?_
      refine V_iload_n 1 d_Sheet_put_30 rfl rfl ?_
      refine V_iload_n 2 d_Sheet_put_31 rfl rfl ?_
      refine N_i2s d_Sheet_put_32 (fun z6 z6Z z6E z6e => ?_)
      refine N_iast sk_109 iE (by (first | decide +kernel | omega)) d_Sheet_put_33 (fun h7 eh7 => ?_)
      have hI8 : Inv h7 := inv_full hI eh7 rfl
      have f9 : fr S_Sheet_putZ_0 h h7 := fr_put f0 eh7 rfl
      refine V_goto 44 d_Sheet_put_34 (by decide) ?_
      exact V_vret rfl d_Sheet_put_44 ⟨rfl, ⟨hI8, f9, ⟨z6, Or.inr (Or.inl ⟨by (first | decide +kernel | omega), z6e⟩), (by rw [eh7] <;> rfl)⟩⟩⟩
  ·
    refine V_aload_n 0 d_Sheet_put_7 rfl rfl ?_
    refine V_getR fa_Sheet_9 sk_108 rfl d_Sheet_put_8 ?_
    refine V_iload_n 1 d_Sheet_put_11 rfl rfl ?_
    refine V_iload_n 2 d_Sheet_put_12 rfl rfl ?_
    refine N_i2b d_Sheet_put_13 (fun z10 z10Z z10E z10e => ?_)
    refine N_iast sk_109 iE (by (first | decide +kernel | omega)) d_Sheet_put_14 (fun h11 eh11 => ?_)
    have hI12 : Inv h11 := inv_full hI eh11 rfl
    have f13 : fr S_Sheet_putZ_0 h h11 := fr_put f0 eh11 rfl
    refine V_goto 44 d_Sheet_put_15 (by decide) ?_
    exact V_vret rfl d_Sheet_put_44 ⟨rfl, ⟨hI12, f13, ⟨z10, Or.inl ⟨by (first | decide +kernel | omega), z10e⟩, (by rw [eh11] <;> rfl)⟩⟩⟩
def S_fillX_111 : List (Nat × Option Nat) := [(111, none)]
abbrev q_fillX_111 (h : Hp) (v : Int32) (vZ : Int) : Option Value → Hp → Prop := pVd (fun h' => Inv h' ∧ fr S_fillX_111 h h' ∧ fll h' 111 v 40)
set_option maxRecDepth 100000 in
theorem c_fillX_111 (h : Hp) (hI : Inv h) (v : Int32) (vZ : Int) (vE : v.toInt = vZ) : Ct y_Arr_fill b_Arr_fill 4 none 0 0 [.ref 111, .int v] h (q_fillX_111 h v vZ) := by
  refine ct_ow R_Arr [some (.ref 111), some (.int v), none, none] rfl (by decide) rfl (Nat.le_of_ble_eq_true rfl) ?_
  have f0 : fr S_fillX_111 h h := fr_rf
  refine V_iconst 0 d_Arr_fill_0 (by decide) ?_
  refine V_istore_n 2 [some (.ref 111), some (.int v), some (.int 0), none] d_Arr_fill_1 rfl (by decide) rfl rfl ?_
  refine V_aload_n 0 d_Arr_fill_2 rfl rfl ?_
  refine V_alen sk_111 (by decide) (by decide : Int32.ofNat 40 = 40) d_Arr_fill_3 ?_
  refine V_istore_n 3 [some (.ref 111), some (.int v), some (.int 0), some (.int 40)] d_Arr_fill_4 rfl (by decide) rfl rfl ?_
  have L1 : ∀ (nn : Nat) (v3 : Int32) (v3Z : Int) (h4 : Hp), v3.toInt = v3Z → Inv h4 → fr S_fillX_111 h h4 → 0 ≤ v3Z ∧ v3Z ≤ 40 → fll h4 111 v v3Z → 40 - v3Z < (nn : Int) → V R_Arr b_Arr_fill 4 none 0 0 (q_fillX_111 h v vZ) h4 5 [some (.ref 111), some (.int v), some (.int v3), some (.int 40)] [] := by
    intro nn
    induction nn with
    | zero => intro v3 v3Z h4 v3E Ih4 Fh4 q5 q6 hm7; exact absurd hm7 (by (first | decide +kernel | omega))
    | succ nn ihL1 =>
      intro v3 v3Z h4 v3E Ih4 Fh4 q5 q6 hm7
      refine V_iload_n 2 d_Arr_fill_5 rfl rfl ?_
      refine V_iload_n 3 d_Arr_fill_6 rfl rfl ?_
      refine V_icmp_ge 20 v3E tc_40 d_Arr_fill_7 (by decide) (fun c8 => ?_) (fun c8 => ?_)
      ·
        exact V_vret rfl d_Arr_fill_20 ⟨rfl, ⟨Ih4, Fh4, (fll_le (by assumption) (by (first | decide +kernel | omega)))⟩⟩
      ·
        refine V_aload_n 0 d_Arr_fill_10 rfl rfl ?_
        refine V_iload_n 2 d_Arr_fill_11 rfl rfl ?_
        refine V_iload_n 1 d_Arr_fill_12 rfl rfl ?_
        refine N_iast sk_111 v3E (by (first | decide +kernel | omega)) d_Arr_fill_13 (fun h9 eh9 => ?_)
        have hI10 : Inv h9 := inv_full Ih4 eh9 rfl
        have f11 : fr S_fillX_111 h h9 := fr_put Fh4 eh9 rfl
        obtain ⟨z12, z12E, z12e⟩ : ∃ y : Int32, y.toInt = v3Z + 1 ∧ y = v3 + Int32.ofInt 1 := ⟨_, ti_add v3E (by decide) (by (first | decide +kernel | omega)), rfl⟩
        refine V_iinc 2 [some (.ref 111), some (.int v), some (.int z12), some (.int 40)] d_Arr_fill_14 rfl z12e.symm (by decide) rfl rfl ?_
        refine V_goto 5 d_Arr_fill_17 (by decide) ?_
        exact ihL1 z12 ((v3Z + 1)) h9 z12E hI10 f11 (by (first | decide +kernel | omega)) (fll_s (by assumption) (by (first | decide +kernel | omega)) eh9) (by (first | decide +kernel | omega))
  exact L1 (Int.toNat ((40 - 0 : Int) + 1)) 0 0 h tc_0 hI f0 (by (first | decide +kernel | omega)) fll_0 (by (first | decide +kernel | omega))
def S_Sheet_makeNewZ_1 : List (Nat × Option Nat) := [(110, some 1), (110, some 2), (111, none)]
abbrev q_Sheet_makeNewZ_1 (h : Hp) (l : Int32) (lZ : Int) (n : Int32) (nZ : Int) : Option Value → Hp → Prop := pVd (fun h' => Inv h' ∧ fr S_Sheet_makeNewZ_1 h h' ∧ (h'.1 110 1 = l ∧ h'.1 110 2 = n ∧ fll h' 111 0 40))
set_option maxRecDepth 100000 in
theorem c_Sheet_makeNewZ_1 (h : Hp) (hI : Inv h) (l : Int32) (lZ : Int) (lE : l.toInt = lZ) (n : Int32) (nZ : Int) (nE : n.toInt = nZ) (hy0 : 0 ≤ nZ ∧ nZ ≤ 40) : Ct y_Sheet_makeNew b_Sheet_makeNew 3 none 1 23 [.ref 110, .int l, .int n] h (q_Sheet_makeNewZ_1 h l lZ n nZ) := by
  refine ct_ow R_Sheet [some (.ref 110), some (.int l), some (.int n)] rfl (by decide) rfl (Nat.le_of_ble_eq_true rfl) ?_
  have f0 : fr S_Sheet_makeNewZ_1 h h := fr_rf
  refine V_aload_n 0 d_Sheet_makeNew_0 rfl rfl ?_
  refine V_getR fa_Sheet_9 sk_110 rfl d_Sheet_makeNew_1 ?_
  refine V_iconst 0 d_Sheet_makeNew_4 (by decide) ?_
  refine N_callSV [.ref 111, .int 0] [] cs_Sheet_19 d_Sheet_makeNew_5 rfl (Nat.le_of_ble_eq_true rfl) (by decide) (by decide) (c_fillX_111 h hI 0 0 tc_0) (fun h2 p3 => ?_)
  obtain ⟨hI4, fh2, p3⟩ := p3
  have f5 : fr S_Sheet_makeNewZ_1 h h2 := fr_call f0 fh2 rfl
  refine V_aload_n 0 d_Sheet_makeNew_8 rfl rfl ?_
  refine V_iload_n 1 d_Sheet_makeNew_9 rfl rfl ?_
  refine N_putI fp_Sheet_15 sk_110 rfl d_Sheet_makeNew_10 (fun h6 eh6 => ?_)
  have hI7 : Inv h6 := inv_full hI4 eh6 rfl
  have f8 : fr S_Sheet_makeNewZ_1 h h6 := fr_put f5 eh6 rfl
  refine V_aload_n 0 d_Sheet_makeNew_13 rfl rfl ?_
  refine V_iload_n 2 d_Sheet_makeNew_14 rfl rfl ?_
  refine N_putI fp_Sheet_25 sk_110 rfl d_Sheet_makeNew_15 (fun h9 eh9 => ?_)
  have hI10 : Inv h9 := inv_put (lo := 0) (hi := 40) hI7 eh9 rfl nE (by (first | decide +kernel | omega))
  have f11 : fr S_Sheet_makeNewZ_1 h h9 := fr_put f8 eh9 rfl
  exact V_vret rfl d_Sheet_makeNew_18 ⟨rfl, ⟨hI10, f11, ⟨(kn_nei eh9 (kn_put eh6) (by decide)), (kn_put eh9), fll_ne eh9 (by decide) (fll_ne eh6 (by decide) p3)⟩⟩⟩
def S_Sheet_putZ_1 : List (Nat × Option Nat) := [(111, none)]
abbrev q_Sheet_putZ_1 (h : Hp) (i : Int32) (iZ : Int) (v : Int32) (vZ : Int) (t : Int32) (tZ : Int) : Option Value → Hp → Prop := pVd (fun h' => Inv h' ∧ fr S_Sheet_putZ_1 h h' ∧ (∃ x : Int32, nrw tZ v x ∧ h' = pI h 111 iZ.toNat x))
set_option maxRecDepth 100000 in
theorem c_Sheet_putZ_1 (h : Hp) (hI : Inv h) (i : Int32) (iZ : Int) (iE : i.toInt = iZ) (v : Int32) (vZ : Int) (vE : v.toInt = vZ) (t : Int32) (tZ : Int) (tE : t.toInt = tZ) (tK : h.1 110 1 = t) (hy0 : 0 ≤ iZ ∧ iZ < 40) : Ct y_Sheet_put b_Sheet_put 3 none 0 0 [.ref 110, .int i, .int v] h (q_Sheet_putZ_1 h i iZ v vZ t tZ) := by
  refine ct_ow R_Sheet [some (.ref 110), some (.int i), some (.int v)] rfl (by decide) rfl (Nat.le_of_ble_eq_true rfl) ?_
  have f0 : fr S_Sheet_putZ_1 h h := fr_rf
  refine V_aload_n 0 d_Sheet_put_0 rfl rfl ?_
  refine N_getK fa_Sheet_15 sk_110 rfl d_Sheet_put_1 tK ?_
  refine V_if_ne 18 tE d_Sheet_put_4 (by decide) (fun c1 => ?_) (fun c1 => ?_)
  ·
    refine V_aload_n 0 d_Sheet_put_18 rfl rfl ?_
    refine N_getK fa_Sheet_15 sk_110 rfl d_Sheet_put_19 tK ?_
    refine V_iconst 1 d_Sheet_put_22 (by decide) ?_
    refine V_icmp_ne 37 tE tc_1 d_Sheet_put_23 (by decide) (fun c2 => ?_) (fun c2 => ?_)
    ·
      refine V_aload_n 0 d_Sheet_put_37 rfl rfl ?_
      refine V_getR fa_Sheet_9 sk_110 rfl d_Sheet_put_38 ?_
      refine V_iload_n 1 d_Sheet_put_41 rfl rfl ?_
      refine V_iload_n 2 d_Sheet_put_42 rfl rfl ?_
      refine N_iast sk_111 iE (by (first | decide +kernel | omega)) d_Sheet_put_43 (fun h3 eh3 => ?_)
      have hI4 : Inv h3 := inv_full hI eh3 rfl
      have f5 : fr S_Sheet_putZ_1 h h3 := fr_put f0 eh3 rfl
      exact V_vret rfl d_Sheet_put_44 ⟨rfl, ⟨hI4, f5, ⟨v, Or.inr (Or.inr ⟨by (first | decide +kernel | omega), rfl⟩), (by rw [eh3] <;> rfl)⟩⟩⟩
    ·
      refine V_aload_n 0 d_Sheet_put_26 rfl rfl ?_
      refine V_getR fa_Sheet_9 sk_110 rfl d_Sheet_put_27 ?_
      refine V_iload_n 1 d_Sheet_put_30 rfl rfl ?_
      refine V_iload_n 2 d_Sheet_put_31 rfl rfl ?_
      refine N_i2s d_Sheet_put_32 (fun z6 z6Z z6E z6e => ?_)
      refine N_iast sk_111 iE (by (first | decide +kernel | omega)) d_Sheet_put_33 (fun h7 eh7 => ?_)
      have hI8 : Inv h7 := inv_full hI eh7 rfl
      have f9 : fr S_Sheet_putZ_1 h h7 := fr_put f0 eh7 rfl
      refine V_goto 44 d_Sheet_put_34 (by decide) ?_
      exact V_vret rfl d_Sheet_put_44 ⟨rfl, ⟨hI8, f9, ⟨z6, Or.inr (Or.inl ⟨by (first | decide +kernel | omega), z6e⟩), (by rw [eh7] <;> rfl)⟩⟩⟩
  ·
    refine V_aload_n 0 d_Sheet_put_7 rfl rfl ?_
    refine V_getR fa_Sheet_9 sk_110 rfl d_Sheet_put_8 ?_
    refine V_iload_n 1 d_Sheet_put_11 rfl rfl ?_
    refine V_iload_n 2 d_Sheet_put_12 rfl rfl ?_
    refine N_i2b d_Sheet_put_13 (fun z10 z10Z z10E z10e => ?_)
    refine N_iast sk_111 iE (by (first | decide +kernel | omega)) d_Sheet_put_14 (fun h11 eh11 => ?_)
    have hI12 : Inv h11 := inv_full hI eh11 rfl
    have f13 : fr S_Sheet_putZ_1 h h11 := fr_put f0 eh11 rfl
    refine V_goto 44 d_Sheet_put_15 (by decide) ?_
    exact V_vret rfl d_Sheet_put_44 ⟨rfl, ⟨hI12, f13, ⟨z10, Or.inl ⟨by (first | decide +kernel | omega), z10e⟩, (by rw [eh11] <;> rfl)⟩⟩⟩
def S_fillX_113 : List (Nat × Option Nat) := [(113, none)]
abbrev q_fillX_113 (h : Hp) (v : Int32) (vZ : Int) : Option Value → Hp → Prop := pVd (fun h' => Inv h' ∧ fr S_fillX_113 h h' ∧ fll h' 113 v 40)
set_option maxRecDepth 100000 in
theorem c_fillX_113 (h : Hp) (hI : Inv h) (v : Int32) (vZ : Int) (vE : v.toInt = vZ) : Ct y_Arr_fill b_Arr_fill 4 none 0 0 [.ref 113, .int v] h (q_fillX_113 h v vZ) := by
  refine ct_ow R_Arr [some (.ref 113), some (.int v), none, none] rfl (by decide) rfl (Nat.le_of_ble_eq_true rfl) ?_
  have f0 : fr S_fillX_113 h h := fr_rf
  refine V_iconst 0 d_Arr_fill_0 (by decide) ?_
  refine V_istore_n 2 [some (.ref 113), some (.int v), some (.int 0), none] d_Arr_fill_1 rfl (by decide) rfl rfl ?_
  refine V_aload_n 0 d_Arr_fill_2 rfl rfl ?_
  refine V_alen sk_113 (by decide) (by decide : Int32.ofNat 40 = 40) d_Arr_fill_3 ?_
  refine V_istore_n 3 [some (.ref 113), some (.int v), some (.int 0), some (.int 40)] d_Arr_fill_4 rfl (by decide) rfl rfl ?_
  have L1 : ∀ (nn : Nat) (v3 : Int32) (v3Z : Int) (h4 : Hp), v3.toInt = v3Z → Inv h4 → fr S_fillX_113 h h4 → 0 ≤ v3Z ∧ v3Z ≤ 40 → fll h4 113 v v3Z → 40 - v3Z < (nn : Int) → V R_Arr b_Arr_fill 4 none 0 0 (q_fillX_113 h v vZ) h4 5 [some (.ref 113), some (.int v), some (.int v3), some (.int 40)] [] := by
    intro nn
    induction nn with
    | zero => intro v3 v3Z h4 v3E Ih4 Fh4 q5 q6 hm7; exact absurd hm7 (by (first | decide +kernel | omega))
    | succ nn ihL1 =>
      intro v3 v3Z h4 v3E Ih4 Fh4 q5 q6 hm7
      refine V_iload_n 2 d_Arr_fill_5 rfl rfl ?_
      refine V_iload_n 3 d_Arr_fill_6 rfl rfl ?_
      refine V_icmp_ge 20 v3E tc_40 d_Arr_fill_7 (by decide) (fun c8 => ?_) (fun c8 => ?_)
      ·
        exact V_vret rfl d_Arr_fill_20 ⟨rfl, ⟨Ih4, Fh4, (fll_le (by assumption) (by (first | decide +kernel | omega)))⟩⟩
      ·
        refine V_aload_n 0 d_Arr_fill_10 rfl rfl ?_
        refine V_iload_n 2 d_Arr_fill_11 rfl rfl ?_
        refine V_iload_n 1 d_Arr_fill_12 rfl rfl ?_
        refine N_iast sk_113 v3E (by (first | decide +kernel | omega)) d_Arr_fill_13 (fun h9 eh9 => ?_)
        have hI10 : Inv h9 := inv_full Ih4 eh9 rfl
        have f11 : fr S_fillX_113 h h9 := fr_put Fh4 eh9 rfl
        obtain ⟨z12, z12E, z12e⟩ : ∃ y : Int32, y.toInt = v3Z + 1 ∧ y = v3 + Int32.ofInt 1 := ⟨_, ti_add v3E (by decide) (by (first | decide +kernel | omega)), rfl⟩
        refine V_iinc 2 [some (.ref 113), some (.int v), some (.int z12), some (.int 40)] d_Arr_fill_14 rfl z12e.symm (by decide) rfl rfl ?_
        refine V_goto 5 d_Arr_fill_17 (by decide) ?_
        exact ihL1 z12 ((v3Z + 1)) h9 z12E hI10 f11 (by (first | decide +kernel | omega)) (fll_s (by assumption) (by (first | decide +kernel | omega)) eh9) (by (first | decide +kernel | omega))
  exact L1 (Int.toNat ((40 - 0 : Int) + 1)) 0 0 h tc_0 hI f0 (by (first | decide +kernel | omega)) fll_0 (by (first | decide +kernel | omega))
def S_Sheet_makeNewZ_2 : List (Nat × Option Nat) := [(112, some 1), (112, some 2), (113, none)]
abbrev q_Sheet_makeNewZ_2 (h : Hp) (l : Int32) (lZ : Int) (n : Int32) (nZ : Int) : Option Value → Hp → Prop := pVd (fun h' => Inv h' ∧ fr S_Sheet_makeNewZ_2 h h' ∧ (h'.1 112 1 = l ∧ h'.1 112 2 = n ∧ fll h' 113 0 40))
set_option maxRecDepth 100000 in
theorem c_Sheet_makeNewZ_2 (h : Hp) (hI : Inv h) (l : Int32) (lZ : Int) (lE : l.toInt = lZ) (n : Int32) (nZ : Int) (nE : n.toInt = nZ) (hy0 : 0 ≤ nZ ∧ nZ ≤ 40) : Ct y_Sheet_makeNew b_Sheet_makeNew 3 none 1 23 [.ref 112, .int l, .int n] h (q_Sheet_makeNewZ_2 h l lZ n nZ) := by
  refine ct_ow R_Sheet [some (.ref 112), some (.int l), some (.int n)] rfl (by decide) rfl (Nat.le_of_ble_eq_true rfl) ?_
  have f0 : fr S_Sheet_makeNewZ_2 h h := fr_rf
  refine V_aload_n 0 d_Sheet_makeNew_0 rfl rfl ?_
  refine V_getR fa_Sheet_9 sk_112 rfl d_Sheet_makeNew_1 ?_
  refine V_iconst 0 d_Sheet_makeNew_4 (by decide) ?_
  refine N_callSV [.ref 113, .int 0] [] cs_Sheet_19 d_Sheet_makeNew_5 rfl (Nat.le_of_ble_eq_true rfl) (by decide) (by decide) (c_fillX_113 h hI 0 0 tc_0) (fun h2 p3 => ?_)
  obtain ⟨hI4, fh2, p3⟩ := p3
  have f5 : fr S_Sheet_makeNewZ_2 h h2 := fr_call f0 fh2 rfl
  refine V_aload_n 0 d_Sheet_makeNew_8 rfl rfl ?_
  refine V_iload_n 1 d_Sheet_makeNew_9 rfl rfl ?_
  refine N_putI fp_Sheet_15 sk_112 rfl d_Sheet_makeNew_10 (fun h6 eh6 => ?_)
  have hI7 : Inv h6 := inv_full hI4 eh6 rfl
  have f8 : fr S_Sheet_makeNewZ_2 h h6 := fr_put f5 eh6 rfl
  refine V_aload_n 0 d_Sheet_makeNew_13 rfl rfl ?_
  refine V_iload_n 2 d_Sheet_makeNew_14 rfl rfl ?_
  refine N_putI fp_Sheet_25 sk_112 rfl d_Sheet_makeNew_15 (fun h9 eh9 => ?_)
  have hI10 : Inv h9 := inv_put (lo := 0) (hi := 40) hI7 eh9 rfl nE (by (first | decide +kernel | omega))
  have f11 : fr S_Sheet_makeNewZ_2 h h9 := fr_put f8 eh9 rfl
  exact V_vret rfl d_Sheet_makeNew_18 ⟨rfl, ⟨hI10, f11, ⟨(kn_nei eh9 (kn_put eh6) (by decide)), (kn_put eh9), fll_ne eh9 (by decide) (fll_ne eh6 (by decide) p3)⟩⟩⟩
def S_Sheet_putZ_2 : List (Nat × Option Nat) := [(113, none)]
abbrev q_Sheet_putZ_2 (h : Hp) (i : Int32) (iZ : Int) (v : Int32) (vZ : Int) (t : Int32) (tZ : Int) : Option Value → Hp → Prop := pVd (fun h' => Inv h' ∧ fr S_Sheet_putZ_2 h h' ∧ (∃ x : Int32, nrw tZ v x ∧ h' = pI h 113 iZ.toNat x))
set_option maxRecDepth 100000 in
theorem c_Sheet_putZ_2 (h : Hp) (hI : Inv h) (i : Int32) (iZ : Int) (iE : i.toInt = iZ) (v : Int32) (vZ : Int) (vE : v.toInt = vZ) (t : Int32) (tZ : Int) (tE : t.toInt = tZ) (tK : h.1 112 1 = t) (hy0 : 0 ≤ iZ ∧ iZ < 40) : Ct y_Sheet_put b_Sheet_put 3 none 0 0 [.ref 112, .int i, .int v] h (q_Sheet_putZ_2 h i iZ v vZ t tZ) := by
  refine ct_ow R_Sheet [some (.ref 112), some (.int i), some (.int v)] rfl (by decide) rfl (Nat.le_of_ble_eq_true rfl) ?_
  have f0 : fr S_Sheet_putZ_2 h h := fr_rf
  refine V_aload_n 0 d_Sheet_put_0 rfl rfl ?_
  refine N_getK fa_Sheet_15 sk_112 rfl d_Sheet_put_1 tK ?_
  refine V_if_ne 18 tE d_Sheet_put_4 (by decide) (fun c1 => ?_) (fun c1 => ?_)
  ·
    refine V_aload_n 0 d_Sheet_put_18 rfl rfl ?_
    refine N_getK fa_Sheet_15 sk_112 rfl d_Sheet_put_19 tK ?_
    refine V_iconst 1 d_Sheet_put_22 (by decide) ?_
    refine V_icmp_ne 37 tE tc_1 d_Sheet_put_23 (by decide) (fun c2 => ?_) (fun c2 => ?_)
    ·
      refine V_aload_n 0 d_Sheet_put_37 rfl rfl ?_
      refine V_getR fa_Sheet_9 sk_112 rfl d_Sheet_put_38 ?_
      refine V_iload_n 1 d_Sheet_put_41 rfl rfl ?_
      refine V_iload_n 2 d_Sheet_put_42 rfl rfl ?_
      refine N_iast sk_113 iE (by (first | decide +kernel | omega)) d_Sheet_put_43 (fun h3 eh3 => ?_)
      have hI4 : Inv h3 := inv_full hI eh3 rfl
      have f5 : fr S_Sheet_putZ_2 h h3 := fr_put f0 eh3 rfl
      exact V_vret rfl d_Sheet_put_44 ⟨rfl, ⟨hI4, f5, ⟨v, Or.inr (Or.inr ⟨by (first | decide +kernel | omega), rfl⟩), (by rw [eh3] <;> rfl)⟩⟩⟩
    ·
      refine V_aload_n 0 d_Sheet_put_26 rfl rfl ?_
      refine V_getR fa_Sheet_9 sk_112 rfl d_Sheet_put_27 ?_
      refine V_iload_n 1 d_Sheet_put_30 rfl rfl ?_
      refine V_iload_n 2 d_Sheet_put_31 rfl rfl ?_
      refine N_i2s d_Sheet_put_32 (fun z6 z6Z z6E z6e => ?_)
      refine N_iast sk_113 iE (by (first | decide +kernel | omega)) d_Sheet_put_33 (fun h7 eh7 => ?_)
      have hI8 : Inv h7 := inv_full hI eh7 rfl
      have f9 : fr S_Sheet_putZ_2 h h7 := fr_put f0 eh7 rfl
      refine V_goto 44 d_Sheet_put_34 (by decide) ?_
      exact V_vret rfl d_Sheet_put_44 ⟨rfl, ⟨hI8, f9, ⟨z6, Or.inr (Or.inl ⟨by (first | decide +kernel | omega), z6e⟩), (by rw [eh7] <;> rfl)⟩⟩⟩
  ·
    refine V_aload_n 0 d_Sheet_put_7 rfl rfl ?_
    refine V_getR fa_Sheet_9 sk_112 rfl d_Sheet_put_8 ?_
    refine V_iload_n 1 d_Sheet_put_11 rfl rfl ?_
    refine V_iload_n 2 d_Sheet_put_12 rfl rfl ?_
    refine N_i2b d_Sheet_put_13 (fun z10 z10Z z10E z10e => ?_)
    refine N_iast sk_113 iE (by (first | decide +kernel | omega)) d_Sheet_put_14 (fun h11 eh11 => ?_)
    have hI12 : Inv h11 := inv_full hI eh11 rfl
    have f13 : fr S_Sheet_putZ_2 h h11 := fr_put f0 eh11 rfl
    refine V_goto 44 d_Sheet_put_15 (by decide) ?_
    exact V_vret rfl d_Sheet_put_44 ⟨rfl, ⟨hI12, f13, ⟨z10, Or.inl ⟨by (first | decide +kernel | omega), z10e⟩, (by rw [eh11] <;> rfl)⟩⟩⟩
def S_fillX_115 : List (Nat × Option Nat) := [(115, none)]
abbrev q_fillX_115 (h : Hp) (v : Int32) (vZ : Int) : Option Value → Hp → Prop := pVd (fun h' => Inv h' ∧ fr S_fillX_115 h h' ∧ fll h' 115 v 40)
set_option maxRecDepth 100000 in
theorem c_fillX_115 (h : Hp) (hI : Inv h) (v : Int32) (vZ : Int) (vE : v.toInt = vZ) : Ct y_Arr_fill b_Arr_fill 4 none 0 0 [.ref 115, .int v] h (q_fillX_115 h v vZ) := by
  refine ct_ow R_Arr [some (.ref 115), some (.int v), none, none] rfl (by decide) rfl (Nat.le_of_ble_eq_true rfl) ?_
  have f0 : fr S_fillX_115 h h := fr_rf
  refine V_iconst 0 d_Arr_fill_0 (by decide) ?_
  refine V_istore_n 2 [some (.ref 115), some (.int v), some (.int 0), none] d_Arr_fill_1 rfl (by decide) rfl rfl ?_
  refine V_aload_n 0 d_Arr_fill_2 rfl rfl ?_
  refine V_alen sk_115 (by decide) (by decide : Int32.ofNat 40 = 40) d_Arr_fill_3 ?_
  refine V_istore_n 3 [some (.ref 115), some (.int v), some (.int 0), some (.int 40)] d_Arr_fill_4 rfl (by decide) rfl rfl ?_
  have L1 : ∀ (nn : Nat) (v3 : Int32) (v3Z : Int) (h4 : Hp), v3.toInt = v3Z → Inv h4 → fr S_fillX_115 h h4 → 0 ≤ v3Z ∧ v3Z ≤ 40 → fll h4 115 v v3Z → 40 - v3Z < (nn : Int) → V R_Arr b_Arr_fill 4 none 0 0 (q_fillX_115 h v vZ) h4 5 [some (.ref 115), some (.int v), some (.int v3), some (.int 40)] [] := by
    intro nn
    induction nn with
    | zero => intro v3 v3Z h4 v3E Ih4 Fh4 q5 q6 hm7; exact absurd hm7 (by (first | decide +kernel | omega))
    | succ nn ihL1 =>
      intro v3 v3Z h4 v3E Ih4 Fh4 q5 q6 hm7
      refine V_iload_n 2 d_Arr_fill_5 rfl rfl ?_
      refine V_iload_n 3 d_Arr_fill_6 rfl rfl ?_
      refine V_icmp_ge 20 v3E tc_40 d_Arr_fill_7 (by decide) (fun c8 => ?_) (fun c8 => ?_)
      ·
        exact V_vret rfl d_Arr_fill_20 ⟨rfl, ⟨Ih4, Fh4, (fll_le (by assumption) (by (first | decide +kernel | omega)))⟩⟩
      ·
        refine V_aload_n 0 d_Arr_fill_10 rfl rfl ?_
        refine V_iload_n 2 d_Arr_fill_11 rfl rfl ?_
        refine V_iload_n 1 d_Arr_fill_12 rfl rfl ?_
        refine N_iast sk_115 v3E (by (first | decide +kernel | omega)) d_Arr_fill_13 (fun h9 eh9 => ?_)
        have hI10 : Inv h9 := inv_full Ih4 eh9 rfl
        have f11 : fr S_fillX_115 h h9 := fr_put Fh4 eh9 rfl
        obtain ⟨z12, z12E, z12e⟩ : ∃ y : Int32, y.toInt = v3Z + 1 ∧ y = v3 + Int32.ofInt 1 := ⟨_, ti_add v3E (by decide) (by (first | decide +kernel | omega)), rfl⟩
        refine V_iinc 2 [some (.ref 115), some (.int v), some (.int z12), some (.int 40)] d_Arr_fill_14 rfl z12e.symm (by decide) rfl rfl ?_
        refine V_goto 5 d_Arr_fill_17 (by decide) ?_
        exact ihL1 z12 ((v3Z + 1)) h9 z12E hI10 f11 (by (first | decide +kernel | omega)) (fll_s (by assumption) (by (first | decide +kernel | omega)) eh9) (by (first | decide +kernel | omega))
  exact L1 (Int.toNat ((40 - 0 : Int) + 1)) 0 0 h tc_0 hI f0 (by (first | decide +kernel | omega)) fll_0 (by (first | decide +kernel | omega))
def S_Sheet_makeNewZ_3 : List (Nat × Option Nat) := [(114, some 1), (114, some 2), (115, none)]
abbrev q_Sheet_makeNewZ_3 (h : Hp) (l : Int32) (lZ : Int) (n : Int32) (nZ : Int) : Option Value → Hp → Prop := pVd (fun h' => Inv h' ∧ fr S_Sheet_makeNewZ_3 h h' ∧ (h'.1 114 1 = l ∧ h'.1 114 2 = n ∧ fll h' 115 0 40))
set_option maxRecDepth 100000 in
theorem c_Sheet_makeNewZ_3 (h : Hp) (hI : Inv h) (l : Int32) (lZ : Int) (lE : l.toInt = lZ) (n : Int32) (nZ : Int) (nE : n.toInt = nZ) (hy0 : 0 ≤ nZ ∧ nZ ≤ 40) : Ct y_Sheet_makeNew b_Sheet_makeNew 3 none 1 23 [.ref 114, .int l, .int n] h (q_Sheet_makeNewZ_3 h l lZ n nZ) := by
  refine ct_ow R_Sheet [some (.ref 114), some (.int l), some (.int n)] rfl (by decide) rfl (Nat.le_of_ble_eq_true rfl) ?_
  have f0 : fr S_Sheet_makeNewZ_3 h h := fr_rf
  refine V_aload_n 0 d_Sheet_makeNew_0 rfl rfl ?_
  refine V_getR fa_Sheet_9 sk_114 rfl d_Sheet_makeNew_1 ?_
  refine V_iconst 0 d_Sheet_makeNew_4 (by decide) ?_
  refine N_callSV [.ref 115, .int 0] [] cs_Sheet_19 d_Sheet_makeNew_5 rfl (Nat.le_of_ble_eq_true rfl) (by decide) (by decide) (c_fillX_115 h hI 0 0 tc_0) (fun h2 p3 => ?_)
  obtain ⟨hI4, fh2, p3⟩ := p3
  have f5 : fr S_Sheet_makeNewZ_3 h h2 := fr_call f0 fh2 rfl
  refine V_aload_n 0 d_Sheet_makeNew_8 rfl rfl ?_
  refine V_iload_n 1 d_Sheet_makeNew_9 rfl rfl ?_
  refine N_putI fp_Sheet_15 sk_114 rfl d_Sheet_makeNew_10 (fun h6 eh6 => ?_)
  have hI7 : Inv h6 := inv_full hI4 eh6 rfl
  have f8 : fr S_Sheet_makeNewZ_3 h h6 := fr_put f5 eh6 rfl
  refine V_aload_n 0 d_Sheet_makeNew_13 rfl rfl ?_
  refine V_iload_n 2 d_Sheet_makeNew_14 rfl rfl ?_
  refine N_putI fp_Sheet_25 sk_114 rfl d_Sheet_makeNew_15 (fun h9 eh9 => ?_)
  have hI10 : Inv h9 := inv_put (lo := 0) (hi := 40) hI7 eh9 rfl nE (by (first | decide +kernel | omega))
  have f11 : fr S_Sheet_makeNewZ_3 h h9 := fr_put f8 eh9 rfl
  exact V_vret rfl d_Sheet_makeNew_18 ⟨rfl, ⟨hI10, f11, ⟨(kn_nei eh9 (kn_put eh6) (by decide)), (kn_put eh9), fll_ne eh9 (by decide) (fll_ne eh6 (by decide) p3)⟩⟩⟩
def S_Sheet_putZ_3 : List (Nat × Option Nat) := [(115, none)]
abbrev q_Sheet_putZ_3 (h : Hp) (i : Int32) (iZ : Int) (v : Int32) (vZ : Int) (t : Int32) (tZ : Int) : Option Value → Hp → Prop := pVd (fun h' => Inv h' ∧ fr S_Sheet_putZ_3 h h' ∧ (∃ x : Int32, nrw tZ v x ∧ h' = pI h 115 iZ.toNat x))
set_option maxRecDepth 100000 in
theorem c_Sheet_putZ_3 (h : Hp) (hI : Inv h) (i : Int32) (iZ : Int) (iE : i.toInt = iZ) (v : Int32) (vZ : Int) (vE : v.toInt = vZ) (t : Int32) (tZ : Int) (tE : t.toInt = tZ) (tK : h.1 114 1 = t) (hy0 : 0 ≤ iZ ∧ iZ < 40) : Ct y_Sheet_put b_Sheet_put 3 none 0 0 [.ref 114, .int i, .int v] h (q_Sheet_putZ_3 h i iZ v vZ t tZ) := by
  refine ct_ow R_Sheet [some (.ref 114), some (.int i), some (.int v)] rfl (by decide) rfl (Nat.le_of_ble_eq_true rfl) ?_
  have f0 : fr S_Sheet_putZ_3 h h := fr_rf
  refine V_aload_n 0 d_Sheet_put_0 rfl rfl ?_
  refine N_getK fa_Sheet_15 sk_114 rfl d_Sheet_put_1 tK ?_
  refine V_if_ne 18 tE d_Sheet_put_4 (by decide) (fun c1 => ?_) (fun c1 => ?_)
  ·
    refine V_aload_n 0 d_Sheet_put_18 rfl rfl ?_
    refine N_getK fa_Sheet_15 sk_114 rfl d_Sheet_put_19 tK ?_
    refine V_iconst 1 d_Sheet_put_22 (by decide) ?_
    refine V_icmp_ne 37 tE tc_1 d_Sheet_put_23 (by decide) (fun c2 => ?_) (fun c2 => ?_)
    ·
      refine V_aload_n 0 d_Sheet_put_37 rfl rfl ?_
      refine V_getR fa_Sheet_9 sk_114 rfl d_Sheet_put_38 ?_
      refine V_iload_n 1 d_Sheet_put_41 rfl rfl ?_
      refine V_iload_n 2 d_Sheet_put_42 rfl rfl ?_
      refine N_iast sk_115 iE (by (first | decide +kernel | omega)) d_Sheet_put_43 (fun h3 eh3 => ?_)
      have hI4 : Inv h3 := inv_full hI eh3 rfl
      have f5 : fr S_Sheet_putZ_3 h h3 := fr_put f0 eh3 rfl
      exact V_vret rfl d_Sheet_put_44 ⟨rfl, ⟨hI4, f5, ⟨v, Or.inr (Or.inr ⟨by (first | decide +kernel | omega), rfl⟩), (by rw [eh3] <;> rfl)⟩⟩⟩
    ·
      refine V_aload_n 0 d_Sheet_put_26 rfl rfl ?_
      refine V_getR fa_Sheet_9 sk_114 rfl d_Sheet_put_27 ?_
      refine V_iload_n 1 d_Sheet_put_30 rfl rfl ?_
      refine V_iload_n 2 d_Sheet_put_31 rfl rfl ?_
      refine N_i2s d_Sheet_put_32 (fun z6 z6Z z6E z6e => ?_)
      refine N_iast sk_115 iE (by (first | decide +kernel | omega)) d_Sheet_put_33 (fun h7 eh7 => ?_)
      have hI8 : Inv h7 := inv_full hI eh7 rfl
      have f9 : fr S_Sheet_putZ_3 h h7 := fr_put f0 eh7 rfl
      refine V_goto 44 d_Sheet_put_34 (by decide) ?_
      exact V_vret rfl d_Sheet_put_44 ⟨rfl, ⟨hI8, f9, ⟨z6, Or.inr (Or.inl ⟨by (first | decide +kernel | omega), z6e⟩), (by rw [eh7] <;> rfl)⟩⟩⟩
  ·
    refine V_aload_n 0 d_Sheet_put_7 rfl rfl ?_
    refine V_getR fa_Sheet_9 sk_114 rfl d_Sheet_put_8 ?_
    refine V_iload_n 1 d_Sheet_put_11 rfl rfl ?_
    refine V_iload_n 2 d_Sheet_put_12 rfl rfl ?_
    refine N_i2b d_Sheet_put_13 (fun z10 z10Z z10E z10e => ?_)
    refine N_iast sk_115 iE (by (first | decide +kernel | omega)) d_Sheet_put_14 (fun h11 eh11 => ?_)
    have hI12 : Inv h11 := inv_full hI eh11 rfl
    have f13 : fr S_Sheet_putZ_3 h h11 := fr_put f0 eh11 rfl
    refine V_goto 44 d_Sheet_put_15 (by decide) ?_
    exact V_vret rfl d_Sheet_put_44 ⟨rfl, ⟨hI12, f13, ⟨z10, Or.inl ⟨by (first | decide +kernel | omega), z10e⟩, (by rw [eh11] <;> rfl)⟩⟩⟩
def S_Rod_sheetZ : List (Nat × Option Nat) := [(108, some 1), (108, some 2), (110, some 1), (110, some 2), (112, some 1), (112, some 2), (114, some 1), (114, some 2), (109, none), (111, none), (113, none), (115, none)]
abbrev q_Rod_sheetZ (h : Hp) (k : Int32) (kZ : Int) (l : Int32) (lZ : Int) (n : Int32) (nZ : Int) : Option Value → Hp → Prop := pInt (fun r h' => Inv h' ∧ fr S_Rod_sheetZ h h' ∧ ((kZ < 0 ∨ 3 < kZ ∨ lZ < 0 ∨ 2 < lZ ∨ 40 < nZ) ∧ h' = h ∧ r.toInt = -1 ∨ ¬ (kZ < 0 ∨ 3 < kZ ∨ lZ < 0 ∨ 2 < lZ ∨ 40 < nZ) ∧ nZ < 0 ∧ h' = h ∧ r.toInt = -14 ∨ ¬ (kZ < 0 ∨ 3 < kZ ∨ lZ < 0 ∨ 2 < lZ ∨ 40 < nZ) ∧ 0 ≤ nZ ∧ SHc h h' kZ.toNat l n ∧ r.toInt = 1))
set_option maxRecDepth 100000 in
theorem c_Rod_sheetZ (h : Hp) (hI : Inv h) (k : Int32) (kZ : Int) (kE : k.toInt = kZ) (l : Int32) (lZ : Int) (lE : l.toInt = lZ) (n : Int32) (nZ : Int) (nE : n.toInt = nZ) : Ct y_Rod_sheet b_Rod_sheet 4 (some .int) 2 45 [.ref 85, .int k, .int l, .int n] h (q_Rod_sheetZ h k kZ l lZ n nZ) := by
  refine ct_ow R_Rod [some (.ref 85), some (.int k), some (.int l), some (.int n)] rfl (by decide) rfl (Nat.le_of_ble_eq_true rfl) ?_
  have f0 : fr S_Rod_sheetZ h h := fr_rf
  refine V_iload_n 1 d_Rod_sheet_0 rfl rfl ?_
  refine N_callSI [.int k] [] cs_Rod_283 d_Rod_sheet_1 rfl (Nat.le_of_ble_eq_true rfl) (by decide) (by decide) (c_Rod_isSheet h k kZ kE) (fun z1 h2 z1Z z1E p3 => ?_)
  obtain ⟨eh2, p3⟩ := p3
  subst eh2
  refine V_if_eq 20 z1E d_Rod_sheet_4 (by decide) (fun c4 => ?_) (fun c4 => ?_)
  ·
    refine V_iconst (-1) d_Rod_sheet_20 (by decide) ?_
    exact V_iret rfl d_Rod_sheet_21 ⟨(-1), rfl, ⟨hI, f0, (Or.inl ⟨by (first | decide +kernel | omega), rfl, tc_m1⟩)⟩⟩
  ·
    refine V_iload_n 2 d_Rod_sheet_7 rfl rfl ?_
    refine N_callSI [.int l] [] cs_Rod_286 d_Rod_sheet_8 rfl (Nat.le_of_ble_eq_true rfl) (by decide) (by decide) (c_Rod_isLane h l lZ lE) (fun z5 h6 z5Z z5E p7 => ?_)
    obtain ⟨eh6, p7⟩ := p7
    subst eh6
    refine V_if_eq 20 z5E d_Rod_sheet_11 (by decide) (fun c8 => ?_) (fun c8 => ?_)
    ·
      refine V_iconst (-1) d_Rod_sheet_20 (by decide) ?_
      exact V_iret rfl d_Rod_sheet_21 ⟨(-1), rfl, ⟨hI, f0, (Or.inl ⟨by (first | decide +kernel | omega), rfl, tc_m1⟩)⟩⟩
    ·
      refine V_iload_n 3 d_Rod_sheet_14 rfl rfl ?_
      refine V_bipush 40 d_Rod_sheet_15 (by decide) ?_
      refine V_icmp_le 22 nE tc_40 d_Rod_sheet_17 (by decide) (fun c9 => ?_) (fun c9 => ?_)
      ·
        refine V_iload_n 3 d_Rod_sheet_22 rfl rfl ?_
        refine V_if_ge 29 nE d_Rod_sheet_23 (by decide) (fun c10 => ?_) (fun c10 => ?_)
        ·
          refine V_aload_n 0 d_Rod_sheet_29 rfl rfl ?_
          refine V_getR fa_Rod_62 sk_85 rfl d_Rod_sheet_30 ?_
          refine V_iload_n 1 d_Rod_sheet_33 rfl rfl ?_
          rcases (by (first | decide +kernel | omega) : kZ = 0 ∨ kZ = 1 ∨ kZ = 2 ∨ kZ = 3) with c11 | c11 | c11 | c11
          ·
            refine V_aald (r := 108) sk_107 (by decide) kE (by (first | decide +kernel | omega)) (by rw [c11]; rfl) d_Rod_sheet_34 ?_
            refine V_iload_n 2 d_Rod_sheet_35 rfl rfl ?_
            refine V_iload_n 3 d_Rod_sheet_36 rfl rfl ?_
            refine N_callVV [.int l, .int n] [] cv_Rod_289 sk_108 rfl d_Rod_sheet_37 rfl (Nat.le_of_ble_eq_true rfl) (by decide) (by decide) (c_Sheet_makeNewZ_0 h hI l lZ lE n nZ nE (by (first | decide +kernel | omega))) (fun h13 p14 => ?_)
            obtain ⟨hI15, fh13, p14⟩ := p14
            have f16 : fr S_Rod_sheetZ h h13 := fr_call f0 fh13 rfl
            refine V_iconst 1 d_Rod_sheet_40 (by decide) ?_
            exact V_iret rfl d_Rod_sheet_41 ⟨1, rfl, ⟨hI15, f16, (Or.inr (Or.inr ⟨by (first | decide +kernel | omega), by (first | decide +kernel | omega), by rw [show kZ.toNat = 0 by (first | decide +kernel | omega)]; exact SHc_of (k := 0) p14 fh13 rfl, tc_1⟩))⟩⟩
          ·
            refine V_aald (r := 110) sk_107 (by decide) kE (by (first | decide +kernel | omega)) (by rw [c11]; rfl) d_Rod_sheet_34 ?_
            refine V_iload_n 2 d_Rod_sheet_35 rfl rfl ?_
            refine V_iload_n 3 d_Rod_sheet_36 rfl rfl ?_
            refine N_callVV [.int l, .int n] [] cv_Rod_289 sk_110 rfl d_Rod_sheet_37 rfl (Nat.le_of_ble_eq_true rfl) (by decide) (by decide) (c_Sheet_makeNewZ_1 h hI l lZ lE n nZ nE (by (first | decide +kernel | omega))) (fun h18 p19 => ?_)
            obtain ⟨hI20, fh18, p19⟩ := p19
            have f21 : fr S_Rod_sheetZ h h18 := fr_call f0 fh18 rfl
            refine V_iconst 1 d_Rod_sheet_40 (by decide) ?_
            exact V_iret rfl d_Rod_sheet_41 ⟨1, rfl, ⟨hI20, f21, (Or.inr (Or.inr ⟨by (first | decide +kernel | omega), by (first | decide +kernel | omega), by rw [show kZ.toNat = 1 by (first | decide +kernel | omega)]; exact SHc_of (k := 1) p19 fh18 rfl, tc_1⟩))⟩⟩
          ·
            refine V_aald (r := 112) sk_107 (by decide) kE (by (first | decide +kernel | omega)) (by rw [c11]; rfl) d_Rod_sheet_34 ?_
            refine V_iload_n 2 d_Rod_sheet_35 rfl rfl ?_
            refine V_iload_n 3 d_Rod_sheet_36 rfl rfl ?_
            refine N_callVV [.int l, .int n] [] cv_Rod_289 sk_112 rfl d_Rod_sheet_37 rfl (Nat.le_of_ble_eq_true rfl) (by decide) (by decide) (c_Sheet_makeNewZ_2 h hI l lZ lE n nZ nE (by (first | decide +kernel | omega))) (fun h23 p24 => ?_)
            obtain ⟨hI25, fh23, p24⟩ := p24
            have f26 : fr S_Rod_sheetZ h h23 := fr_call f0 fh23 rfl
            refine V_iconst 1 d_Rod_sheet_40 (by decide) ?_
            exact V_iret rfl d_Rod_sheet_41 ⟨1, rfl, ⟨hI25, f26, (Or.inr (Or.inr ⟨by (first | decide +kernel | omega), by (first | decide +kernel | omega), by rw [show kZ.toNat = 2 by (first | decide +kernel | omega)]; exact SHc_of (k := 2) p24 fh23 rfl, tc_1⟩))⟩⟩
          ·
            refine V_aald (r := 114) sk_107 (by decide) kE (by (first | decide +kernel | omega)) (by rw [c11]; rfl) d_Rod_sheet_34 ?_
            refine V_iload_n 2 d_Rod_sheet_35 rfl rfl ?_
            refine V_iload_n 3 d_Rod_sheet_36 rfl rfl ?_
            refine N_callVV [.int l, .int n] [] cv_Rod_289 sk_114 rfl d_Rod_sheet_37 rfl (Nat.le_of_ble_eq_true rfl) (by decide) (by decide) (c_Sheet_makeNewZ_3 h hI l lZ lE n nZ nE (by (first | decide +kernel | omega))) (fun h28 p29 => ?_)
            obtain ⟨hI30, fh28, p29⟩ := p29
            have f31 : fr S_Rod_sheetZ h h28 := fr_call f0 fh28 rfl
            refine V_iconst 1 d_Rod_sheet_40 (by decide) ?_
            exact V_iret rfl d_Rod_sheet_41 ⟨1, rfl, ⟨hI30, f31, (Or.inr (Or.inr ⟨by (first | decide +kernel | omega), by (first | decide +kernel | omega), by rw [show kZ.toNat = 3 by (first | decide +kernel | omega)]; exact SHc_of (k := 3) p29 fh28 rfl, tc_1⟩))⟩⟩
        ·
          refine V_bipush (-14) d_Rod_sheet_26 (by decide) ?_
          exact V_iret rfl d_Rod_sheet_28 ⟨(-14), rfl, ⟨hI, f0, (Or.inr (Or.inl ⟨by (first | decide +kernel | omega), by (first | decide +kernel | omega), rfl, tc_m14⟩))⟩⟩
      ·
        refine V_iconst (-1) d_Rod_sheet_20 (by decide) ?_
        exact V_iret rfl d_Rod_sheet_21 ⟨(-1), rfl, ⟨hI, f0, (Or.inl ⟨by (first | decide +kernel | omega), rfl, tc_m1⟩)⟩⟩
def S_Mod_sheetZ : List (Nat × Option Nat) := [(128, none), (129, none), (130, none)]
abbrev q_Mod_sheetZ (h : Hp) (k : Int32) (kZ : Int) (l : Int32) (lZ : Int) (n : Int32) (nZ : Int) : Option Value → Hp → Prop := pInt (fun r h' => Inv h' ∧ fr S_Mod_sheetZ h h' ∧ ((kZ < 0 ∨ 3 < kZ ∨ lZ < 0 ∨ 2 < lZ ∨ 40 < nZ) ∧ h' = h ∧ r.toInt = -1 ∨ ¬ (kZ < 0 ∨ 3 < kZ ∨ lZ < 0 ∨ 2 < lZ ∨ 40 < nZ) ∧ nZ < 0 ∧ h' = h ∧ r.toInt = -14 ∨ ¬ (kZ < 0 ∨ 3 < kZ ∨ lZ < 0 ∨ 2 < lZ ∨ 40 < nZ) ∧ 0 ≤ nZ ∧ SHl h h' kZ.toNat l n 40 ∧ r.toInt = 1))
set_option maxRecDepth 100000 in
theorem c_Mod_sheetZ (h : Hp) (hI : Inv h) (k : Int32) (kZ : Int) (kE : k.toInt = kZ) (l : Int32) (lZ : Int) (lE : l.toInt = lZ) (n : Int32) (nZ : Int) (nE : n.toInt = nZ) : Ct y_Mod_sheet b_Mod_sheet 5 (some .int) 2 46 [.ref 116, .int k, .int l, .int n] h (q_Mod_sheetZ h k kZ l lZ n nZ) := by
  refine ct_ow R_Mod [some (.ref 116), some (.int k), some (.int l), some (.int n), none] rfl (by decide) rfl (Nat.le_of_ble_eq_true rfl) ?_
  have f0 : fr S_Mod_sheetZ h h := fr_rf
  refine V_iload_n 1 d_Mod_sheet_0 rfl rfl ?_
  refine V_iload_n 2 d_Mod_sheet_1 rfl rfl ?_
  refine N_callSI [.int k, .int l] [] cs_Mod_322 d_Mod_sheet_2 rfl (Nat.le_of_ble_eq_true rfl) (by decide) (by decide) (c_Mod_isSheet h k kZ kE l lZ lE) (fun z1 h2 z1Z z1E p3 => ?_)
  obtain ⟨eh2, p3⟩ := p3
  subst eh2
  refine V_if_eq 14 z1E d_Mod_sheet_5 (by decide) (fun c4 => ?_) (fun c4 => ?_)
  ·
    refine V_iconst (-1) d_Mod_sheet_14 (by decide) ?_
    exact V_iret rfl d_Mod_sheet_15 ⟨(-1), rfl, ⟨hI, f0, (Or.inl ⟨by (first | decide +kernel | omega), rfl, tc_m1⟩)⟩⟩
  ·
    refine V_iload_n 3 d_Mod_sheet_8 rfl rfl ?_
    refine V_bipush 40 d_Mod_sheet_9 (by decide) ?_
    refine V_icmp_le 16 nE tc_40 d_Mod_sheet_11 (by decide) (fun c5 => ?_) (fun c5 => ?_)
    ·
      refine V_iload_n 3 d_Mod_sheet_16 rfl rfl ?_
      refine V_if_ge 23 nE d_Mod_sheet_17 (by decide) (fun c6 => ?_) (fun c6 => ?_)
      ·
        refine V_aload_n 0 d_Mod_sheet_23 rfl rfl ?_
        refine V_getR fa_Mod_44 sk_116 rfl d_Mod_sheet_24 ?_
        refine V_iload_n 1 d_Mod_sheet_27 rfl rfl ?_
        refine V_iload_n 2 d_Mod_sheet_28 rfl rfl ?_
        refine N_iast sk_128 kE (by (first | decide +kernel | omega)) d_Mod_sheet_29 (fun h7 eh7 => ?_)
        have hI8 : Inv h7 := inv_full hI eh7 rfl
        have f9 : fr S_Mod_sheetZ h h7 := fr_put f0 eh7 rfl
        refine V_aload_n 0 d_Mod_sheet_30 rfl rfl ?_
        refine V_getR fa_Mod_47 sk_116 rfl d_Mod_sheet_31 ?_
        refine V_iload_n 1 d_Mod_sheet_34 rfl rfl ?_
        refine V_iload_n 3 d_Mod_sheet_35 rfl rfl ?_
        refine N_iast sk_129 kE (by (first | decide +kernel | omega)) d_Mod_sheet_36 (fun h10 eh10 => ?_)
        have hI11 : Inv h10 := inv_put (lo := 0) (hi := 40) hI8 eh10 rfl nE (by (first | decide +kernel | omega))
        have f12 : fr S_Mod_sheetZ h h10 := fr_put f9 eh10 rfl
        refine V_iconst 0 d_Mod_sheet_37 (by decide) ?_
        refine V_istore 4 [some (.ref 116), some (.int k), some (.int l), some (.int n), some (.int 0)] d_Mod_sheet_38 (by decide) rfl rfl ?_
        have L13 : ∀ (nn : Nat) (v15 : Int32) (v15Z : Int) (h16 : Hp), v15.toInt = v15Z → Inv h16 → fr S_Mod_sheetZ h h16 → 0 ≤ v15Z ∧ v15Z ≤ 40 → SHl h h16 kZ.toNat l n v15Z → 40 - v15Z < (nn : Int) → V R_Mod b_Mod_sheet 5 (some .int) 2 46 (q_Mod_sheetZ h k kZ l lZ n nZ) h16 40 [some (.ref 116), some (.int k), some (.int l), some (.int n), some (.int v15)] [] := by
          intro nn
          induction nn with
          | zero => intro v15 v15Z h16 v15E Ih16 Fh16 q17 q18 hm19; exact absurd hm19 (by (first | decide +kernel | omega))
          | succ nn ihL13 =>
            intro v15 v15Z h16 v15E Ih16 Fh16 q17 q18 hm19
            refine V_iload d_Mod_sheet_40 rfl ?_
            refine V_bipush 40 d_Mod_sheet_42 (by decide) ?_
            refine V_icmp_ge 66 v15E tc_40 d_Mod_sheet_44 (by decide) (fun c20 => ?_) (fun c20 => ?_)
            ·
              refine V_iconst 1 d_Mod_sheet_66 (by decide) ?_
              exact V_iret rfl d_Mod_sheet_67 ⟨1, rfl, ⟨Ih16, Fh16, (Or.inr (Or.inr ⟨by (first | decide +kernel | omega), by (first | decide +kernel | omega), SHl_le (by assumption) (by (first | decide +kernel | omega)), tc_1⟩))⟩⟩
            ·
              refine V_aload_n 0 d_Mod_sheet_47 rfl rfl ?_
              refine V_getR fa_Mod_50 sk_116 rfl d_Mod_sheet_48 ?_
              refine V_bipush 40 d_Mod_sheet_51 (by decide) ?_
              refine V_iload_n 1 d_Mod_sheet_53 rfl rfl ?_
              refine V_imul tc_40 kE (by (first | decide +kernel | omega)) d_Mod_sheet_54 (fun z21 z21e z21E => ?_)
              refine V_iload d_Mod_sheet_55 rfl ?_
              refine V_iadd z21E v15E (by (first | decide +kernel | omega)) d_Mod_sheet_57 (fun z22 z22e z22E => ?_)
              refine V_iconst 0 d_Mod_sheet_58 (by decide) ?_
              refine N_iast sk_130 z22E (by (first | decide +kernel | omega)) d_Mod_sheet_59 (fun h23 eh23 => ?_)
              have hI24 : Inv h23 := inv_full Ih16 eh23 rfl
              have f25 : fr S_Mod_sheetZ h h23 := fr_put Fh16 eh23 rfl
              obtain ⟨z26, z26E, z26e⟩ : ∃ y : Int32, y.toInt = v15Z + 1 ∧ y = v15 + Int32.ofInt 1 := ⟨_, ti_add v15E (by decide) (by (first | decide +kernel | omega)), rfl⟩
              refine V_iinc 4 [some (.ref 116), some (.int k), some (.int l), some (.int n), some (.int z26)] d_Mod_sheet_60 rfl z26e.symm (by decide) rfl rfl ?_
              refine V_goto 40 d_Mod_sheet_63 (by decide) ?_
              exact ihL13 z26 ((v15Z + 1)) h23 z26E hI24 f25 (by (first | decide +kernel | omega)) (SHl_s (by assumption) (by (first | decide +kernel | omega)) (by (first | decide +kernel | omega)) eh23) (by (first | decide +kernel | omega))
        exact L13 (Int.toNat ((40 - 0 : Int) + 1)) 0 0 h10 tc_0 hI11 f12 (by (first | decide +kernel | omega)) (SHl_0 eh7 eh10) (by (first | decide +kernel | omega))
      ·
        refine V_bipush (-14) d_Mod_sheet_20 (by decide) ?_
        exact V_iret rfl d_Mod_sheet_22 ⟨(-14), rfl, ⟨hI, f0, (Or.inr (Or.inl ⟨by (first | decide +kernel | omega), by (first | decide +kernel | omega), rfl, tc_m14⟩))⟩⟩
    ·
      refine V_iconst (-1) d_Mod_sheet_14 (by decide) ?_
      exact V_iret rfl d_Mod_sheet_15 ⟨(-1), rfl, ⟨hI, f0, (Or.inl ⟨by (first | decide +kernel | omega), rfl, tc_m1⟩)⟩⟩
def S_Rod_layZ : List (Nat × Option Nat) := [(109, none), (111, none), (113, none), (115, none)]
abbrev q_Rod_layZ (h : Hp) (k : Int32) (kZ : Int) (i : Int32) (iZ : Int) (v : Int32) (vZ : Int) (t0 : Int32) (t0Z : Int) (t1 : Int32) (t1Z : Int) (t2 : Int32) (t2Z : Int) (t3 : Int32) (t3Z : Int) (s0 : Int32) (s0Z : Int) (s1 : Int32) (s1Z : Int) (s2 : Int32) (s2Z : Int) (s3 : Int32) (s3Z : Int) : Option Value → Hp → Prop := pInt (fun r h' => Inv h' ∧ fr S_Rod_layZ h h' ∧ ((kZ < 0 ∨ 3 < kZ) ∧ h' = h ∧ r.toInt = -1 ∨ ¬ (kZ < 0 ∨ 3 < kZ) ∧ LY (-1) h h' (h.1 (108 + 2 * kZ.toNat) 1).toInt (h.1 (108 + 2 * kZ.toNat) 2).toInt (109 + 2 * kZ.toNat) iZ.toNat iZ v r))
set_option maxRecDepth 100000 in
theorem c_Rod_layZ (h : Hp) (hI : Inv h) (k : Int32) (kZ : Int) (kE : k.toInt = kZ) (i : Int32) (iZ : Int) (iE : i.toInt = iZ) (v : Int32) (vZ : Int) (vE : v.toInt = vZ) (t0 : Int32) (t0Z : Int) (t0E : t0.toInt = t0Z) (t0K : h.1 108 1 = t0) (t1 : Int32) (t1Z : Int) (t1E : t1.toInt = t1Z) (t1K : h.1 110 1 = t1) (t2 : Int32) (t2Z : Int) (t2E : t2.toInt = t2Z) (t2K : h.1 112 1 = t2) (t3 : Int32) (t3Z : Int) (t3E : t3.toInt = t3Z) (t3K : h.1 114 1 = t3) (s0 : Int32) (s0Z : Int) (s0E : s0.toInt = s0Z) (s0K : h.1 108 2 = s0) (s1 : Int32) (s1Z : Int) (s1E : s1.toInt = s1Z) (s1K : h.1 110 2 = s1) (s2 : Int32) (s2Z : Int) (s2E : s2.toInt = s2Z) (s2K : h.1 112 2 = s2) (s3 : Int32) (s3Z : Int) (s3E : s3.toInt = s3Z) (s3K : h.1 114 2 = s3) : Ct y_Rod_lay b_Rod_lay 5 (some .int) 1 22 [.ref 85, .int k, .int i, .int v] h (q_Rod_layZ h k kZ i iZ v vZ t0 t0Z t1 t1Z t2 t2Z t3 t3Z s0 s0Z s1 s1Z s2 s2Z s3 s3Z) := by
  refine ct_ow R_Rod [some (.ref 85), some (.int k), some (.int i), some (.int v), none] rfl (by decide) rfl (Nat.le_of_ble_eq_true rfl) ?_
  have f0 : fr S_Rod_layZ h h := fr_rf
  have g1 : 0 ≤ s0Z ∧ s0Z ≤ 40 := inv_at hI s0E s0K.symm rfl
  have g2 : 0 ≤ s1Z ∧ s1Z ≤ 40 := inv_at hI s1E s1K.symm rfl
  have g3 : 0 ≤ s2Z ∧ s2Z ≤ 40 := inv_at hI s2E s2K.symm rfl
  have g4 : 0 ≤ s3Z ∧ s3Z ≤ 40 := inv_at hI s3E s3K.symm rfl
  refine V_iload_n 1 d_Rod_lay_0 rfl rfl ?_
  refine N_callSI [.int k] [] cs_Rod_283 d_Rod_lay_1 rfl (Nat.le_of_ble_eq_true rfl) (by decide) (by decide) (c_Rod_isSheet h k kZ kE) (fun z5 h6 z5Z z5E p7 => ?_)
  obtain ⟨eh6, p7⟩ := p7
  subst eh6
  refine V_if_ne 9 z5E d_Rod_lay_4 (by decide) (fun c8 => ?_) (fun c8 => ?_)
  ·
    refine V_aload_n 0 d_Rod_lay_9 rfl rfl ?_
    refine V_getR fa_Rod_62 sk_85 rfl d_Rod_lay_10 ?_
    refine V_iload_n 1 d_Rod_lay_13 rfl rfl ?_
    rcases (by (first | decide +kernel | omega) : kZ = 0 ∨ kZ = 1 ∨ kZ = 2 ∨ kZ = 3) with c9 | c9 | c9 | c9
    ·
      refine V_aald (r := 108) sk_107 (by decide) kE (by (first | decide +kernel | omega)) (by rw [c9]; rfl) d_Rod_lay_14 ?_
      refine V_astore 4 [some (.ref 85), some (.int k), some (.int i), some (.int v), some (.ref 108)] d_Rod_lay_15 (by decide) rfl rfl ?_
      refine V_aload d_Rod_lay_17 rfl ?_
      refine N_getK fa_Rod_293 sk_108 rfl d_Rod_lay_19 t0K ?_
      refine V_iconst (-1) d_Rod_lay_22 (by decide) ?_
      refine V_icmp_ne 29 t0E tc_m1 d_Rod_lay_23 (by decide) (fun c10 => ?_) (fun c10 => ?_)
      ·
        refine V_iload_n 2 d_Rod_lay_29 rfl rfl ?_
        refine V_if_lt 42 iE d_Rod_lay_30 (by decide) (fun c11 => ?_) (fun c11 => ?_)
        ·
          refine V_bipush (-12) d_Rod_lay_42 (by decide) ?_
          exact V_iret rfl d_Rod_lay_44 ⟨(-12), rfl, ⟨hI, f0, (Or.inr ⟨by (first | decide +kernel | omega), by rw [show kZ.toNat = 0 by (first | decide +kernel | omega)]; show LY (-1) h h (h.1 108 1).toInt (h.1 108 2).toInt 109 iZ.toNat iZ v _; rw [t0K, s0K, t0E, s0E]; exact Or.inr (Or.inl ⟨by (first | decide +kernel | omega), by (first | decide +kernel | omega), rfl, tc_m12⟩)⟩)⟩⟩
        ·
          refine V_iload_n 2 d_Rod_lay_33 rfl rfl ?_
          refine V_aload d_Rod_lay_34 rfl ?_
          refine N_getK fa_Rod_296 sk_108 rfl d_Rod_lay_36 s0K ?_
          refine V_icmp_lt 45 iE s0E d_Rod_lay_39 (by decide) (fun c12 => ?_) (fun c12 => ?_)
          ·
            refine V_aload d_Rod_lay_45 rfl ?_
            refine V_iload_n 2 d_Rod_lay_47 rfl rfl ?_
            refine V_iload_n 3 d_Rod_lay_48 rfl rfl ?_
            refine N_callVV [.int i, .int v] [] cv_Rod_297 sk_108 rfl d_Rod_lay_49 rfl (Nat.le_of_ble_eq_true rfl) (by decide) (by decide) (c_Sheet_putZ_0 h hI i iZ iE v vZ vE t0 t0Z t0E t0K (by (first | decide +kernel | omega))) (fun h14 p15 => ?_)
            obtain ⟨hI16, fh14, p15⟩ := p15
            have f17 : fr S_Rod_layZ h h14 := fr_call f0 fh14 rfl
            refine V_iconst 1 d_Rod_lay_52 (by decide) ?_
            exact V_iret rfl d_Rod_lay_53 ⟨1, rfl, ⟨hI16, f17, (Or.inr ⟨by (first | decide +kernel | omega), by rw [show kZ.toNat = 0 by (first | decide +kernel | omega)]; show LY (-1) h h14 (h.1 108 1).toInt (h.1 108 2).toInt 109 iZ.toNat iZ v _; rw [t0K, s0K, t0E, s0E]; exact Or.inr (Or.inr ⟨by (first | decide +kernel | omega), by (first | decide +kernel | omega), by (first | decide +kernel | omega), tc_1, p15⟩)⟩)⟩⟩
          ·
            refine V_bipush (-12) d_Rod_lay_42 (by decide) ?_
            exact V_iret rfl d_Rod_lay_44 ⟨(-12), rfl, ⟨hI, f0, (Or.inr ⟨by (first | decide +kernel | omega), by rw [show kZ.toNat = 0 by (first | decide +kernel | omega)]; show LY (-1) h h (h.1 108 1).toInt (h.1 108 2).toInt 109 iZ.toNat iZ v _; rw [t0K, s0K, t0E, s0E]; exact Or.inr (Or.inl ⟨by (first | decide +kernel | omega), by (first | decide +kernel | omega), rfl, tc_m12⟩)⟩)⟩⟩
      ·
        refine V_bipush (-11) d_Rod_lay_26 (by decide) ?_
        exact V_iret rfl d_Rod_lay_28 ⟨(-11), rfl, ⟨hI, f0, (Or.inr ⟨by (first | decide +kernel | omega), by rw [show kZ.toNat = 0 by (first | decide +kernel | omega)]; show LY (-1) h h (h.1 108 1).toInt (h.1 108 2).toInt 109 iZ.toNat iZ v _; rw [t0K, s0K, t0E, s0E]; exact Or.inl ⟨by (first | decide +kernel | omega), rfl, tc_m11⟩⟩)⟩⟩
    ·
      refine V_aald (r := 110) sk_107 (by decide) kE (by (first | decide +kernel | omega)) (by rw [c9]; rfl) d_Rod_lay_14 ?_
      refine V_astore 4 [some (.ref 85), some (.int k), some (.int i), some (.int v), some (.ref 110)] d_Rod_lay_15 (by decide) rfl rfl ?_
      refine V_aload d_Rod_lay_17 rfl ?_
      refine N_getK fa_Rod_293 sk_110 rfl d_Rod_lay_19 t1K ?_
      refine V_iconst (-1) d_Rod_lay_22 (by decide) ?_
      refine V_icmp_ne 29 t1E tc_m1 d_Rod_lay_23 (by decide) (fun c18 => ?_) (fun c18 => ?_)
      ·
        refine V_iload_n 2 d_Rod_lay_29 rfl rfl ?_
        refine V_if_lt 42 iE d_Rod_lay_30 (by decide) (fun c19 => ?_) (fun c19 => ?_)
        ·
          refine V_bipush (-12) d_Rod_lay_42 (by decide) ?_
          exact V_iret rfl d_Rod_lay_44 ⟨(-12), rfl, ⟨hI, f0, (Or.inr ⟨by (first | decide +kernel | omega), by rw [show kZ.toNat = 1 by (first | decide +kernel | omega)]; show LY (-1) h h (h.1 110 1).toInt (h.1 110 2).toInt 111 iZ.toNat iZ v _; rw [t1K, s1K, t1E, s1E]; exact Or.inr (Or.inl ⟨by (first | decide +kernel | omega), by (first | decide +kernel | omega), rfl, tc_m12⟩)⟩)⟩⟩
        ·
          refine V_iload_n 2 d_Rod_lay_33 rfl rfl ?_
          refine V_aload d_Rod_lay_34 rfl ?_
          refine N_getK fa_Rod_296 sk_110 rfl d_Rod_lay_36 s1K ?_
          refine V_icmp_lt 45 iE s1E d_Rod_lay_39 (by decide) (fun c20 => ?_) (fun c20 => ?_)
          ·
            refine V_aload d_Rod_lay_45 rfl ?_
            refine V_iload_n 2 d_Rod_lay_47 rfl rfl ?_
            refine V_iload_n 3 d_Rod_lay_48 rfl rfl ?_
            refine N_callVV [.int i, .int v] [] cv_Rod_297 sk_110 rfl d_Rod_lay_49 rfl (Nat.le_of_ble_eq_true rfl) (by decide) (by decide) (c_Sheet_putZ_1 h hI i iZ iE v vZ vE t1 t1Z t1E t1K (by (first | decide +kernel | omega))) (fun h22 p23 => ?_)
            obtain ⟨hI24, fh22, p23⟩ := p23
            have f25 : fr S_Rod_layZ h h22 := fr_call f0 fh22 rfl
            refine V_iconst 1 d_Rod_lay_52 (by decide) ?_
            exact V_iret rfl d_Rod_lay_53 ⟨1, rfl, ⟨hI24, f25, (Or.inr ⟨by (first | decide +kernel | omega), by rw [show kZ.toNat = 1 by (first | decide +kernel | omega)]; show LY (-1) h h22 (h.1 110 1).toInt (h.1 110 2).toInt 111 iZ.toNat iZ v _; rw [t1K, s1K, t1E, s1E]; exact Or.inr (Or.inr ⟨by (first | decide +kernel | omega), by (first | decide +kernel | omega), by (first | decide +kernel | omega), tc_1, p23⟩)⟩)⟩⟩
          ·
            refine V_bipush (-12) d_Rod_lay_42 (by decide) ?_
            exact V_iret rfl d_Rod_lay_44 ⟨(-12), rfl, ⟨hI, f0, (Or.inr ⟨by (first | decide +kernel | omega), by rw [show kZ.toNat = 1 by (first | decide +kernel | omega)]; show LY (-1) h h (h.1 110 1).toInt (h.1 110 2).toInt 111 iZ.toNat iZ v _; rw [t1K, s1K, t1E, s1E]; exact Or.inr (Or.inl ⟨by (first | decide +kernel | omega), by (first | decide +kernel | omega), rfl, tc_m12⟩)⟩)⟩⟩
      ·
        refine V_bipush (-11) d_Rod_lay_26 (by decide) ?_
        exact V_iret rfl d_Rod_lay_28 ⟨(-11), rfl, ⟨hI, f0, (Or.inr ⟨by (first | decide +kernel | omega), by rw [show kZ.toNat = 1 by (first | decide +kernel | omega)]; show LY (-1) h h (h.1 110 1).toInt (h.1 110 2).toInt 111 iZ.toNat iZ v _; rw [t1K, s1K, t1E, s1E]; exact Or.inl ⟨by (first | decide +kernel | omega), rfl, tc_m11⟩⟩)⟩⟩
    ·
      refine V_aald (r := 112) sk_107 (by decide) kE (by (first | decide +kernel | omega)) (by rw [c9]; rfl) d_Rod_lay_14 ?_
      refine V_astore 4 [some (.ref 85), some (.int k), some (.int i), some (.int v), some (.ref 112)] d_Rod_lay_15 (by decide) rfl rfl ?_
      refine V_aload d_Rod_lay_17 rfl ?_
      refine N_getK fa_Rod_293 sk_112 rfl d_Rod_lay_19 t2K ?_
      refine V_iconst (-1) d_Rod_lay_22 (by decide) ?_
      refine V_icmp_ne 29 t2E tc_m1 d_Rod_lay_23 (by decide) (fun c26 => ?_) (fun c26 => ?_)
      ·
        refine V_iload_n 2 d_Rod_lay_29 rfl rfl ?_
        refine V_if_lt 42 iE d_Rod_lay_30 (by decide) (fun c27 => ?_) (fun c27 => ?_)
        ·
          refine V_bipush (-12) d_Rod_lay_42 (by decide) ?_
          exact V_iret rfl d_Rod_lay_44 ⟨(-12), rfl, ⟨hI, f0, (Or.inr ⟨by (first | decide +kernel | omega), by rw [show kZ.toNat = 2 by (first | decide +kernel | omega)]; show LY (-1) h h (h.1 112 1).toInt (h.1 112 2).toInt 113 iZ.toNat iZ v _; rw [t2K, s2K, t2E, s2E]; exact Or.inr (Or.inl ⟨by (first | decide +kernel | omega), by (first | decide +kernel | omega), rfl, tc_m12⟩)⟩)⟩⟩
        ·
          refine V_iload_n 2 d_Rod_lay_33 rfl rfl ?_
          refine V_aload d_Rod_lay_34 rfl ?_
          refine N_getK fa_Rod_296 sk_112 rfl d_Rod_lay_36 s2K ?_
          refine V_icmp_lt 45 iE s2E d_Rod_lay_39 (by decide) (fun c28 => ?_) (fun c28 => ?_)
          ·
            refine V_aload d_Rod_lay_45 rfl ?_
            refine V_iload_n 2 d_Rod_lay_47 rfl rfl ?_
            refine V_iload_n 3 d_Rod_lay_48 rfl rfl ?_
            refine N_callVV [.int i, .int v] [] cv_Rod_297 sk_112 rfl d_Rod_lay_49 rfl (Nat.le_of_ble_eq_true rfl) (by decide) (by decide) (c_Sheet_putZ_2 h hI i iZ iE v vZ vE t2 t2Z t2E t2K (by (first | decide +kernel | omega))) (fun h30 p31 => ?_)
            obtain ⟨hI32, fh30, p31⟩ := p31
            have f33 : fr S_Rod_layZ h h30 := fr_call f0 fh30 rfl
            refine V_iconst 1 d_Rod_lay_52 (by decide) ?_
            exact V_iret rfl d_Rod_lay_53 ⟨1, rfl, ⟨hI32, f33, (Or.inr ⟨by (first | decide +kernel | omega), by rw [show kZ.toNat = 2 by (first | decide +kernel | omega)]; show LY (-1) h h30 (h.1 112 1).toInt (h.1 112 2).toInt 113 iZ.toNat iZ v _; rw [t2K, s2K, t2E, s2E]; exact Or.inr (Or.inr ⟨by (first | decide +kernel | omega), by (first | decide +kernel | omega), by (first | decide +kernel | omega), tc_1, p31⟩)⟩)⟩⟩
          ·
            refine V_bipush (-12) d_Rod_lay_42 (by decide) ?_
            exact V_iret rfl d_Rod_lay_44 ⟨(-12), rfl, ⟨hI, f0, (Or.inr ⟨by (first | decide +kernel | omega), by rw [show kZ.toNat = 2 by (first | decide +kernel | omega)]; show LY (-1) h h (h.1 112 1).toInt (h.1 112 2).toInt 113 iZ.toNat iZ v _; rw [t2K, s2K, t2E, s2E]; exact Or.inr (Or.inl ⟨by (first | decide +kernel | omega), by (first | decide +kernel | omega), rfl, tc_m12⟩)⟩)⟩⟩
      ·
        refine V_bipush (-11) d_Rod_lay_26 (by decide) ?_
        exact V_iret rfl d_Rod_lay_28 ⟨(-11), rfl, ⟨hI, f0, (Or.inr ⟨by (first | decide +kernel | omega), by rw [show kZ.toNat = 2 by (first | decide +kernel | omega)]; show LY (-1) h h (h.1 112 1).toInt (h.1 112 2).toInt 113 iZ.toNat iZ v _; rw [t2K, s2K, t2E, s2E]; exact Or.inl ⟨by (first | decide +kernel | omega), rfl, tc_m11⟩⟩)⟩⟩
    ·
      refine V_aald (r := 114) sk_107 (by decide) kE (by (first | decide +kernel | omega)) (by rw [c9]; rfl) d_Rod_lay_14 ?_
      refine V_astore 4 [some (.ref 85), some (.int k), some (.int i), some (.int v), some (.ref 114)] d_Rod_lay_15 (by decide) rfl rfl ?_
      refine V_aload d_Rod_lay_17 rfl ?_
      refine N_getK fa_Rod_293 sk_114 rfl d_Rod_lay_19 t3K ?_
      refine V_iconst (-1) d_Rod_lay_22 (by decide) ?_
      refine V_icmp_ne 29 t3E tc_m1 d_Rod_lay_23 (by decide) (fun c34 => ?_) (fun c34 => ?_)
      ·
        refine V_iload_n 2 d_Rod_lay_29 rfl rfl ?_
        refine V_if_lt 42 iE d_Rod_lay_30 (by decide) (fun c35 => ?_) (fun c35 => ?_)
        ·
          refine V_bipush (-12) d_Rod_lay_42 (by decide) ?_
          exact V_iret rfl d_Rod_lay_44 ⟨(-12), rfl, ⟨hI, f0, (Or.inr ⟨by (first | decide +kernel | omega), by rw [show kZ.toNat = 3 by (first | decide +kernel | omega)]; show LY (-1) h h (h.1 114 1).toInt (h.1 114 2).toInt 115 iZ.toNat iZ v _; rw [t3K, s3K, t3E, s3E]; exact Or.inr (Or.inl ⟨by (first | decide +kernel | omega), by (first | decide +kernel | omega), rfl, tc_m12⟩)⟩)⟩⟩
        ·
          refine V_iload_n 2 d_Rod_lay_33 rfl rfl ?_
          refine V_aload d_Rod_lay_34 rfl ?_
          refine N_getK fa_Rod_296 sk_114 rfl d_Rod_lay_36 s3K ?_
          refine V_icmp_lt 45 iE s3E d_Rod_lay_39 (by decide) (fun c36 => ?_) (fun c36 => ?_)
          ·
            refine V_aload d_Rod_lay_45 rfl ?_
            refine V_iload_n 2 d_Rod_lay_47 rfl rfl ?_
            refine V_iload_n 3 d_Rod_lay_48 rfl rfl ?_
            refine N_callVV [.int i, .int v] [] cv_Rod_297 sk_114 rfl d_Rod_lay_49 rfl (Nat.le_of_ble_eq_true rfl) (by decide) (by decide) (c_Sheet_putZ_3 h hI i iZ iE v vZ vE t3 t3Z t3E t3K (by (first | decide +kernel | omega))) (fun h38 p39 => ?_)
            obtain ⟨hI40, fh38, p39⟩ := p39
            have f41 : fr S_Rod_layZ h h38 := fr_call f0 fh38 rfl
            refine V_iconst 1 d_Rod_lay_52 (by decide) ?_
            exact V_iret rfl d_Rod_lay_53 ⟨1, rfl, ⟨hI40, f41, (Or.inr ⟨by (first | decide +kernel | omega), by rw [show kZ.toNat = 3 by (first | decide +kernel | omega)]; show LY (-1) h h38 (h.1 114 1).toInt (h.1 114 2).toInt 115 iZ.toNat iZ v _; rw [t3K, s3K, t3E, s3E]; exact Or.inr (Or.inr ⟨by (first | decide +kernel | omega), by (first | decide +kernel | omega), by (first | decide +kernel | omega), tc_1, p39⟩)⟩)⟩⟩
          ·
            refine V_bipush (-12) d_Rod_lay_42 (by decide) ?_
            exact V_iret rfl d_Rod_lay_44 ⟨(-12), rfl, ⟨hI, f0, (Or.inr ⟨by (first | decide +kernel | omega), by rw [show kZ.toNat = 3 by (first | decide +kernel | omega)]; show LY (-1) h h (h.1 114 1).toInt (h.1 114 2).toInt 115 iZ.toNat iZ v _; rw [t3K, s3K, t3E, s3E]; exact Or.inr (Or.inl ⟨by (first | decide +kernel | omega), by (first | decide +kernel | omega), rfl, tc_m12⟩)⟩)⟩⟩
      ·
        refine V_bipush (-11) d_Rod_lay_26 (by decide) ?_
        exact V_iret rfl d_Rod_lay_28 ⟨(-11), rfl, ⟨hI, f0, (Or.inr ⟨by (first | decide +kernel | omega), by rw [show kZ.toNat = 3 by (first | decide +kernel | omega)]; show LY (-1) h h (h.1 114 1).toInt (h.1 114 2).toInt 115 iZ.toNat iZ v _; rw [t3K, s3K, t3E, s3E]; exact Or.inl ⟨by (first | decide +kernel | omega), rfl, tc_m11⟩⟩)⟩⟩
  ·
    refine V_iconst (-1) d_Rod_lay_7 (by decide) ?_
    exact V_iret rfl d_Rod_lay_8 ⟨(-1), rfl, ⟨hI, f0, (Or.inl ⟨by (first | decide +kernel | omega), rfl, tc_m1⟩)⟩⟩
def S_Mod_layZ : List (Nat × Option Nat) := [(130, none)]
abbrev q_Mod_layZ (h : Hp) (k : Int32) (kZ : Int) (i : Int32) (iZ : Int) (v : Int32) (vZ : Int) : Option Value → Hp → Prop := pInt (fun r h' => Inv h' ∧ fr S_Mod_layZ h h' ∧ ((kZ < 0 ∨ 3 < kZ) ∧ h' = h ∧ r.toInt = -1 ∨ ¬ (kZ < 0 ∨ 3 < kZ) ∧ LY (-4) h h' (h.1 128 kZ.toNat).toInt (h.1 129 kZ.toNat).toInt 130 (40 * kZ + iZ).toNat iZ v r))
set_option maxRecDepth 100000 in
theorem c_Mod_layZ (h : Hp) (hI : Inv h) (k : Int32) (kZ : Int) (kE : k.toInt = kZ) (i : Int32) (iZ : Int) (iE : i.toInt = iZ) (v : Int32) (vZ : Int) (vE : v.toInt = vZ) : Ct y_Mod_lay b_Mod_lay 4 (some .int) 2 46 [.ref 116, .int k, .int i, .int v] h (q_Mod_layZ h k kZ i iZ v vZ) := by
  refine ct_ow R_Mod [some (.ref 116), some (.int k), some (.int i), some (.int v)] rfl (by decide) rfl (Nat.le_of_ble_eq_true rfl) ?_
  have f0 : fr S_Mod_layZ h h := fr_rf
  obtain ⟨tv, tvZ, tvE, tvK⟩ : ∃ (y : Int32) (Y : Int), y.toInt = Y ∧ h.1 128 (kZ).toNat = y := ⟨_, _, rfl, rfl⟩
  obtain ⟨sv, svZ, svE, svK⟩ : ∃ (y : Int32) (Y : Int), y.toInt = Y ∧ h.1 129 (kZ).toNat = y := ⟨_, _, rfl, rfl⟩
  refine V_iload_n 1 d_Mod_lay_0 rfl rfl ?_
  refine V_iconst 0 d_Mod_lay_1 (by decide) ?_
  refine N_callSI [.int k, .int 0] [] cs_Mod_322 d_Mod_lay_2 rfl (Nat.le_of_ble_eq_true rfl) (by decide) (by decide) (c_Mod_isSheet h k kZ kE 0 0 tc_0) (fun z1 h2 z1Z z1E p3 => ?_)
  obtain ⟨eh2, p3⟩ := p3
  subst eh2
  refine V_if_ne 10 z1E d_Mod_lay_5 (by decide) (fun c4 => ?_) (fun c4 => ?_)
  ·
    have svB : 0 ≤ svZ ∧ svZ ≤ 40 := inv_at hI svE svK.symm rfl
    refine V_aload_n 0 d_Mod_lay_10 rfl rfl ?_
    refine V_getR fa_Mod_44 sk_116 rfl d_Mod_lay_11 ?_
    refine V_iload_n 1 d_Mod_lay_14 rfl rfl ?_
    refine N_ialdK sk_128 kE (by (first | decide +kernel | omega)) d_Mod_lay_15 tvK ?_
    refine V_bipush (-4) d_Mod_lay_16 (by decide) ?_
    refine V_icmp_ne 24 tvE tc_m4 d_Mod_lay_18 (by decide) (fun c6 => ?_) (fun c6 => ?_)
    ·
      refine V_iload_n 2 d_Mod_lay_24 rfl rfl ?_
      refine V_i2l d_Mod_lay_25 (fun z7 z7e z7E => ?_)
      have z7F : z7.toInt = iZ := z7E.trans iE
      refine V_lconst 0 d_Mod_lay_26 (by decide) ?_
      refine V_aload_n 0 d_Mod_lay_27 rfl rfl ?_
      refine V_getR fa_Mod_47 sk_116 rfl d_Mod_lay_28 ?_
      refine V_iload_n 1 d_Mod_lay_31 rfl rfl ?_
      refine N_ialdK sk_129 kE (by (first | decide +kernel | omega)) d_Mod_lay_32 svK ?_
      refine V_iconst 1 d_Mod_lay_33 (by decide) ?_
      refine V_isub svE tc_1 (by (first | decide +kernel | omega)) d_Mod_lay_34 (fun z9 z9e z9E => ?_)
      refine V_i2l d_Mod_lay_35 (fun z10 z10e z10E => ?_)
      have z10F : z10.toInt = (svZ - 1) := z10E.trans z9E
      refine N_callSI [.long z7, .long 0, .long z10] [] cs_Mod_95 d_Mod_lay_36 rfl (Nat.le_of_ble_eq_true rfl) (by decide) (by decide) (c_Mod_in h z7 iZ z7F 0 0 tl_0 z10 ((svZ - 1)) z10F) (fun z11 h12 z11Z z11E p13 => ?_)
      obtain ⟨eh12, p13⟩ := p13
      subst eh12
      refine V_if_ne 45 z11E d_Mod_lay_39 (by decide) (fun c14 => ?_) (fun c14 => ?_)
      ·
        refine V_aload_n 0 d_Mod_lay_45 rfl rfl ?_
        refine V_getR fa_Mod_50 sk_116 rfl d_Mod_lay_46 ?_
        refine V_bipush 40 d_Mod_lay_49 (by decide) ?_
        refine V_iload_n 1 d_Mod_lay_51 rfl rfl ?_
        refine V_imul tc_40 kE (by (first | decide +kernel | omega)) d_Mod_lay_52 (fun z15 z15e z15E => ?_)
        refine V_iload_n 2 d_Mod_lay_53 rfl rfl ?_
        refine V_iadd z15E iE (by (first | decide +kernel | omega)) d_Mod_lay_54 (fun z16 z16e z16E => ?_)
        refine V_aload_n 0 d_Mod_lay_55 rfl rfl ?_
        refine V_getR fa_Mod_44 sk_116 rfl d_Mod_lay_56 ?_
        refine V_iload_n 1 d_Mod_lay_59 rfl rfl ?_
        refine N_ialdK sk_128 kE (by (first | decide +kernel | omega)) d_Mod_lay_60 tvK ?_
        refine V_if_ne 69 tvE d_Mod_lay_61 (by decide) (fun c18 => ?_) (fun c18 => ?_)
        ·
          refine V_aload_n 0 d_Mod_lay_69 rfl rfl ?_
          refine V_getR fa_Mod_44 sk_116 rfl d_Mod_lay_70 ?_
          refine V_iload_n 1 d_Mod_lay_73 rfl rfl ?_
          refine N_ialdK sk_128 kE (by (first | decide +kernel | omega)) d_Mod_lay_74 tvK ?_
          refine V_iconst 1 d_Mod_lay_75 (by decide) ?_
          refine V_icmp_ne 84 tvE tc_1 d_Mod_lay_76 (by decide) (fun c20 => ?_) (fun c20 => ?_)
          ·
            refine V_iload_n 3 d_Mod_lay_84 rfl rfl ?_
            refine N_iast sk_130 z16E (by (first | decide +kernel | omega)) d_Mod_lay_85 (fun h21 eh21 => ?_)
            have hI22 : Inv h21 := inv_full hI eh21 rfl
            have f23 : fr S_Mod_layZ h h21 := fr_put f0 eh21 rfl
            refine V_iconst 1 d_Mod_lay_86 (by decide) ?_
            exact V_iret rfl d_Mod_lay_87 ⟨1, rfl, ⟨hI22, f23, (Or.inr ⟨by (first | decide +kernel | omega), by rw [tvK, svK, tvE, svE]; exact Or.inr (Or.inr ⟨by (first | decide +kernel | omega), by (first | decide +kernel | omega), by (first | decide +kernel | omega), tc_1, v, Or.inr (Or.inr ⟨by (first | decide +kernel | omega), rfl⟩), (by rw [eh21] <;> rfl)⟩)⟩)⟩⟩
          ·
            refine V_iload_n 3 d_Mod_lay_79 rfl rfl ?_
            refine N_i2s d_Mod_lay_80 (fun z24 z24Z z24E z24e => ?_)
            refine V_goto 85 d_Mod_lay_81 (by decide) ?_
            refine N_iast sk_130 z16E (by (first | decide +kernel | omega)) d_Mod_lay_85 (fun h25 eh25 => ?_)
            have hI26 : Inv h25 := inv_full hI eh25 rfl
            have f27 : fr S_Mod_layZ h h25 := fr_put f0 eh25 rfl
            refine V_iconst 1 d_Mod_lay_86 (by decide) ?_
            exact V_iret rfl d_Mod_lay_87 ⟨1, rfl, ⟨hI26, f27, (Or.inr ⟨by (first | decide +kernel | omega), by rw [tvK, svK, tvE, svE]; exact Or.inr (Or.inr ⟨by (first | decide +kernel | omega), by (first | decide +kernel | omega), by (first | decide +kernel | omega), tc_1, z24, Or.inr (Or.inl ⟨by (first | decide +kernel | omega), z24e⟩), (by rw [eh25] <;> rfl)⟩)⟩)⟩⟩
        ·
          refine V_iload_n 3 d_Mod_lay_64 rfl rfl ?_
          refine N_i2b d_Mod_lay_65 (fun z28 z28Z z28E z28e => ?_)
          refine V_goto 85 d_Mod_lay_66 (by decide) ?_
          refine N_iast sk_130 z16E (by (first | decide +kernel | omega)) d_Mod_lay_85 (fun h29 eh29 => ?_)
          have hI30 : Inv h29 := inv_full hI eh29 rfl
          have f31 : fr S_Mod_layZ h h29 := fr_put f0 eh29 rfl
          refine V_iconst 1 d_Mod_lay_86 (by decide) ?_
          exact V_iret rfl d_Mod_lay_87 ⟨1, rfl, ⟨hI30, f31, (Or.inr ⟨by (first | decide +kernel | omega), by rw [tvK, svK, tvE, svE]; exact Or.inr (Or.inr ⟨by (first | decide +kernel | omega), by (first | decide +kernel | omega), by (first | decide +kernel | omega), tc_1, z28, Or.inl ⟨by (first | decide +kernel | omega), z28e⟩, (by rw [eh29] <;> rfl)⟩)⟩)⟩⟩
      ·
        refine V_bipush (-12) d_Mod_lay_42 (by decide) ?_
        exact V_iret rfl d_Mod_lay_44 ⟨(-12), rfl, ⟨hI, f0, (Or.inr ⟨by (first | decide +kernel | omega), by rw [tvK, svK, tvE, svE]; exact Or.inr (Or.inl ⟨by (first | decide +kernel | omega), by (first | decide +kernel | omega), rfl, tc_m12⟩)⟩)⟩⟩
    ·
      refine V_bipush (-11) d_Mod_lay_21 (by decide) ?_
      exact V_iret rfl d_Mod_lay_23 ⟨(-11), rfl, ⟨hI, f0, (Or.inr ⟨by (first | decide +kernel | omega), by rw [tvK, svK, tvE, svE]; exact Or.inl ⟨by (first | decide +kernel | omega), rfl, tc_m11⟩⟩)⟩⟩
  ·
    refine V_iconst (-1) d_Mod_lay_8 (by decide) ?_
    exact V_iret rfl d_Mod_lay_9 ⟨(-1), rfl, ⟨hI, f0, (Or.inl ⟨by (first | decide +kernel | omega), rfl, tc_m1⟩)⟩⟩
