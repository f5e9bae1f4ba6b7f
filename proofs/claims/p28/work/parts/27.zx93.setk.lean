section
def S_fillX_109 : List (Nat × Option Nat) := [(109, none)]
abbrev q_fillX_109 (h : Hp) (v : Int32) (vZ : Int) : Option Value → Hp → Prop := pVd (fun h' => Inv h' ∧ fr S_fillX_109 h h' ∧ fll h' 109 v 40)
set_option maxRecDepth 100000 in
theorem c_fillX_109 (h : Hp) (hI : Inv h) (v : Int32) (vZ : Int) (vE : v.toInt = vZ) : Ct y_Arr_fill b_Arr_fill 4 none 0 0 [.ref 109, .int v] h (q_fillX_109 h v vZ) := by
  refine ct_ow R_Arr [some (.ref 109), some (.int v), none, none] rfl (by decide) rfl (Nat.le_of_ble_eq_true rfl) ?_
  have f0 : fr S_fillX_109 h h := fr_rf
  refine V_iconst 0 d_Arr_fill_0 (by decide) ?_
  refine V_istore_n 2 [some (.ref 109), some (.int v), some (.int 0), none] d_Arr_fill_1 rfl (by decide) rfl rfl ?_
  refine V_aload_n 0 d_Arr_fill_2 rfl rfl ?_
  refine V_alen sk_109 (by decide) (by decide : Int32.ofNat 40 = 40) d_Arr_fill_3 ?_
  refine V_istore_n 3 [some (.ref 109), some (.int v), some (.int 0), some (.int 40)] d_Arr_fill_4 rfl (by decide) rfl rfl ?_
  have L1 : ∀ (nn : Nat) (v3 : Int32) (v3Z : Int) (h4 : Hp), v3.toInt = v3Z → Inv h4 → fr S_fillX_109 h h4 → 0 ≤ v3Z ∧ v3Z ≤ 40 → fll h4 109 v v3Z → 40 - v3Z < (nn : Int) → V R_Arr b_Arr_fill 4 none 0 0 (q_fillX_109 h v vZ) h4 5 [some (.ref 109), some (.int v), some (.int v3), some (.int 40)] [] := by
    intro nn
    induction nn with
    | zero => intro v3 v3Z h4 v3E Ih4 Fh4 q5 q6 hm7; exact absurd hm7 (by (first | decide +kernel | omega))
    | succ nn ihL1 =>
      intro v3 v3Z h4 v3E Ih4 Fh4 q5 q6 hm7
      refine V_iload_n 2 d_Arr_fill_5 rfl rfl ?_
      refine V_iload_n 3 d_Arr_fill_6 rfl rfl ?_
      refine V_icmp_ge 20 v3E tc_40 d_Arr_fill_7 (by decide) (fun c8 => ?_) (fun c8 => ?_)
      ·
        exact V_vret rfl d_Arr_fill_20 ⟨rfl, ⟨Ih4, Fh4, (fll_le (by assumption) (by (first | decide +kernel | omega)))⟩⟩
      ·
        refine V_aload_n 0 d_Arr_fill_10 rfl rfl ?_
        refine V_iload_n 2 d_Arr_fill_11 rfl rfl ?_
        refine V_iload_n 1 d_Arr_fill_12 rfl rfl ?_
        refine N_iast sk_109 v3E (by (first | decide +kernel | omega)) d_Arr_fill_13 (fun h9 eh9 => ?_)
        have hI10 : Inv h9 := inv_full Ih4 eh9 rfl
        have f11 : fr S_fillX_109 h h9 := fr_put Fh4 eh9 rfl
        obtain ⟨z12, z12E, z12e⟩ : ∃ y : Int32, y.toInt = v3Z + 1 ∧ y = v3 + Int32.ofInt 1 := ⟨_, ti_add v3E (by decide) (by (first | decide +kernel | omega)), rfl⟩
        refine V_iinc 2 [some (.ref 109), some (.int v), some (.int z12), some (.int 40)] d_Arr_fill_14 rfl z12e.symm (by decide) rfl rfl ?_
        refine V_goto 5 d_Arr_fill_17 (by decide) ?_
        exact ihL1 z12 ((v3Z + 1)) h9 z12E hI10 f11 (by (first | decide +kernel | omega)) (fll_s (by assumption) (by (first | decide +kernel | omega)) eh9) (by (first | decide +kernel | omega))
  exact L1 (Int.toNat ((40 - 0 : Int) + 1)) 0 0 h tc_0 hI f0 (by (first | decide +kernel | omega)) fll_0 (by (first | decide +kernel | omega))
def S_Sheet_makeNewZ_0 : List (Nat × Option Nat) := [(108, some 1), (108, some 2), (109, none)]
abbrev q_Sheet_makeNewZ_0 (h : Hp) (l : Int32) (lZ : Int) (n : Int32) (nZ : Int) : Option Value → Hp → Prop := pVd (fun h' => Inv h' ∧ fr S_Sheet_makeNewZ_0 h h' ∧ (h'.1 108 1 = l ∧ h'.1 108 2 = n ∧ fll h' 109 0 40))
set_option maxRecDepth 100000 in
theorem c_Sheet_makeNewZ_0 (h : Hp) (hI : Inv h) (l : Int32) (lZ : Int) (lE : l.toInt = lZ) (n : Int32) (nZ : Int) (nE : n.toInt = nZ) (hy0 : 0 ≤ nZ ∧ nZ ≤ 40) : Ct y_Sheet_makeNew b_Sheet_makeNew 3 none 1 23 [.ref 108, .int l, .int n] h (q_Sheet_makeNewZ_0 h l lZ n nZ) := by
  refine ct_ow R_Sheet [some (.ref 108), some (.int l), some (.int n)] rfl (by decide) rfl (Nat.le_of_ble_eq_true rfl) ?_
  have f0 : fr S_Sheet_makeNewZ_0 h h := fr_rf
  refine V_aload_n 0 d_Sheet_makeNew_0 rfl rfl ?_
  refine V_getR fa_Sheet_9 sk_108 rfl d_Sheet_makeNew_1 ?_
  refine V_iconst 0 d_Sheet_makeNew_4 (by decide) ?_
  refine N_callSV [.ref 109, .int 0] [] cs_Sheet_19 d_Sheet_makeNew_5 rfl (Nat.le_of_ble_eq_true rfl) (by decide) (by decide) (c_fillX_109 h hI 0 0 tc_0) (fun h2 p3 => ?_)
  obtain ⟨hI4, fh2, p3⟩ := p3
  have f5 : fr S_Sheet_makeNewZ_0 h h2 := fr_call f0 fh2 rfl
  refine V_aload_n 0 d_Sheet_makeNew_8 rfl rfl ?_
  refine V_iload_n 1 d_Sheet_makeNew_9 rfl rfl ?_
  refine N_putI fp_Sheet_15 sk_108 rfl d_Sheet_makeNew_10 (fun h6 eh6 => ?_)
  have hI7 : Inv h6 := inv_full hI4 eh6 rfl
  have f8 : fr S_Sheet_makeNewZ_0 h h6 := fr_put f5 eh6 rfl
  refine V_aload_n 0 d_Sheet_makeNew_13 rfl rfl ?_
  refine V_iload_n 2 d_Sheet_makeNew_14 rfl rfl ?_
  refine N_putI fp_Sheet_25 sk_108 rfl d_Sheet_makeNew_15 (fun h9 eh9 => ?_)
  have hI10 : Inv h9 := inv_put (lo := 0) (hi := 40) hI7 eh9 rfl nE (by (first | decide +kernel | omega))
  have f11 : fr S_Sheet_makeNewZ_0 h h9 := fr_put f8 eh9 rfl
  exact V_vret rfl d_Sheet_makeNew_18 ⟨rfl, ⟨hI10, f11, ⟨(kn_nei eh9 (kn_put eh6) (by decide)), (kn_put eh9), fll_ne eh9 (by decide) (fll_ne eh6 (by decide) p3)⟩⟩⟩
def S_Sheet_putZ_0 : List (Nat × Option Nat) := [(109, none)]
abbrev q_Sheet_putZ_0 (h : Hp) (i : Int32) (iZ : Int) (v : Int32) (vZ : Int) (t : Int32) (tZ : Int) : Option Value → Hp → Prop := pVd (fun h' => Inv h' ∧ fr S_Sheet_putZ_0 h h' ∧ (∃ x : Int32, nrw tZ v x ∧ h' = pI h 109 iZ.toNat x))
set_option maxRecDepth 100000 in
theorem c_Sheet_putZ_0 (h : Hp) (hI : Inv h) (i : Int32) (iZ : Int) (iE : i.toInt = iZ) (v : Int32) (vZ : Int) (vE : v.toInt = vZ) (t : Int32) (tZ : Int) (tE : t.toInt = tZ) (tK : h.1 108 1 = t) (hy0 : 0 ≤ iZ ∧ iZ < 40) : Ct y_Sheet_put b_Sheet_put 3 none 0 0 [.ref 108, .int i, .int v] h (q_Sheet_putZ_0 h i iZ v vZ t tZ) := by
  refine ct_ow R_Sheet [some (.ref 108), some (.int i), some (.int v)] rfl (by decide) rfl (Nat.le_of_ble_eq_true rfl) ?_
  have f0 : fr S_Sheet_putZ_0 h h := fr_rf
  refine V_aload_n 0 d_Sheet_put_0 rfl rfl ?_
  refine N_getK fa_Sheet_15 sk_108 rfl d_Sheet_put_1 tK ?_
  refine V_if_ne 18 tE d_Sheet_put_4 (by decide) (fun c1 => ?_) (fun c1 => ?_)
  ·
    refine V_aload_n 0 d_Sheet_put_18 rfl rfl ?_
    refine N_getK fa_Sheet_15 sk_108 rfl d_Sheet_put_19 tK ?_
    refine V_iconst 1 d_Sheet_put_22 (by decide) ?_
    refine V_icmp_ne 37 tE tc_1 d_Sheet_put_23 (by decide) (fun c2 => ?_) (fun c2 => ?_)
    ·
      refine V_aload_n 0 d_Sheet_put_37 rfl rfl ?_
      refine V_getR fa_Sheet_9 sk_108 rfl d_Sheet_put_38 ?_
      refine V_iload_n 1 d_Sheet_put_41 rfl rfl ?_
      refine V_iload_n 2 d_Sheet_put_42 rfl rfl ?_
      refine N_iast sk_109 iE (by (first | decide +kernel | omega)) d_Sheet_put_43 (fun h3 eh3 => ?_)
      have hI4 : Inv h3 := inv_full hI eh3 rfl
      have f5 : fr S_Sheet_putZ_0 h h3 := fr_put f0 eh3 rfl
      exact V_vret rfl d_Sheet_put_44 ⟨rfl, ⟨hI4, f5, ⟨v, Or.inr (Or.inr ⟨by (first | decide +kernel | omega), rfl⟩), (by rw [eh3] <;> rfl)⟩⟩⟩
    ·
      refine V_aload_n 0 d_Sheet_put_26 rfl rfl ?_
      refine V_getR fa_Sheet_9 sk_108 rfl d_Sheet_put_27 ?_
      refine V_iload_n 1 d_Sheet_put_30 rfl rfl ?_
      refine V_iload_n 2 d_Sheet_put_31 rfl rfl ?_
      refine N_i2s d_Sheet_put_32 (fun z6 z6Z z6E z6e => ?_)
      refine N_iast sk_109 iE (by (first | decide +kernel | omega)) d_Sheet_put_33 (fun h7 eh7 => ?_)
      have hI8 : Inv h7 := inv_full hI eh7 rfl
      have f9 : fr S_Sheet_putZ_0 h h7 := fr_put f0 eh7 rfl
      refine V_goto 44 d_Sheet_put_34 (by decide) ?_
      exact V_vret rfl d_Sheet_put_44 ⟨rfl, ⟨hI8, f9, ⟨z6, Or.inr (Or.inl ⟨by (first | decide +kernel | omega), z6e⟩), (by rw [eh7] <;> rfl)⟩⟩⟩
  ·
    refine V_aload_n 0 d_Sheet_put_7 rfl rfl ?_
    refine V_getR fa_Sheet_9 sk_108 rfl d_Sheet_put_8 ?_
    refine V_iload_n 1 d_Sheet_put_11 rfl rfl ?_
    refine V_iload_n 2 d_Sheet_put_12 rfl rfl ?_
    refine N_i2b d_Sheet_put_13 (fun z10 z10Z z10E z10e => ?_)
    refine N_iast sk_109 iE (by (first | decide +kernel | omega)) d_Sheet_put_14 (fun h11 eh11 => ?_)
    have hI12 : Inv h11 := inv_full hI eh11 rfl
    have f13 : fr S_Sheet_putZ_0 h h11 := fr_put f0 eh11 rfl
    refine V_goto 44 d_Sheet_put_15 (by decide) ?_
    exact V_vret rfl d_Sheet_put_44 ⟨rfl, ⟨hI12, f13, ⟨z10, Or.inl ⟨by (first | decide +kernel | omega), z10e⟩, (by rw [eh11] <;> rfl)⟩⟩⟩
def S_fillX_111 : List (Nat × Option Nat) := [(111, none)]
abbrev q_fillX_111 (h : Hp) (v : Int32) (vZ : Int) : Option Value → Hp → Prop := pVd (fun h' => Inv h' ∧ fr S_fillX_111 h h' ∧ fll h' 111 v 40)
set_option maxRecDepth 100000 in
theorem c_fillX_111 (h : Hp) (hI : Inv h) (v : Int32) (vZ : Int) (vE : v.toInt = vZ) : Ct y_Arr_fill b_Arr_fill 4 none 0 0 [.ref 111, .int v] h (q_fillX_111 h v vZ) := by
  refine ct_ow R_Arr [some (.ref 111), some (.int v), none, none] rfl (by decide) rfl (Nat.le_of_ble_eq_true rfl) ?_
  have f0 : fr S_fillX_111 h h := fr_rf
  refine V_iconst 0 d_Arr_fill_0 (by decide) ?_
  refine V_istore_n 2 [some (.ref 111), some (.int v), some (.int 0), none] d_Arr_fill_1 rfl (by decide) rfl rfl ?_
  refine V_aload_n 0 d_Arr_fill_2 rfl rfl ?_
  refine V_alen sk_111 (by decide) (by decide : Int32.ofNat 40 = 40) d_Arr_fill_3 ?_
  refine V_istore_n 3 [some (.ref 111), some (.int v), some (.int 0), some (.int 40)] d_Arr_fill_4 rfl (by decide) rfl rfl ?_
  have L1 : ∀ (nn : Nat) (v3 : Int32) (v3Z : Int) (h4 : Hp), v3.toInt = v3Z → Inv h4 → fr S_fillX_111 h h4 → 0 ≤ v3Z ∧ v3Z ≤ 40 → fll h4 111 v v3Z → 40 - v3Z < (nn : Int) → V R_Arr b_Arr_fill 4 none 0 0 (q_fillX_111 h v vZ) h4 5 [some (.ref 111), some (.int v), some (.int v3), some (.int 40)] [] := by
    intro nn
    induction nn with
    | zero => intro v3 v3Z h4 v3E Ih4 Fh4 q5 q6 hm7; exact absurd hm7 (by (first | decide +kernel | omega))
    | succ nn ihL1 =>
      intro v3 v3Z h4 v3E Ih4 Fh4 q5 q6 hm7
      refine V_iload_n 2 d_Arr_fill_5 rfl rfl ?_
      refine V_iload_n 3 d_Arr_fill_6 rfl rfl ?_
      refine V_icmp_ge 20 v3E tc_40 d_Arr_fill_7 (by decide) (fun c8 => ?_) (fun c8 => ?_)
      ·
        exact V_vret rfl d_Arr_fill_20 ⟨rfl, ⟨Ih4, Fh4, (fll_le (by assumption) (by (first | decide +kernel | omega)))⟩⟩
      ·
        refine V_aload_n 0 d_Arr_fill_10 rfl rfl ?_
        refine V_iload_n 2 d_Arr_fill_11 rfl rfl ?_
        refine V_iload_n 1 d_Arr_fill_12 rfl rfl ?_
        refine N_iast sk_111 v3E (by (first | decide +kernel | omega)) d_Arr_fill_13 (fun h9 eh9 => ?_)
        have hI10 : Inv h9 := inv_full Ih4 eh9 rfl
        have f11 : fr S_fillX_111 h h9 := fr_put Fh4 eh9 rfl
        obtain ⟨z12, z12E, z12e⟩ : ∃ y : Int32, y.toInt = v3Z + 1 ∧ y = v3 + Int32.ofInt 1 := ⟨_, ti_add v3E (by decide) (by (first | decide +kernel | omega)), rfl⟩
        refine V_iinc 2 [some (.ref 111), some (.int v), some (.int z12), some (.int 40)] d_Arr_fill_14 rfl z12e.symm (by decide) rfl rfl ?_
        refine V_goto 5 d_Arr_fill_17 (by decide) ?_
        exact ihL1 z12 ((v3Z + 1)) h9 z12E hI10 f11 (by (first | decide +kernel | omega)) (fll_s (by assumption) (by (first | decide +kernel | omega)) eh9) (by (first | decide +kernel | omega))
  exact L1 (Int.toNat ((40 - 0 : Int) + 1)) 0 0 h tc_0 hI f0 (by (first | decide +kernel | omega)) fll_0 (by (first | decide +kernel | omega))
def S_Sheet_makeNewZ_1 : List (Nat × Option Nat) := [(110, some 1), (110, some 2), (111, none)]
abbrev q_Sheet_makeNewZ_1 (h : Hp) (l : Int32) (lZ : Int) (n : Int32) (nZ : Int) : Option Value → Hp → Prop := pVd (fun h' => Inv h' ∧ fr S_Sheet_makeNewZ_1 h h' ∧ (h'.1 110 1 = l ∧ h'.1 110 2 = n ∧ fll h' 111 0 40))
set_option maxRecDepth 100000 in
theorem c_Sheet_makeNewZ_1 (h : Hp) (hI : Inv h) (l : Int32) (lZ : Int) (lE : l.toInt = lZ) (n : Int32) (nZ : Int) (nE : n.toInt = nZ) (hy0 : 0 ≤ nZ ∧ nZ ≤ 40) : Ct y_Sheet_makeNew b_Sheet_makeNew 3 none 1 23 [.ref 110, .int l, .int n] h (q_Sheet_makeNewZ_1 h l lZ n nZ) := by
  refine ct_ow R_Sheet [some (.ref 110), some (.int l), some (.int n)] rfl (by decide) rfl (Nat.le_of_ble_eq_true rfl) ?_
  have f0 : fr S_Sheet_makeNewZ_1 h h := fr_rf
  refine V_aload_n 0 d_Sheet_makeNew_0 rfl rfl ?_
  refine V_getR fa_Sheet_9 sk_110 rfl d_Sheet_makeNew_1 ?_
  refine V_iconst 0 d_Sheet_makeNew_4 (by decide) ?_
  refine N_callSV [.ref 111, .int 0] [] cs_Sheet_19 d_Sheet_makeNew_5 rfl (Nat.le_of_ble_eq_true rfl) (by decide) (by decide) (c_fillX_111 h hI 0 0 tc_0) (fun h2 p3 => ?_)
  obtain ⟨hI4, fh2, p3⟩ := p3
  have f5 : fr S_Sheet_makeNewZ_1 h h2 := fr_call f0 fh2 rfl
  refine V_aload_n 0 d_Sheet_makeNew_8 rfl rfl ?_
  refine V_iload_n 1 d_Sheet_makeNew_9 rfl rfl ?_
  refine N_putI fp_Sheet_15 sk_110 rfl d_Sheet_makeNew_10 (fun h6 eh6 => ?_)
  have hI7 : Inv h6 := inv_full hI4 eh6 rfl
  have f8 : fr S_Sheet_makeNewZ_1 h h6 := fr_put f5 eh6 rfl
  refine V_aload_n 0 d_Sheet_makeNew_13 rfl rfl ?_
  refine V_iload_n 2 d_Sheet_makeNew_14 rfl rfl ?_
  refine N_putI fp_Sheet_25 sk_110 rfl d_Sheet_makeNew_15 (fun h9 eh9 => ?_)
  have hI10 : Inv h9 := inv_put (lo := 0) (hi := 40) hI7 eh9 rfl nE (by (first | decide +kernel | omega))
  have f11 : fr S_Sheet_makeNewZ_1 h h9 := fr_put f8 eh9 rfl
  exact V_vret rfl d_Sheet_makeNew_18 ⟨rfl, ⟨hI10, f11, ⟨(kn_nei eh9 (kn_put eh6) (by decide)), (kn_put eh9), fll_ne eh9 (by decide) (fll_ne eh6 (by decide) p3)⟩⟩⟩
def S_Sheet_putZ_1 : List (Nat × Option Nat) := [(111, none)]
abbrev q_Sheet_putZ_1 (h : Hp) (i : Int32) (iZ : Int) (v : Int32) (vZ : Int) (t : Int32) (tZ : Int) : Option Value → Hp → Prop := pVd (fun h' => Inv h' ∧ fr S_Sheet_putZ_1 h h' ∧ (∃ x : Int32, nrw tZ v x ∧ h' = pI h 111 iZ.toNat x))
set_option maxRecDepth 100000 in
theorem c_Sheet_putZ_1 (h : Hp) (hI : Inv h) (i : Int32) (iZ : Int) (iE : i.toInt = iZ) (v : Int32) (vZ : Int) (vE : v.toInt = vZ) (t : Int32) (tZ : Int) (tE : t.toInt = tZ) (tK : h.1 110 1 = t) (hy0 : 0 ≤ iZ ∧ iZ < 40) : Ct y_Sheet_put b_Sheet_put 3 none 0 0 [.ref 110, .int i, .int v] h (q_Sheet_putZ_1 h i iZ v vZ t tZ) := by
  refine ct_ow R_Sheet [some (.ref 110), some (.int i), some (.int v)] rfl (by decide) rfl (Nat.le_of_ble_eq_true rfl) ?_
  have f0 : fr S_Sheet_putZ_1 h h := fr_rf
  refine V_aload_n 0 d_Sheet_put_0 rfl rfl ?_
  refine N_getK fa_Sheet_15 sk_110 rfl d_Sheet_put_1 tK ?_
  refine V_if_ne 18 tE d_Sheet_put_4 (by decide) (fun c1 => ?_) (fun c1 => ?_)
  ·
    refine V_aload_n 0 d_Sheet_put_18 rfl rfl ?_
    refine N_getK fa_Sheet_15 sk_110 rfl d_Sheet_put_19 tK ?_
    refine V_iconst 1 d_Sheet_put_22 (by decide) ?_
    refine V_icmp_ne 37 tE tc_1 d_Sheet_put_23 (by decide) (fun c2 => ?_) (fun c2 => ?_)
    ·
      refine V_aload_n 0 d_Sheet_put_37 rfl rfl ?_
      refine V_getR fa_Sheet_9 sk_110 rfl d_Sheet_put_38 ?_
      refine V_iload_n 1 d_Sheet_put_41 rfl rfl ?_
      refine V_iload_n 2 d_Sheet_put_42 rfl rfl ?_
      refine N_iast sk_111 iE (by (first | decide +kernel | omega)) d_Sheet_put_43 (fun h3 eh3 => ?_)
      have hI4 : Inv h3 := inv_full hI eh3 rfl
      have f5 : fr S_Sheet_putZ_1 h h3 := fr_put f0 eh3 rfl
      exact V_vret rfl d_Sheet_put_44 ⟨rfl, ⟨hI4, f5, ⟨v, Or.inr (Or.inr ⟨by (first | decide +kernel | omega), rfl⟩), (by rw [eh3] <;> rfl)⟩⟩⟩
    ·
      refine V_aload_n 0 d_Sheet_put_26 rfl rfl ?_
      refine V_getR fa_Sheet_9 sk_110 rfl d_Sheet_put_27 ?_
      refine V_iload_n 1 d_Sheet_put_30 rfl rfl ?_
      refine V_iload_n 2 d_Sheet_put_31 rfl rfl ?_
      refine N_i2s d_Sheet_put_32 (fun z6 z6Z z6E z6e => ?_)
      refine N_iast sk_111 iE (by (first | decide +kernel | omega)) d_Sheet_put_33 (fun h7 eh7 => ?_)
      have hI8 : Inv h7 := inv_full hI eh7 rfl
      have f9 : fr S_Sheet_putZ_1 h h7 := fr_put f0 eh7 rfl
      refine V_goto 44 d_Sheet_put_34 (by decide) ?_
      exact V_vret rfl d_Sheet_put_44 ⟨rfl, ⟨hI8, f9, ⟨z6, Or.inr (Or.inl ⟨by (first | decide +kernel | omega), z6e⟩), (by rw [eh7] <;> rfl)⟩⟩⟩
  ·
    refine V_aload_n 0 d_Sheet_put_7 rfl rfl ?_
    refine V_getR fa_Sheet_9 sk_110 rfl d_Sheet_put_8 ?_
    refine V_iload_n 1 d_Sheet_put_11 rfl rfl ?_
    refine V_iload_n 2 d_Sheet_put_12 rfl rfl ?_
    refine N_i2b d_Sheet_put_13 (fun z10 z10Z z10E z10e => ?_)
    refine N_iast sk_111 iE (by (first | decide +kernel | omega)) d_Sheet_put_14 (fun h11 eh11 => ?_)
    have hI12 : Inv h11 := inv_full hI eh11 rfl
    have f13 : fr S_Sheet_putZ_1 h h11 := fr_put f0 eh11 rfl
    refine V_goto 44 d_Sheet_put_15 (by decide) ?_
    exact V_vret rfl d_Sheet_put_44 ⟨rfl, ⟨hI12, f13, ⟨z10, Or.inl ⟨by (first | decide +kernel | omega), z10e⟩, (by rw [eh11] <;> rfl)⟩⟩⟩
def S_fillX_113 : List (Nat × Option Nat) := [(113, none)]
abbrev q_fillX_113 (h : Hp) (v : Int32) (vZ : Int) : Option Value → Hp → Prop := pVd (fun h' => Inv h' ∧ fr S_fillX_113 h h' ∧ fll h' 113 v 40)
set_option maxRecDepth 100000 in
theorem c_fillX_113 (h : Hp) (hI : Inv h) (v : Int32) (vZ : Int) (vE : v.toInt = vZ) : Ct y_Arr_fill b_Arr_fill 4 none 0 0 [.ref 113, .int v] h (q_fillX_113 h v vZ) := by
  refine ct_ow R_Arr [some (.ref 113), some (.int v), none, none] rfl (by decide) rfl (Nat.le_of_ble_eq_true rfl) ?_
  have f0 : fr S_fillX_113 h h := fr_rf
  refine V_iconst 0 d_Arr_fill_0 (by decide) ?_
  refine V_istore_n 2 [some (.ref 113), some (.int v), some (.int 0), none] d_Arr_fill_1 rfl (by decide) rfl rfl ?_
  refine V_aload_n 0 d_Arr_fill_2 rfl rfl ?_
  refine V_alen sk_113 (by decide) (by decide : Int32.ofNat 40 = 40) d_Arr_fill_3 ?_
  refine V_istore_n 3 [some (.ref 113), some (.int v), some (.int 0), some (.int 40)] d_Arr_fill_4 rfl (by decide) rfl rfl ?_
  have L1 : ∀ (nn : Nat) (v3 : Int32) (v3Z : Int) (h4 : Hp), v3.toInt = v3Z → Inv h4 → fr S_fillX_113 h h4 → 0 ≤ v3Z ∧ v3Z ≤ 40 → fll h4 113 v v3Z → 40 - v3Z < (nn : Int) → V R_Arr b_Arr_fill 4 none 0 0 (q_fillX_113 h v vZ) h4 5 [some (.ref 113), some (.int v), some (.int v3), some (.int 40)] [] := by
    intro nn
    induction nn with
    | zero => intro v3 v3Z h4 v3E Ih4 Fh4 q5 q6 hm7; exact absurd hm7 (by (first | decide +kernel | omega))
    | succ nn ihL1 =>
      intro v3 v3Z h4 v3E Ih4 Fh4 q5 q6 hm7
      refine V_iload_n 2 d_Arr_fill_5 rfl rfl ?_
      refine V_iload_n 3 d_Arr_fill_6 rfl rfl ?_
      refine V_icmp_ge 20 v3E tc_40 d_Arr_fill_7 (by decide) (fun c8 => ?_) (fun c8 => ?_)
      ·
        exact V_vret rfl d_Arr_fill_20 ⟨rfl, ⟨Ih4, Fh4, (fll_le (by assumption) (by (first | decide +kernel | omega)))⟩⟩
      ·
        refine V_aload_n 0 d_Arr_fill_10 rfl rfl ?_
        refine V_iload_n 2 d_Arr_fill_11 rfl rfl ?_
        refine V_iload_n 1 d_Arr_fill_12 rfl rfl ?_
        refine N_iast sk_113 v3E (by (first | decide +kernel | omega)) d_Arr_fill_13 (fun h9 eh9 => ?_)
        have hI10 : Inv h9 := inv_full Ih4 eh9 rfl
        have f11 : fr S_fillX_113 h h9 := fr_put Fh4 eh9 rfl
        obtain ⟨z12, z12E, z12e⟩ : ∃ y : Int32, y.toInt = v3Z + 1 ∧ y = v3 + Int32.ofInt 1 := ⟨_, ti_add v3E (by decide) (by (first | decide +kernel | omega)), rfl⟩
        refine V_iinc 2 [some (.ref 113), some (.int v), some (.int z12), some (.int 40)] d_Arr_fill_14 rfl z12e.symm (by decide) rfl rfl ?_
        refine V_goto 5 d_Arr_fill_17 (by decide) ?_
        exact ihL1 z12 ((v3Z + 1)) h9 z12E hI10 f11 (by (first | decide +kernel | omega)) (fll_s (by assumption) (by (first | decide +kernel | omega)) eh9) (by (first | decide +kernel | omega))
  exact L1 (Int.toNat ((40 - 0 : Int) + 1)) 0 0 h tc_0 hI f0 (by (first | decide +kernel | omega)) fll_0 (by (first | decide +kernel | omega))
def S_Sheet_makeNewZ_2 : List (Nat × Option Nat) := [(112, some 1), (112, some 2), (113, none)]
abbrev q_Sheet_makeNewZ_2 (h : Hp) (l : Int32) (lZ : Int) (n : Int32) (nZ : Int) : Option Value → Hp → Prop := pVd (fun h' => Inv h' ∧ fr S_Sheet_makeNewZ_2 h h' ∧ (h'.1 112 1 = l ∧ h'.1 112 2 = n ∧ fll h' 113 0 40))
set_option maxRecDepth 100000 in
theorem c_Sheet_makeNewZ_2 (h : Hp) (hI : Inv h) (l : Int32) (lZ : Int) (lE : l.toInt = lZ) (n : Int32) (nZ : Int) (nE : n.toInt = nZ) (hy0 : 0 ≤ nZ ∧ nZ ≤ 40) : Ct y_Sheet_makeNew b_Sheet_makeNew 3 none 1 23 [.ref 112, .int l, .int n] h (q_Sheet_makeNewZ_2 h l lZ n nZ) := by
  refine ct_ow R_Sheet [some (.ref 112), some (.int l), some (.int n)] rfl (by decide) rfl (Nat.le_of_ble_eq_true rfl) ?_
  have f0 : fr S_Sheet_makeNewZ_2 h h := fr_rf
  refine V_aload_n 0 d_Sheet_makeNew_0 rfl rfl ?_
  refine V_getR fa_Sheet_9 sk_112 rfl d_Sheet_makeNew_1 ?_
  refine V_iconst 0 d_Sheet_makeNew_4 (by decide) ?_
  refine N_callSV [.ref 113, .int 0] [] cs_Sheet_19 d_Sheet_makeNew_5 rfl (Nat.le_of_ble_eq_true rfl) (by decide) (by decide) (c_fillX_113 h hI 0 0 tc_0) (fun h2 p3 => ?_)
  obtain ⟨hI4, fh2, p3⟩ := p3
  have f5 : fr S_Sheet_makeNewZ_2 h h2 := fr_call f0 fh2 rfl
  refine V_aload_n 0 d_Sheet_makeNew_8 rfl rfl ?_
  refine V_iload_n 1 d_Sheet_makeNew_9 rfl rfl ?_
  refine N_putI fp_Sheet_15 sk_112 rfl d_Sheet_makeNew_10 (fun h6 eh6 => ?_)
  have hI7 : Inv h6 := inv_full hI4 eh6 rfl
  have f8 : fr S_Sheet_makeNewZ_2 h h6 := fr_put f5 eh6 rfl
  refine V_aload_n 0 d_Sheet_makeNew_13 rfl rfl ?_
  refine V_iload_n 2 d_Sheet_makeNew_14 rfl rfl ?_
  refine N_putI fp_Sheet_25 sk_112 rfl d_Sheet_makeNew_15 (fun h9 eh9 => ?_)
  have hI10 : Inv h9 := inv_put (lo := 0) (hi := 40) hI7 eh9 rfl nE (by (first | decide +kernel | omega))
  have f11 : fr S_Sheet_makeNewZ_2 h h9 := fr_put f8 eh9 rfl
  exact V_vret rfl d_Sheet_makeNew_18 ⟨rfl, ⟨hI10, f11, ⟨(kn_nei eh9 (kn_put eh6) (by decide)), (kn_put eh9), fll_ne eh9 (by decide) (fll_ne eh6 (by decide) p3)⟩⟩⟩
def S_Sheet_putZ_2 : List (Nat × Option Nat) := [(113, none)]
abbrev q_Sheet_putZ_2 (h : Hp) (i : Int32) (iZ : Int) (v : Int32) (vZ : Int) (t : Int32) (tZ : Int) : Option Value → Hp → Prop := pVd (fun h' => Inv h' ∧ fr S_Sheet_putZ_2 h h' ∧ (∃ x : Int32, nrw tZ v x ∧ h' = pI h 113 iZ.toNat x))
set_option maxRecDepth 100000 in
theorem c_Sheet_putZ_2 (h : Hp) (hI : Inv h) (i : Int32) (iZ : Int) (iE : i.toInt = iZ) (v : Int32) (vZ : Int) (vE : v.toInt = vZ) (t : Int32) (tZ : Int) (tE : t.toInt = tZ) (tK : h.1 112 1 = t) (hy0 : 0 ≤ iZ ∧ iZ < 40) : Ct y_Sheet_put b_Sheet_put 3 none 0 0 [.ref 112, .int i, .int v] h (q_Sheet_putZ_2 h i iZ v vZ t tZ) := by
  refine ct_ow R_Sheet [some (.ref 112), some (.int i), some (.int v)] rfl (by decide) rfl (Nat.le_of_ble_eq_true rfl) ?_
  have f0 : fr S_Sheet_putZ_2 h h := fr_rf
  refine V_aload_n 0 d_Sheet_put_0 rfl rfl ?_
  refine N_getK fa_Sheet_15 sk_112 rfl d_Sheet_put_1 tK ?_
  refine V_if_ne 18 tE d_Sheet_put_4 (by decide) (fun c1 => ?_) (fun c1 => ?_)
  ·
    refine V_aload_n 0 d_Sheet_put_18 rfl rfl ?_
    refine N_getK fa_Sheet_15 sk_112 rfl d_Sheet_put_19 tK ?_
    refine V_iconst 1 d_Sheet_put_22 (by decide) ?_
    refine V_icmp_ne 37 tE tc_1 d_Sheet_put_23 (by decide) (fun c2 => ?_) (fun c2 => ?_)
    ·
      refine V_aload_n 0 d_Sheet_put_37 rfl rfl ?_
      refine V_getR fa_Sheet_9 sk_112 rfl d_Sheet_put_38 ?_
      refine V_iload_n 1 d_Sheet_put_41 rfl rfl ?_
      refine V_iload_n 2 d_Sheet_put_42 rfl rfl ?_
      refine N_iast sk_113 iE (by (first | decide +kernel | omega)) d_Sheet_put_43 (fun h3 eh3 => ?_)
      have hI4 : Inv h3 := inv_full hI eh3 rfl
      have f5 : fr S_Sheet_putZ_2 h h3 := fr_put f0 eh3 rfl
      exact V_vret rfl d_Sheet_put_44 ⟨rfl, ⟨hI4, f5, ⟨v, Or.inr (Or.inr ⟨by (first | decide +kernel | omega), rfl⟩), (by rw [eh3] <;> rfl)⟩⟩⟩
    ·
      refine V_aload_n 0 d_Sheet_put_26 rfl rfl ?_
      refine V_getR fa_Sheet_9 sk_112 rfl d_Sheet_put_27 ?_
      refine V_iload_n 1 d_Sheet_put_30 rfl rfl ?_
      refine V_iload_n 2 d_Sheet_put_31 rfl rfl ?_
      refine N_i2s d_Sheet_put_32 (fun z6 z6Z z6E z6e => ?_)
      refine N_iast sk_113 iE (by (first | decide +kernel | omega)) d_Sheet_put_33 (fun h7 eh7 => ?_)
      have hI8 : Inv h7 := inv_full hI eh7 rfl
      have f9 : fr S_Sheet_putZ_2 h h7 := fr_put f0 eh7 rfl
      refine V_goto 44 d_Sheet_put_34 (by decide) ?_
      exact V_vret rfl d_Sheet_put_44 ⟨rfl, ⟨hI8, f9, ⟨z6, Or.inr (Or.inl ⟨by (first | decide +kernel | omega), z6e⟩), (by rw [eh7] <;> rfl)⟩⟩⟩
  ·
    refine V_aload_n 0 d_Sheet_put_7 rfl rfl ?_
    refine V_getR fa_Sheet_9 sk_112 rfl d_Sheet_put_8 ?_
    refine V_iload_n 1 d_Sheet_put_11 rfl rfl ?_
    refine V_iload_n 2 d_Sheet_put_12 rfl rfl ?_
    refine N_i2b d_Sheet_put_13 (fun z10 z10Z z10E z10e => ?_)
    refine N_iast sk_113 iE (by (first | decide +kernel | omega)) d_Sheet_put_14 (fun h11 eh11 => ?_)
    have hI12 : Inv h11 := inv_full hI eh11 rfl
    have f13 : fr S_Sheet_putZ_2 h h11 := fr_put f0 eh11 rfl
    refine V_goto 44 d_Sheet_put_15 (by decide) ?_
    exact V_vret rfl d_Sheet_put_44 ⟨rfl, ⟨hI12, f13, ⟨z10, Or.inl ⟨by (first | decide +kernel | omega), z10e⟩, (by rw [eh11] <;> rfl)⟩⟩⟩
def S_fillX_115 : List (Nat × Option Nat) := [(115, none)]
abbrev q_fillX_115 (h : Hp) (v : Int32) (vZ : Int) : Option Value → Hp → Prop := pVd (fun h' => Inv h' ∧ fr S_fillX_115 h h' ∧ fll h' 115 v 40)
set_option maxRecDepth 100000 in
theorem c_fillX_115 (h : Hp) (hI : Inv h) (v : Int32) (vZ : Int) (vE : v.toInt = vZ) : Ct y_Arr_fill b_Arr_fill 4 none 0 0 [.ref 115, .int v] h (q_fillX_115 h v vZ) := by
  refine ct_ow R_Arr [some (.ref 115), some (.int v), none, none] rfl (by decide) rfl (Nat.le_of_ble_eq_true rfl) ?_
  have f0 : fr S_fillX_115 h h := fr_rf
  refine V_iconst 0 d_Arr_fill_0 (by decide) ?_
  refine V_istore_n 2 [some (.ref 115), some (.int v), some (.int 0), none] d_Arr_fill_1 rfl (by decide) rfl rfl ?_
  refine V_aload_n 0 d_Arr_fill_2 rfl rfl ?_
  refine V_alen sk_115 (by decide) (by decide : Int32.ofNat 40 = 40) d_Arr_fill_3 ?_
  refine V_istore_n 3 [some (.ref 115), some (.int v), some (.int 0), some (.int 40)] d_Arr_fill_4 rfl (by decide) rfl rfl ?_
  have L1 : ∀ (nn : Nat) (v3 : Int32) (v3Z : Int) (h4 : Hp), v3.toInt = v3Z → Inv h4 → fr S_fillX_115 h h4 → 0 ≤ v3Z ∧ v3Z ≤ 40 → fll h4 115 v v3Z → 40 - v3Z < (nn : Int) → V R_Arr b_Arr_fill 4 none 0 0 (q_fillX_115 h v vZ) h4 5 [some (.ref 115), some (.int v), some (.int v3), some (.int 40)] [] := by
    intro nn
    induction nn with
    | zero => intro v3 v3Z h4 v3E Ih4 Fh4 q5 q6 hm7; exact absurd hm7 (by (first | decide +kernel | omega))
    | succ nn ihL1 =>
      intro v3 v3Z h4 v3E Ih4 Fh4 q5 q6 hm7
      refine V_iload_n 2 d_Arr_fill_5 rfl rfl ?_
      refine V_iload_n 3 d_Arr_fill_6 rfl rfl ?_
      refine V_icmp_ge 20 v3E tc_40 d_Arr_fill_7 (by decide) (fun c8 => ?_) (fun c8 => ?_)
      ·
        exact V_vret rfl d_Arr_fill_20 ⟨rfl, ⟨Ih4, Fh4, (fll_le (by assumption) (by (first | decide +kernel | omega)))⟩⟩
      ·
        refine V_aload_n 0 d_Arr_fill_10 rfl rfl ?_
        refine V_iload_n 2 d_Arr_fill_11 rfl rfl ?_
        refine V_iload_n 1 d_Arr_fill_12 rfl rfl ?_
        refine N_iast sk_115 v3E (by (first | decide +kernel | omega)) d_Arr_fill_13 (fun h9 eh9 => ?_)
        have hI10 : Inv h9 := inv_full Ih4 eh9 rfl
        have f11 : fr S_fillX_115 h h9 := fr_put Fh4 eh9 rfl
        obtain ⟨z12, z12E, z12e⟩ : ∃ y : Int32, y.toInt = v3Z + 1 ∧ y = v3 + Int32.ofInt 1 := ⟨_, ti_add v3E (by decide) (by (first | decide +kernel | omega)), rfl⟩
        refine V_iinc 2 [some (.ref 115), some (.int v), some (.int z12), some (.int 40)] d_Arr_fill_14 rfl z12e.symm (by decide) rfl rfl ?_
        refine V_goto 5 d_Arr_fill_17 (by decide) ?_
        exact ihL1 z12 ((v3Z + 1)) h9 z12E hI10 f11 (by (first | decide +kernel | omega)) (fll_s (by assumption) (by (first | decide +kernel | omega)) eh9) (by (first | decide +kernel | omega))
  exact L1 (Int.toNat ((40 - 0 : Int) + 1)) 0 0 h tc_0 hI f0 (by (first | decide +kernel | omega)) fll_0 (by (first | decide +kernel | omega))
def S_Sheet_makeNewZ_3 : List (Nat × Option Nat) := [(114, some 1), (114, some 2), (115, none)]
abbrev q_Sheet_makeNewZ_3 (h : Hp) (l : Int32) (lZ : Int) (n : Int32) (nZ : Int) : Option Value → Hp → Prop := pVd (fun h' => Inv h' ∧ fr S_Sheet_makeNewZ_3 h h' ∧ (h'.1 114 1 = l ∧ h'.1 114 2 = n ∧ fll h' 115 0 40))
set_option maxRecDepth 100000 in
theorem c_Sheet_makeNewZ_3 (h : Hp) (hI : Inv h) (l : Int32) (lZ : Int) (lE : l.toInt = lZ) (n : Int32) (nZ : Int) (nE : n.toInt = nZ) (hy0 : 0 ≤ nZ ∧ nZ ≤ 40) : Ct y_Sheet_makeNew b_Sheet_makeNew 3 none 1 23 [.ref 114, .int l, .int n] h (q_Sheet_makeNewZ_3 h l lZ n nZ) := by
  refine ct_ow R_Sheet [some (.ref 114), some (.int l), some (.int n)] rfl (by decide) rfl (Nat.le_of_ble_eq_true rfl) ?_
  have f0 : fr S_Sheet_makeNewZ_3 h h := fr_rf
  refine V_aload_n 0 d_Sheet_makeNew_0 rfl rfl ?_
  refine V_getR fa_Sheet_9 sk_114 rfl d_Sheet_makeNew_1 ?_
  refine V_iconst 0 d_Sheet_makeNew_4 (by decide) ?_
  refine N_callSV [.ref 115, .int 0] [] cs_Sheet_19 d_Sheet_makeNew_5 rfl (Nat.le_of_ble_eq_true rfl) (by decide) (by decide) (c_fillX_115 h hI 0 0 tc_0) (fun h2 p3 => ?_)
  obtain ⟨hI4, fh2, p3⟩ := p3
  have f5 : fr S_Sheet_makeNewZ_3 h h2 := fr_call f0 fh2 rfl
  refine V_aload_n 0 d_Sheet_makeNew_8 rfl rfl ?_
  refine V_iload_n 1 d_Sheet_makeNew_9 rfl rfl ?_
  refine N_putI fp_Sheet_15 sk_114 rfl d_Sheet_makeNew_10 (fun h6 eh6 => ?_)
  have hI7 : Inv h6 := inv_full hI4 eh6 rfl
  have f8 : fr S_Sheet_makeNewZ_3 h h6 := fr_put f5 eh6 rfl
  refine V_aload_n 0 d_Sheet_makeNew_13 rfl rfl ?_
  refine V_iload_n 2 d_Sheet_makeNew_14 rfl rfl ?_
  refine N_putI fp_Sheet_25 sk_114 rfl d_Sheet_makeNew_15 (fun h9 eh9 => ?_)
  have hI10 : Inv h9 := inv_put (lo := 0) (hi := 40) hI7 eh9 rfl nE (by (first | decide +kernel | omega))
  have f11 : fr S_Sheet_makeNewZ_3 h h9 := fr_put f8 eh9 rfl
  exact V_vret rfl d_Sheet_makeNew_18 ⟨rfl, ⟨hI10, f11, ⟨(kn_nei eh9 (kn_put eh6) (by decide)), (kn_put eh9), fll_ne eh9 (by decide) (fll_ne eh6 (by decide) p3)⟩⟩⟩
def S_Sheet_putZ_3 : List (Nat × Option Nat) := [(115, none)]
abbrev q_Sheet_putZ_3 (h : Hp) (i : Int32) (iZ : Int) (v : Int32) (vZ : Int) (t : Int32) (tZ : Int) : Option Value → Hp → Prop := pVd (fun h' => Inv h' ∧ fr S_Sheet_putZ_3 h h' ∧ (∃ x : Int32, nrw tZ v x ∧ h' = pI h 115 iZ.toNat x))
set_option maxRecDepth 100000 in
theorem c_Sheet_putZ_3 (h : Hp) (hI : Inv h) (i : Int32) (iZ : Int) (iE : i.toInt = iZ) (v : Int32) (vZ : Int) (vE : v.toInt = vZ) (t : Int32) (tZ : Int) (tE : t.toInt = tZ) (tK : h.1 114 1 = t) (hy0 : 0 ≤ iZ ∧ iZ < 40) : Ct y_Sheet_put b_Sheet_put 3 none 0 0 [.ref 114, .int i, .int v] h (q_Sheet_putZ_3 h i iZ v vZ t tZ) := by
  refine ct_ow R_Sheet [some (.ref 114), some (.int i), some (.int v)] rfl (by decide) rfl (Nat.le_of_ble_eq_true rfl) ?_
  have f0 : fr S_Sheet_putZ_3 h h := fr_rf
  refine V_aload_n 0 d_Sheet_put_0 rfl rfl ?_
  refine N_getK fa_Sheet_15 sk_114 rfl d_Sheet_put_1 tK ?_
  refine V_if_ne 18 tE d_Sheet_put_4 (by decide) (fun c1 => ?_) (fun c1 => ?_)
  ·
    refine V_aload_n 0 d_Sheet_put_18 rfl rfl ?_
    refine N_getK fa_Sheet_15 sk_114 rfl d_Sheet_put_19 tK ?_
    refine V_iconst 1 d_Sheet_put_22 (by decide) ?_
    refine V_icmp_ne 37 tE tc_1 d_Sheet_put_23 (by decide) (fun c2 => ?_) (fun c2 => ?_)
    ·
      refine V_aload_n 0 d_Sheet_put_37 rfl rfl ?_
      refine V_getR fa_Sheet_9 sk_114 rfl d_Sheet_put_38 ?_
      refine V_iload_n 1 d_Sheet_put_41 rfl rfl ?_
      refine V_iload_n 2 d_Sheet_put_42 rfl rfl ?_
      refine N_iast sk_115 iE (by (first | decide +kernel | omega)) d_Sheet_put_43 (fun h3 eh3 => ?_)
      have hI4 : Inv h3 := inv_full hI eh3 rfl
      have f5 : fr S_Sheet_putZ_3 h h3 := fr_put f0 eh3 rfl
      exact V_vret rfl d_Sheet_put_44 ⟨rfl, ⟨hI4, f5, ⟨v, Or.inr (Or.inr ⟨by (first | decide +kernel | omega), rfl⟩), (by rw [eh3] <;> rfl)⟩⟩⟩
    ·
      refine V_aload_n 0 d_Sheet_put_26 rfl rfl ?_
      refine V_getR fa_Sheet_9 sk_114 rfl d_Sheet_put_27 ?_
      refine V_iload_n 1 d_Sheet_put_30 rfl rfl ?_
      refine V_iload_n 2 d_Sheet_put_31 rfl rfl ?_
      refine N_i2s d_Sheet_put_32 (fun z6 z6Z z6E z6e => ?_)
      refine N_iast sk_115 iE (by (first | decide +kernel | omega)) d_Sheet_put_33 (fun h7 eh7 => ?_)
      have hI8 : Inv h7 := inv_full hI eh7 rfl
      have f9 : fr S_Sheet_putZ_3 h h7 := fr_put f0 eh7 rfl
      refine V_goto 44 d_Sheet_put_34 (by decide) ?_
      exact V_vret rfl d_Sheet_put_44 ⟨rfl, ⟨hI8, f9, ⟨z6, Or.inr (Or.inl ⟨by (first | decide +kernel | omega), z6e⟩), (by rw [eh7] <;> rfl)⟩⟩⟩
  ·
    refine V_aload_n 0 d_Sheet_put_7 rfl rfl ?_
    refine V_getR fa_Sheet_9 sk_114 rfl d_Sheet_put_8 ?_
    refine V_iload_n 1 d_Sheet_put_11 rfl rfl ?_
    refine V_iload_n 2 d_Sheet_put_12 rfl rfl ?_
    refine N_i2b d_Sheet_put_13 (fun z10 z10Z z10E z10e => ?_)
    refine N_iast sk_115 iE (by (first | decide +kernel | omega)) d_Sheet_put_14 (fun h11 eh11 => ?_)
    have hI12 : Inv h11 := inv_full hI eh11 rfl
    have f13 : fr S_Sheet_putZ_3 h h11 := fr_put f0 eh11 rfl
    refine V_goto 44 d_Sheet_put_15 (by decide) ?_
    exact V_vret rfl d_Sheet_put_44 ⟨rfl, ⟨hI12, f13, ⟨z10, Or.inl ⟨by (first | decide +kernel | omega), z10e⟩, (by rw [eh11] <;> rfl)⟩⟩⟩
def S_Rod_sheetZ : List (Nat × Option Nat) := [(108, some 1), (108, some 2), (110, some 1), (110, some 2), (112, some 1), (112, some 2), (114, some 1), (114, some 2), (109, none), (111, none), (113, none), (115, none)]
abbrev q_Rod_sheetZ (h : Hp) (k : Int32) (kZ : Int) (l : Int32) (lZ : Int) (n : Int32) (nZ : Int) : Option Value → Hp → Prop := pInt (fun r h' => Inv h' ∧ fr S_Rod_sheetZ h h' ∧ ((kZ < 0 ∨ 3 < kZ ∨ lZ < 0 ∨ 2 < lZ ∨ 40 < nZ) ∧ h' = h ∧ r.toInt = -1 ∨ ¬ (kZ < 0 ∨ 3 < kZ ∨ lZ < 0 ∨ 2 < lZ ∨ 40 < nZ) ∧ nZ < 0 ∧ h' = h ∧ r.toInt = -14 ∨ ¬ (kZ < 0 ∨ 3 < kZ ∨ lZ < 0 ∨ 2 < lZ ∨ 40 < nZ) ∧ 0 ≤ nZ ∧ SHc h h' kZ.toNat l n ∧ r.toInt = 1))
set_option maxRecDepth 100000 in
theorem c_Rod_sheetZ (h : Hp) (hI : Inv h) (k : Int32) (kZ : Int) (kE : k.toInt = kZ) (l : Int32) (lZ : Int) (lE : l.toInt = lZ) (n : Int32) (nZ : Int) (nE : n.toInt = nZ) : Ct y_Rod_sheet b_Rod_sheet 4 (some .int) 2 45 [.ref 85, .int k, .int l, .int n] h (q_Rod_sheetZ h k kZ l lZ n nZ) := by
  refine ct_ow R_Rod [some (.ref 85), some (.int k), some (.int l), some (.int n)] rfl (by decide) rfl (Nat.le_of_ble_eq_true rfl) ?_
  have f0 : fr S_Rod_sheetZ h h := fr_rf
  refine V_iload_n 1 d_Rod_sheet_0 rfl rfl ?_
  refine N_callSI [.int k] [] cs_Rod_283 d_Rod_sheet_1 rfl (Nat.le_of_ble_eq_true rfl) (by decide) (by decide) (c_Rod_isSheet h k kZ kE) (fun z1 h2 z1Z z1E p3 => ?_)
  obtain ⟨eh2, p3⟩ := p3
  subst eh2
  refine V_if_eq 20 z1E d_Rod_sheet_4 (by decide) (fun c4 => ?_) (fun c4 => ?_)
  ·
    refine V_iconst (-1) d_Rod_sheet_20 (by decide) ?_
    exact V_iret rfl d_Rod_sheet_21 ⟨(-1), rfl, ⟨hI, f0, (Or.inl ⟨by (first | decide +kernel | omega), rfl, tc_m1⟩)⟩⟩
  ·
    refine V_iload_n 2 d_Rod_sheet_7 rfl rfl ?_
    refine N_callSI [.int l] [] cs_Rod_286 d_Rod_sheet_8 rfl (Nat.le_of_ble_eq_true rfl) (by decide) (by decide) (c_Rod_isLane h l lZ lE) (fun z5 h6 z5Z z5E p7 => ?_)
    obtain ⟨eh6, p7⟩ := p7
    subst eh6
    refine V_if_eq 20 z5E d_Rod_sheet_11 (by decide) (fun c8 => ?_) (fun c8 => ?_)
    ·
      refine V_iconst (-1) d_Rod_sheet_20 (by decide) ?_
      exact V_iret rfl d_Rod_sheet_21 ⟨(-1), rfl, ⟨hI, f0, (Or.inl ⟨by (first | decide +kernel | omega), rfl, tc_m1⟩)⟩⟩
    ·
      refine V_iload_n 3 d_Rod_sheet_14 rfl rfl ?_
      refine V_bipush 40 d_Rod_sheet_15 (by decide) ?_
      refine V_icmp_le 22 nE tc_40 d_Rod_sheet_17 (by decide) (fun c9 => ?_) (fun c9 => ?_)
      ·
        refine V_iload_n 3 d_Rod_sheet_22 rfl rfl ?_
        refine V_if_ge 29 nE d_Rod_sheet_23 (by decide) (fun c10 => ?_) (fun c10 => ?_)
        ·
          refine V_aload_n 0 d_Rod_sheet_29 rfl rfl ?_
          refine V_getR fa_Rod_62 sk_85 rfl d_Rod_sheet_30 ?_
          refine V_iload_n 1 d_Rod_sheet_33 rfl rfl ?_
          rcases (by (first | decide +kernel | omega) : kZ = 0 ∨ kZ = 1 ∨ kZ = 2 ∨ kZ = 3) with c11 | c11 | c11 | c11
          ·
            refine V_aald (r := 108) sk_107 (by decide) kE (by (first | decide +kernel | omega)) (by rw [c11]; rfl) d_Rod_sheet_34 ?_
            refine V_iload_n 2 d_Rod_sheet_35 rfl rfl ?_
            refine V_iload_n 3 d_Rod_sheet_36 rfl rfl ?_
            refine N_callVV [.int l, .int n] [] cv_Rod_289 sk_108 rfl d_Rod_sheet_37 rfl (Nat.le_of_ble_eq_true rfl) (by decide) (by decide) (c_Sheet_makeNewZ_0 h hI l lZ lE n nZ nE (by (first | decide +kernel | omega))) (fun h13 p14 => ?_)
            obtain ⟨hI15, fh13, p14⟩ := p14
            have f16 : fr S_Rod_sheetZ h h13 := fr_call f0 fh13 rfl
            refine V_iconst 1 d_Rod_sheet_40 (by decide) ?_
            exact V_iret rfl d_Rod_sheet_41 ⟨1, rfl, ⟨hI15, f16, (Or.inr (Or.inr ⟨by (first | decide +kernel | omega), by (first | decide +kernel | omega), by rw [show kZ.toNat = 0 by (first | decide +kernel | omega)]; exact SHc_of (k := 0) p14 fh13 rfl, tc_1⟩))⟩⟩
          ·
            refine V_aald (r := 110) sk_107 (by decide) kE (by (first | decide +kernel | omega)) (by rw [c11]; rfl) d_Rod_sheet_34 ?_
            refine V_iload_n 2 d_Rod_sheet_35 rfl rfl ?_
            refine V_iload_n 3 d_Rod_sheet_36 rfl rfl ?_
            refine N_callVV [.int l, .int n] [] cv_Rod_289 sk_110 rfl d_Rod_sheet_37 rfl (Nat.le_of_ble_eq_true rfl) (by decide) (by decide) (c_Sheet_makeNewZ_1 h hI l lZ lE n nZ nE (by (first | decide +kernel | omega))) (fun h18 p19 => ?_)
            obtain ⟨hI20, fh18, p19⟩ := p19
            have f21 : fr S_Rod_sheetZ h h18 := fr_call f0 fh18 rfl
            refine V_iconst 1 d_Rod_sheet_40 (by decide) ?_
            exact V_iret rfl d_Rod_sheet_41 ⟨1, rfl, ⟨hI20, f21, (Or.inr (Or.inr ⟨by (first | decide +kernel | omega), by (first | decide +kernel | omega), by rw [show kZ.toNat = 1 by (first | decide +kernel | omega)]; exact SHc_of (k := 1) p19 fh18 rfl, tc_1⟩))⟩⟩
          ·
            refine V_aald (r := 112) sk_107 (by decide) kE (by (first | decide +kernel | omega)) (by rw [c11]; rfl) d_Rod_sheet_34 ?_
            refine V_iload_n 2 d_Rod_sheet_35 rfl rfl ?_
            refine V_iload_n 3 d_Rod_sheet_36 rfl rfl ?_
            refine N_callVV [.int l, .int n] [] cv_Rod_289 sk_112 rfl d_Rod_sheet_37 rfl (Nat.le_of_ble_eq_true rfl) (by decide) (by decide) (c_Sheet_makeNewZ_2 h hI l lZ lE n nZ nE (by (first | decide +kernel | omega))) (fun h23 p24 => ?_)
            obtain ⟨hI25, fh23, p24⟩ := p24
            have f26 : fr S_Rod_sheetZ h h23 := fr_call f0 fh23 rfl
            refine V_iconst 1 d_Rod_sheet_40 (by decide) ?_
            exact V_iret rfl d_Rod_sheet_41 ⟨1, rfl, ⟨hI25, f26, (Or.inr (Or.inr ⟨by (first | decide +kernel | omega), by (first | decide +kernel | omega), by rw [show kZ.toNat = 2 by (first | decide +kernel | omega)]; exact SHc_of (k := 2) p24 fh23 rfl, tc_1⟩))⟩⟩
          ·
            refine V_aald (r := 114) sk_107 (by decide) kE (by (first | decide +kernel | omega)) (by rw [c11]; rfl) d_Rod_sheet_34 ?_
            refine V_iload_n 2 d_Rod_sheet_35 rfl rfl ?_
            refine V_iload_n 3 d_Rod_sheet_36 rfl rfl ?_
            refine N_callVV [.int l, .int n] [] cv_Rod_289 sk_114 rfl d_Rod_sheet_37 rfl (Nat.le_of_ble_eq_true rfl) (by decide) (by decide) (c_Sheet_makeNewZ_3 h hI l lZ lE n nZ nE (by (first | decide +kernel | omega))) (fun h28 p29 => ?_)
            obtain ⟨hI30, fh28, p29⟩ := p29
            have f31 : fr S_Rod_sheetZ h h28 := fr_call f0 fh28 rfl
            refine V_iconst 1 d_Rod_sheet_40 (by decide) ?_
            exact V_iret rfl d_Rod_sheet_41 ⟨1, rfl, ⟨hI30, f31, (Or.inr (Or.inr ⟨by (first | decide +kernel | omega), by (first | decide +kernel | omega), by rw [show kZ.toNat = 3 by (first | decide +kernel | omega)]; exact SHc_of (k := 3) p29 fh28 rfl, tc_1⟩))⟩⟩
        ·
          refine V_bipush (-14) d_Rod_sheet_26 (by decide) ?_
          exact V_iret rfl d_Rod_sheet_28 ⟨(-14), rfl, ⟨hI, f0, (Or.inr (Or.inl ⟨by (first | decide +kernel | omega), by (first | decide +kernel | omega), rfl, tc_m14⟩))⟩⟩
      ·
        refine V_iconst (-1) d_Rod_sheet_20 (by decide) ?_
        exact V_iret rfl d_Rod_sheet_21 ⟨(-1), rfl, ⟨hI, f0, (Or.inl ⟨by (first | decide +kernel | omega), rfl, tc_m1⟩)⟩⟩
def S_Mod_sheetZ : List (Nat × Option Nat) := [(128, none), (129, none), (130, none)]
abbrev q_Mod_sheetZ (h : Hp) (k : Int32) (kZ : Int) (l : Int32) (lZ : Int) (n : Int32) (nZ : Int) : Option Value → Hp → Prop := pInt (fun r h' => Inv h' ∧ fr S_Mod_sheetZ h h' ∧ ((kZ < 0 ∨ 3 < kZ ∨ lZ < 0 ∨ 2 < lZ ∨ 40 < nZ) ∧ h' = h ∧ r.toInt = -1 ∨ ¬ (kZ < 0 ∨ 3 < kZ ∨ lZ < 0 ∨ 2 < lZ ∨ 40 < nZ) ∧ nZ < 0 ∧ h' = h ∧ r.toInt = -14 ∨ ¬ (kZ < 0 ∨ 3 < kZ ∨ lZ < 0 ∨ 2 < lZ ∨ 40 < nZ) ∧ 0 ≤ nZ ∧ SHl h h' kZ.toNat l n 40 ∧ r.toInt = 1))
set_option maxRecDepth 100000 in
theorem c_Mod_sheetZ (h : Hp) (hI : Inv h) (k : Int32) (kZ : Int) (kE : k.toInt = kZ) (l : Int32) (lZ : Int) (lE : l.toInt = lZ) (n : Int32) (nZ : Int) (nE : n.toInt = nZ) : Ct y_Mod_sheet b_Mod_sheet 5 (some .int) 2 46 [.ref 116, .int k, .int l, .int n] h (q_Mod_sheetZ h k kZ l lZ n nZ) := by
  refine ct_ow R_Mod [some (.ref 116), some (.int k), some (.int l), some (.int n), none] rfl (by decide) rfl (Nat.le_of_ble_eq_true rfl) ?_
  have f0 : fr S_Mod_sheetZ h h := fr_rf
  refine V_iload_n 1 d_Mod_sheet_0 rfl rfl ?_
  refine V_iload_n 2 d_Mod_sheet_1 rfl rfl ?_
  refine N_callSI [.int k, .int l] [] cs_Mod_322 d_Mod_sheet_2 rfl (Nat.le_of_ble_eq_true rfl) (by decide) (by decide) (c_Mod_isSheet h k kZ kE l lZ lE) (fun z1 h2 z1Z z1E p3 => ?_)
  obtain ⟨eh2, p3⟩ := p3
  subst eh2
  refine V_if_eq 14 z1E d_Mod_sheet_5 (by decide) (fun c4 => ?_) (fun c4 => ?_)
  ·
    refine V_iconst (-1) d_Mod_sheet_14 (by decide) ?_
    exact V_iret rfl d_Mod_sheet_15 ⟨(-1), rfl, ⟨hI, f0, (Or.inl ⟨by (first | decide +kernel | omega), rfl, tc_m1⟩)⟩⟩
  ·
    refine V_iload_n 3 d_Mod_sheet_8 rfl rfl ?_
    refine V_bipush 40 d_Mod_sheet_9 (by decide) ?_
    refine V_icmp_le 16 nE tc_40 d_Mod_sheet_11 (by decide) (fun c5 => ?_) (fun c5 => ?_)
    ·
      refine V_iload_n 3 d_Mod_sheet_16 rfl rfl ?_
      refine V_if_ge 23 nE d_Mod_sheet_17 (by decide) (fun c6 => ?_) (fun c6 => ?_)
      ·
        refine V_aload_n 0 d_Mod_sheet_23 rfl rfl ?_
        refine V_getR fa_Mod_44 sk_116 rfl d_Mod_sheet_24 ?_
        refine V_iload_n 1 d_Mod_sheet_27 rfl rfl ?_
        refine V_iload_n 2 d_Mod_sheet_28 rfl rfl ?_
        refine N_iast sk_128 kE (by (first | decide +kernel | omega)) d_Mod_sheet_29 (fun h7 eh7 => ?_)
        have hI8 : Inv h7 := inv_full hI eh7 rfl
        have f9 : fr S_Mod_sheetZ h h7 := fr_put f0 eh7 rfl
        refine V_aload_n 0 d_Mod_sheet_30 rfl rfl ?_
        refine V_getR fa_Mod_47 sk_116 rfl d_Mod_sheet_31 ?_
        refine V_iload_n 1 d_Mod_sheet_34 rfl rfl ?_
        refine V_iload_n 3 d_Mod_sheet_35 rfl rfl ?_
        refine N_iast sk_129 kE (by (first | decide +kernel | omega)) d_Mod_sheet_36 (fun h10 eh10 => ?_)
        have hI11 : Inv h10 := inv_put (lo := 0) (hi := 40) hI8 eh10 rfl nE (by (first | decide +kernel | omega))
        have f12 : fr S_Mod_sheetZ h h10 := fr_put f9 eh10 rfl
        refine V_iconst 0 d_Mod_sheet_37 (by decide) ?_
        refine V_istore 4 [some (.ref 116), some (.int k), some (.int l), some (.int n), some (.int 0)] d_Mod_sheet_38 (by decide) rfl rfl ?_
        have L13 : ∀ (nn : Nat) (v15 : Int32) (v15Z : Int) (h16 : Hp), v15.toInt = v15Z → Inv h16 → fr S_Mod_sheetZ h h16 → 0 ≤ v15Z ∧ v15Z ≤ 40 → SHl h h16 kZ.toNat l n v15Z → 40 - v15Z < (nn : Int) → V R_Mod b_Mod_sheet 5 (some .int) 2 46 (q_Mod_sheetZ h k kZ l lZ n nZ) h16 40 [some (.ref 116), some (.int k), some (.int l), some (.int n), some (.int v15)] [] := by
          intro nn
          induction nn with
          | zero => intro v15 v15Z h16 v15E Ih16 Fh16 q17 q18 hm19; exact absurd hm19 (by (first | decide +kernel | omega))
          | succ nn ihL13 =>
            intro v15 v15Z h16 v15E Ih16 Fh16 q17 q18 hm19
            refine V_iload d_Mod_sheet_40 rfl ?_
            refine V_bipush 40 d_Mod_sheet_42 (by decide) ?_
            refine V_icmp_ge 66 v15E tc_40 d_Mod_sheet_44 (by decide) (fun c20 => ?_) (fun c20 => ?_)
            ·
              refine V_iconst 1 d_Mod_sheet_66 (by decide) ?_
              exact V_iret rfl d_Mod_sheet_67 ⟨1, rfl, ⟨Ih16, Fh16, (Or.inr (Or.inr ⟨by (first | decide +kernel | omega), by (first | decide +kernel | omega), SHl_le (by assumption) (by (first | decide +kernel | omega)), tc_1⟩))⟩⟩
            ·
              refine V_aload_n 0 d_Mod_sheet_47 rfl rfl ?_
              refine V_getR fa_Mod_50 sk_116 rfl d_Mod_sheet_48 ?_
              refine V_bipush 40 d_Mod_sheet_51 (by decide) ?_
              refine V_iload_n 1 d_Mod_sheet_53 rfl rfl ?_
              refine V_imul tc_40 kE (by (first | decide +kernel | omega)) d_Mod_sheet_54 (fun z21 z21e z21E => ?_)
              refine V_iload d_Mod_sheet_55 rfl ?_
              refine V_iadd z21E v15E (by (first | decide +kernel | omega)) d_Mod_sheet_57 (fun z22 z22e z22E => ?_)
              refine V_iconst 0 d_Mod_sheet_58 (by decide) ?_
              refine N_iast sk_130 z22E (by (first | decide +kernel | omega)) d_Mod_sheet_59 (fun h23 eh23 => ?_)
              have hI24 : Inv h23 := inv_full Ih16 eh23 rfl
              have f25 : fr S_Mod_sheetZ h h23 := fr_put Fh16 eh23 rfl
              obtain ⟨z26, z26E, z26e⟩ : ∃ y : Int32, y.toInt = v15Z + 1 ∧ y = v15 + Int32.ofInt 1 := ⟨_, ti_add v15E (by decide) (by (first | decide +kernel | omega)), rfl⟩
              refine V_iinc 4 [some (.ref 116), some (.int k), some (.int l), some (.int n), some (.int z26)] d_Mod_sheet_60 rfl z26e.symm (by decide) rfl rfl ?_
              refine V_goto 40 d_Mod_sheet_63 (by decide) ?_
              exact ihL13 z26 ((v15Z + 1)) h23 z26E hI24 f25 (by (first | decide +kernel | omega)) (SHl_s (by assumption) (by (first | decide +kernel | omega)) (by (first | decide +kernel | omega)) eh23) (by (first | decide +kernel | omega))
        exact L13 (Int.toNat ((40 - 0 : Int) + 1)) 0 0 h10 tc_0 hI11 f12 (by (first | decide +kernel | omega)) (SHl_0 eh7 eh10) (by (first | decide +kernel | omega))
      ·
        refine V_bipush (-14) d_Mod_sheet_20 (by decide) ?_
        exact V_iret rfl d_Mod_sheet_22 ⟨(-14), rfl, ⟨hI, f0, (Or.inr (Or.inl ⟨by (first | decide +kernel | omega), by (first | decide +kernel | omega), rfl, tc_m14⟩))⟩⟩
    ·
      refine V_iconst (-1) d_Mod_sheet_14 (by decide) ?_
      exact V_iret rfl d_Mod_sheet_15 ⟨(-1), rfl, ⟨hI, f0, (Or.inl ⟨by (first | decide +kernel | omega), rfl, tc_m1⟩)⟩⟩
def S_Rod_layZ : List (Nat × Option Nat) := [(109, none), (111, none), (113, none), (115, none)]
abbrev q_Rod_layZ (h : Hp) (k : Int32) (kZ : Int) (i : Int32) (iZ : Int) (v : Int32) (vZ : Int) (t0 : Int32) (t0Z : Int) (t1 : Int32) (t1Z : Int) (t2 : Int32) (t2Z : Int) (t3 : Int32) (t3Z : Int) (s0 : Int32) (s0Z : Int) (s1 : Int32) (s1Z : Int) (s2 : Int32) (s2Z : Int) (s3 : Int32) (s3Z : Int) : Option Value → Hp → Prop := pInt (fun r h' => Inv h' ∧ fr S_Rod_layZ h h' ∧ ((kZ < 0 ∨ 3 < kZ) ∧ h' = h ∧ r.toInt = -1 ∨ ¬ (kZ < 0 ∨ 3 < kZ) ∧ LY (-1) h h' (h.1 (108 + 2 * kZ.toNat) 1).toInt (h.1 (108 + 2 * kZ.toNat) 2).toInt (109 + 2 * kZ.toNat) iZ.toNat iZ v r))
set_option maxRecDepth 100000 in
theorem c_Rod_layZ (h : Hp) (hI : Inv h) (k : Int32) (kZ : Int) (kE : k.toInt = kZ) (i : Int32) (iZ : Int) (iE : i.toInt = iZ) (v : Int32) (vZ : Int) (vE : v.toInt = vZ) (t0 : Int32) (t0Z : Int) (t0E : t0.toInt = t0Z) (t0K : h.1 108 1 = t0) (t1 : Int32) (t1Z : Int) (t1E : t1.toInt = t1Z) (t1K : h.1 110 1 = t1) (t2 : Int32) (t2Z : Int) (t2E : t2.toInt = t2Z) (t2K : h.1 112 1 = t2) (t3 : Int32) (t3Z : Int) (t3E : t3.toInt = t3Z) (t3K : h.1 114 1 = t3) (s0 : Int32) (s0Z : Int) (s0E : s0.toInt = s0Z) (s0K : h.1 108 2 = s0) (s1 : Int32) (s1Z : Int) (s1E : s1.toInt = s1Z) (s1K : h.1 110 2 = s1) (s2 : Int32) (s2Z : Int) (s2E : s2.toInt = s2Z) (s2K : h.1 112 2 = s2) (s3 : Int32) (s3Z : Int) (s3E : s3.toInt = s3Z) (s3K : h.1 114 2 = s3) : Ct y_Rod_lay b_Rod_lay 5 (some .int) 1 22 [.ref 85, .int k, .int i, .int v] h (q_Rod_layZ h k kZ i iZ v vZ t0 t0Z t1 t1Z t2 t2Z t3 t3Z s0 s0Z s1 s1Z s2 s2Z s3 s3Z) := by
  refine ct_ow R_Rod [some (.ref 85), some (.int k), some (.int i), some (.int v), none] rfl (by decide) rfl (Nat.le_of_ble_eq_true rfl) ?_
  have f0 : fr S_Rod_layZ h h := fr_rf
  have g1 : 0 ≤ s0Z ∧ s0Z ≤ 40 := inv_at hI s0E s0K.symm rfl
  have g2 : 0 ≤ s1Z ∧ s1Z ≤ 40 := inv_at hI s1E s1K.symm rfl
  have g3 : 0 ≤ s2Z ∧ s2Z ≤ 40 := inv_at hI s2E s2K.symm rfl
  have g4 : 0 ≤ s3Z ∧ s3Z ≤ 40 := inv_at hI s3E s3K.symm rfl
  refine V_iload_n 1 d_Rod_lay_0 rfl rfl ?_
  refine N_callSI [.int k] [] cs_Rod_283 d_Rod_lay_1 rfl (Nat.le_of_ble_eq_true rfl) (by decide) (by decide) (c_Rod_isSheet h k kZ kE) (fun z5 h6 z5Z z5E p7 => ?_)
  obtain ⟨eh6, p7⟩ := p7
  subst eh6
  refine V_if_ne 9 z5E d_Rod_lay_4 (by decide) (fun c8 => ?_) (fun c8 => ?_)
  ·
    refine V_aload_n 0 d_Rod_lay_9 rfl rfl ?_
    refine V_getR fa_Rod_62 sk_85 rfl d_Rod_lay_10 ?_
    refine V_iload_n 1 d_Rod_lay_13 rfl rfl ?_
    rcases (by (first | decide +kernel | omega) : kZ = 0 ∨ kZ = 1 ∨ kZ = 2 ∨ kZ = 3) with c9 | c9 | c9 | c9
    ·
      refine V_aald (r := 108) sk_107 (by decide) kE (by (first | decide +kernel | omega)) (by rw [c9]; rfl) d_Rod_lay_14 ?_
      refine V_astore 4 [some (.ref 85), some (.int k), some (.int i), some (.int v), some (.ref 108)] d_Rod_lay_15 (by decide) rfl rfl ?_
      refine V_aload d_Rod_lay_17 rfl ?_
      refine N_getK fa_Rod_293 sk_108 rfl d_Rod_lay_19 t0K ?_
      refine V_iconst (-1) d_Rod_lay_22 (by decide) ?_
      refine V_icmp_ne 29 t0E tc_m1 d_Rod_lay_23 (by decide) (fun c10 => ?_) (fun c10 => ?_)
      ·
        refine V_iload_n 2 d_Rod_lay_29 rfl rfl ?_
        refine V_if_lt 42 iE d_Rod_lay_30 (by decide) (fun c11 => ?_) (fun c11 => ?_)
        ·
          refine V_bipush (-12) d_Rod_lay_42 (by decide) ?_
          exact V_iret rfl d_Rod_lay_44 ⟨(-12), rfl, ⟨hI, f0, (Or.inr ⟨by (first | decide +kernel | omega), by rw [show kZ.toNat = 0 by (first | decide +kernel | omega)]; show LY (-1) h h (h.1 108 1).toInt (h.1 108 2).toInt 109 iZ.toNat iZ v _; rw [t0K, s0K, t0E, s0E]; exact Or.inr (Or.inl ⟨by (first | decide +kernel | omega), by (first | decide +kernel | omega), rfl, tc_m12⟩)⟩)⟩⟩
        ·
          refine V_iload_n 2 d_Rod_lay_33 rfl rfl ?_
          refine V_aload d_Rod_lay_34 rfl ?_
          refine N_getK fa_Rod_296 sk_108 rfl d_Rod_lay_36 s0K ?_
          refine V_icmp_lt 45 iE s0E d_Rod_lay_39 (by decide) (fun c12 => ?_) (fun c12 => ?_)
          ·
            refine V_aload d_Rod_lay_45 rfl ?_
            refine V_iload_n 2 d_Rod_lay_47 rfl rfl ?_
            refine V_iload_n 3 d_Rod_lay_48 rfl rfl ?_
            refine N_callVV [.int i, .int v] [] cv_Rod_297 sk_108 rfl d_Rod_lay_49 rfl (Nat.le_of_ble_eq_true rfl) (by decide) (by decide) (c_Sheet_putZ_0 h hI i iZ iE v vZ vE t0 t0Z t0E t0K (by (first | decide +kernel | omega))) (fun h14 p15 => ?_)
            obtain ⟨hI16, fh14, p15⟩ := p15
            have f17 : fr S_Rod_layZ h h14 := fr_call f0 fh14 rfl
            refine V_iconst 1 d_Rod_lay_52 (by decide) ?_
            exact V_iret rfl d_Rod_lay_53 ⟨1, rfl, ⟨hI16, f17, (Or.inr ⟨by (first | decide +kernel | omega), by rw [show kZ.toNat = 0 by (first | decide +kernel | omega)]; show LY (-1) h h14 (h.1 108 1).toInt (h.1 108 2).toInt 109 iZ.toNat iZ v _; rw [t0K, s0K, t0E, s0E]; exact Or.inr (Or.inr ⟨by (first | decide +kernel | omega), by (first | decide +kernel | omega), by (first | decide +kernel | omega), tc_1, p15⟩)⟩)⟩⟩
          ·
            refine V_bipush (-12) d_Rod_lay_42 (by decide) ?_
            exact V_iret rfl d_Rod_lay_44 ⟨(-12), rfl, ⟨hI, f0, (Or.inr ⟨by (first | decide +kernel | omega), by rw [show kZ.toNat = 0 by (first | decide +kernel | omega)]; show LY (-1) h h (h.1 108 1).toInt (h.1 108 2).toInt 109 iZ.toNat iZ v _; rw [t0K, s0K, t0E, s0E]; exact Or.inr (Or.inl ⟨by (first | decide +kernel | omega), by (first | decide +kernel | omega), rfl, tc_m12⟩)⟩)⟩⟩
      ·
        refine V_bipush (-11) d_Rod_lay_26 (by decide) ?_
        exact V_iret rfl d_Rod_lay_28 ⟨(-11), rfl, ⟨hI, f0, (Or.inr ⟨by (first | decide +kernel | omega), by rw [show kZ.toNat = 0 by (first | decide +kernel | omega)]; show LY (-1) h h (h.1 108 1).toInt (h.1 108 2).toInt 109 iZ.toNat iZ v _; rw [t0K, s0K, t0E, s0E]; exact Or.inl ⟨by (first | decide +kernel | omega), rfl, tc_m11⟩⟩)⟩⟩
    ·
      refine V_aald (r := 110) sk_107 (by decide) kE (by (first | decide +kernel | omega)) (by rw [c9]; rfl) d_Rod_lay_14 ?_
      refine V_astore 4 [some (.ref 85), some (.int k), some (.int i), some (.int v), some (.ref 110)] d_Rod_lay_15 (by decide) rfl rfl ?_
      refine V_aload d_Rod_lay_17 rfl ?_
      refine N_getK fa_Rod_293 sk_110 rfl d_Rod_lay_19 t1K ?_
      refine V_iconst (-1) d_Rod_lay_22 (by decide) ?_
      refine V_icmp_ne 29 t1E tc_m1 d_Rod_lay_23 (by decide) (fun c18 => ?_) (fun c18 => ?_)
      ·
        refine V_iload_n 2 d_Rod_lay_29 rfl rfl ?_
        refine V_if_lt 42 iE d_Rod_lay_30 (by decide) (fun c19 => ?_) (fun c19 => ?_)
        ·
          refine V_bipush (-12) d_Rod_lay_42 (by decide) ?_
          exact V_iret rfl d_Rod_lay_44 ⟨(-12), rfl, ⟨hI, f0, (Or.inr ⟨by (first | decide +kernel | omega), by rw [show kZ.toNat = 1 by (first | decide +kernel | omega)]; show LY (-1) h h (h.1 110 1).toInt (h.1 110 2).toInt 111 iZ.toNat iZ v _; rw [t1K, s1K, t1E, s1E]; exact Or.inr (Or.inl ⟨by (first | decide +kernel | omega), by (first | decide +kernel | omega), rfl, tc_m12⟩)⟩)⟩⟩
        ·
          refine V_iload_n 2 d_Rod_lay_33 rfl rfl ?_
          refine V_aload d_Rod_lay_34 rfl ?_
          refine N_getK fa_Rod_296 sk_110 rfl d_Rod_lay_36 s1K ?_
          refine V_icmp_lt 45 iE s1E d_Rod_lay_39 (by decide) (fun c20 => ?_) (fun c20 => ?_)
          ·
            refine V_aload d_Rod_lay_45 rfl ?_
            refine V_iload_n 2 d_Rod_lay_47 rfl rfl ?_
            refine V_iload_n 3 d_Rod_lay_48 rfl rfl ?_
            refine N_callVV [.int i, .int v] [] cv_Rod_297 sk_110 rfl d_Rod_lay_49 rfl (Nat.le_of_ble_eq_true rfl) (by decide) (by decide) (c_Sheet_putZ_1 h hI i iZ iE v vZ vE t1 t1Z t1E t1K (by (first | decide +kernel | omega))) (fun h22 p23 => ?_)
            obtain ⟨hI24, fh22, p23⟩ := p23
            have f25 : fr S_Rod_layZ h h22 := fr_call f0 fh22 rfl
            refine V_iconst 1 d_Rod_lay_52 (by decide) ?_
            exact V_iret rfl d_Rod_lay_53 ⟨1, rfl, ⟨hI24, f25, (Or.inr ⟨by (first | decide +kernel | omega), by rw [show kZ.toNat = 1 by (first | decide +kernel | omega)]; show LY (-1) h h22 (h.1 110 1).toInt (h.1 110 2).toInt 111 iZ.toNat iZ v _; rw [t1K, s1K, t1E, s1E]; exact Or.inr (Or.inr ⟨by (first | decide +kernel | omega), by (first | decide +kernel | omega), by (first | decide +kernel | omega), tc_1, p23⟩)⟩)⟩⟩
          ·
            refine V_bipush (-12) d_Rod_lay_42 (by decide) ?_
            exact V_iret rfl d_Rod_lay_44 ⟨(-12), rfl, ⟨hI, f0, (Or.inr ⟨by (first | decide +kernel | omega), by rw [show kZ.toNat = 1 by (first | decide +kernel | omega)]; show LY (-1) h h (h.1 110 1).toInt (h.1 110 2).toInt 111 iZ.toNat iZ v _; rw [t1K, s1K, t1E, s1E]; exact Or.inr (Or.inl ⟨by (first | decide +kernel | omega), by (first | decide +kernel | omega), rfl, tc_m12⟩)⟩)⟩⟩
      ·
        refine V_bipush (-11) d_Rod_lay_26 (by decide) ?_
        exact V_iret rfl d_Rod_lay_28 ⟨(-11), rfl, ⟨hI, f0, (Or.inr ⟨by (first | decide +kernel | omega), by rw [show kZ.toNat = 1 by (first | decide +kernel | omega)]; show LY (-1) h h (h.1 110 1).toInt (h.1 110 2).toInt 111 iZ.toNat iZ v _; rw [t1K, s1K, t1E, s1E]; exact Or.inl ⟨by (first | decide +kernel | omega), rfl, tc_m11⟩⟩)⟩⟩
    ·
      refine V_aald (r := 112) sk_107 (by decide) kE (by (first | decide +kernel | omega)) (by rw [c9]; rfl) d_Rod_lay_14 ?_
      refine V_astore 4 [some (.ref 85), some (.int k), some (.int i), some (.int v), some (.ref 112)] d_Rod_lay_15 (by decide) rfl rfl ?_
      refine V_aload d_Rod_lay_17 rfl ?_
      refine N_getK fa_Rod_293 sk_112 rfl d_Rod_lay_19 t2K ?_
      refine V_iconst (-1) d_Rod_lay_22 (by decide) ?_
      refine V_icmp_ne 29 t2E tc_m1 d_Rod_lay_23 (by decide) (fun c26 => ?_) (fun c26 => ?_)
      ·
        refine V_iload_n 2 d_Rod_lay_29 rfl rfl ?_
        refine V_if_lt 42 iE d_Rod_lay_30 (by decide) (fun c27 => ?_) (fun c27 => ?_)
        ·
          refine V_bipush (-12) d_Rod_lay_42 (by decide) ?_
          exact V_iret rfl d_Rod_lay_44 ⟨(-12), rfl, ⟨hI, f0, (Or.inr ⟨by (first | decide +kernel | omega), by rw [show kZ.toNat = 2 by (first | decide +kernel | omega)]; show LY (-1) h h (h.1 112 1).toInt (h.1 112 2).toInt 113 iZ.toNat iZ v _; rw [t2K, s2K, t2E, s2E]; exact Or.inr (Or.inl ⟨by (first | decide +kernel | omega), by (first | decide +kernel | omega), rfl, tc_m12⟩)⟩)⟩⟩
        ·
          refine V_iload_n 2 d_Rod_lay_33 rfl rfl ?_
          refine V_aload d_Rod_lay_34 rfl ?_
          refine N_getK fa_Rod_296 sk_112 rfl d_Rod_lay_36 s2K ?_
          refine V_icmp_lt 45 iE s2E d_Rod_lay_39 (by decide) (fun c28 => ?_) (fun c28 => ?_)
          ·
            refine V_aload d_Rod_lay_45 rfl ?_
            refine V_iload_n 2 d_Rod_lay_47 rfl rfl ?_
            refine V_iload_n 3 d_Rod_lay_48 rfl rfl ?_
            refine N_callVV [.int i, .int v] [] cv_Rod_297 sk_112 rfl d_Rod_lay_49 rfl (Nat.le_of_ble_eq_true rfl) (by decide) (by decide) (c_Sheet_putZ_2 h hI i iZ iE v vZ vE t2 t2Z t2E t2K (by (first | decide +kernel | omega))) (fun h30 p31 => ?_)
            obtain ⟨hI32, fh30, p31⟩ := p31
            have f33 : fr S_Rod_layZ h h30 := fr_call f0 fh30 rfl
            refine V_iconst 1 d_Rod_lay_52 (by decide) ?_
            exact V_iret rfl d_Rod_lay_53 ⟨1, rfl, ⟨hI32, f33, (Or.inr ⟨by (first | decide +kernel | omega), by rw [show kZ.toNat = 2 by (first | decide +kernel | omega)]; show LY (-1) h h30 (h.1 112 1).toInt (h.1 112 2).toInt 113 iZ.toNat iZ v _; rw [t2K, s2K, t2E, s2E]; exact Or.inr (Or.inr ⟨by (first | decide +kernel | omega), by (first | decide +kernel | omega), by (first | decide +kernel | omega), tc_1, p31⟩)⟩)⟩⟩
          ·
            refine V_bipush (-12) d_Rod_lay_42 (by decide) ?_
            exact V_iret rfl d_Rod_lay_44 ⟨(-12), rfl, ⟨hI, f0, (Or.inr ⟨by (first | decide +kernel | omega), by rw [show kZ.toNat = 2 by (first | decide +kernel | omega)]; show LY (-1) h h (h.1 112 1).toInt (h.1 112 2).toInt 113 iZ.toNat iZ v _; rw [t2K, s2K, t2E, s2E]; exact Or.inr (Or.inl ⟨by (first | decide +kernel | omega), by (first | decide +kernel | omega), rfl, tc_m12⟩)⟩)⟩⟩
      ·
        refine V_bipush (-11) d_Rod_lay_26 (by decide) ?_
        exact V_iret rfl d_Rod_lay_28 ⟨(-11), rfl, ⟨hI, f0, (Or.inr ⟨by (first | decide +kernel | omega), by rw [show kZ.toNat = 2 by (first | decide +kernel | omega)]; show LY (-1) h h (h.1 112 1).toInt (h.1 112 2).toInt 113 iZ.toNat iZ v _; rw [t2K, s2K, t2E, s2E]; exact Or.inl ⟨by (first | decide +kernel | omega), rfl, tc_m11⟩⟩)⟩⟩
    ·
      refine V_aald (r := 114) sk_107 (by decide) kE (by (first | decide +kernel | omega)) (by rw [c9]; rfl) d_Rod_lay_14 ?_
      refine V_astore 4 [some (.ref 85), some (.int k), some (.int i), some (.int v), some (.ref 114)] d_Rod_lay_15 (by decide) rfl rfl ?_
      refine V_aload d_Rod_lay_17 rfl ?_
      refine N_getK fa_Rod_293 sk_114 rfl d_Rod_lay_19 t3K ?_
      refine V_iconst (-1) d_Rod_lay_22 (by decide) ?_
      refine V_icmp_ne 29 t3E tc_m1 d_Rod_lay_23 (by decide) (fun c34 => ?_) (fun c34 => ?_)
      ·
        refine V_iload_n 2 d_Rod_lay_29 rfl rfl ?_
        refine V_if_lt 42 iE d_Rod_lay_30 (by decide) (fun c35 => ?_) (fun c35 => ?_)
        ·
          refine V_bipush (-12) d_Rod_lay_42 (by decide) ?_
          exact V_iret rfl d_Rod_lay_44 ⟨(-12), rfl, ⟨hI, f0, (Or.inr ⟨by (first | decide +kernel | omega), by rw [show kZ.toNat = 3 by (first | decide +kernel | omega)]; show LY (-1) h h (h.1 114 1).toInt (h.1 114 2).toInt 115 iZ.toNat iZ v _; rw [t3K, s3K, t3E, s3E]; exact Or.inr (Or.inl ⟨by (first | decide +kernel | omega), by (first | decide +kernel | omega), rfl, tc_m12⟩)⟩)⟩⟩
        ·
          refine V_iload_n 2 d_Rod_lay_33 rfl rfl ?_
          refine V_aload d_Rod_lay_34 rfl ?_
          refine N_getK fa_Rod_296 sk_114 rfl d_Rod_lay_36 s3K ?_
          refine V_icmp_lt 45 iE s3E d_Rod_lay_39 (by decide) (fun c36 => ?_) (fun c36 => ?_)
          ·
            refine V_aload d_Rod_lay_45 rfl ?_
            refine V_iload_n 2 d_Rod_lay_47 rfl rfl ?_
            refine V_iload_n 3 d_Rod_lay_48 rfl rfl ?_
            refine N_callVV [.int i, .int v] [] cv_Rod_297 sk_114 rfl d_Rod_lay_49 rfl (Nat.le_of_ble_eq_true rfl) (by decide) (by decide) (c_Sheet_putZ_3 h hI i iZ iE v vZ vE t3 t3Z t3E t3K (by (first | decide +kernel | omega))) (fun h38 p39 => ?_)
            obtain ⟨hI40, fh38, p39⟩ := p39
            have f41 : fr S_Rod_layZ h h38 := fr_call f0 fh38 rfl
            refine V_iconst 1 d_Rod_lay_52 (by decide) ?_
            exact V_iret rfl d_Rod_lay_53 ⟨1, rfl, ⟨hI40, f41, (Or.inr ⟨by (first | decide +kernel | omega), by rw [show kZ.toNat = 3 by (first | decide +kernel | omega)]; show LY (-1) h h38 (h.1 114 1).toInt (h.1 114 2).toInt 115 iZ.toNat iZ v _; rw [t3K, s3K, t3E, s3E]; exact Or.inr (Or.inr ⟨by (first | decide +kernel | omega), by (first | decide +kernel | omega), by (first | decide +kernel | omega), tc_1, p39⟩)⟩)⟩⟩
          ·
            refine V_bipush (-12) d_Rod_lay_42 (by decide) ?_
            exact V_iret rfl d_Rod_lay_44 ⟨(-12), rfl, ⟨hI, f0, (Or.inr ⟨by (first | decide +kernel | omega), by rw [show kZ.toNat = 3 by (first | decide +kernel | omega)]; show LY (-1) h h (h.1 114 1).toInt (h.1 114 2).toInt 115 iZ.toNat iZ v _; rw [t3K, s3K, t3E, s3E]; exact Or.inr (Or.inl ⟨by (first | decide +kernel | omega), by (first | decide +kernel | omega), rfl, tc_m12⟩)⟩)⟩⟩
      ·
        refine V_bipush (-11) d_Rod_lay_26 (by decide) ?_
        exact V_iret rfl d_Rod_lay_28 ⟨(-11), rfl, ⟨hI, f0, (Or.inr ⟨by (first | decide +kernel | omega), by rw [show kZ.toNat = 3 by (first | decide +kernel | omega)]; show LY (-1) h h (h.1 114 1).toInt (h.1 114 2).toInt 115 iZ.toNat iZ v _; rw [t3K, s3K, t3E, s3E]; exact Or.inl ⟨by (first | decide +kernel | omega), rfl, tc_m11⟩⟩)⟩⟩
  ·
    refine V_iconst (-1) d_Rod_lay_7 (by decide) ?_
    exact V_iret rfl d_Rod_lay_8 ⟨(-1), rfl, ⟨hI, f0, (Or.inl ⟨by (first | decide +kernel | omega), rfl, tc_m1⟩)⟩⟩
def S_Mod_layZ : List (Nat × Option Nat) := [(130, none)]
abbrev q_Mod_layZ (h : Hp) (k : Int32) (kZ : Int) (i : Int32) (iZ : Int) (v : Int32) (vZ : Int) : Option Value → Hp → Prop := pInt (fun r h' => Inv h' ∧ fr S_Mod_layZ h h' ∧ ((kZ < 0 ∨ 3 < kZ) ∧ h' = h ∧ r.toInt = -1 ∨ ¬ (kZ < 0 ∨ 3 < kZ) ∧ LY (-4) h h' (h.1 128 kZ.toNat).toInt (h.1 129 kZ.toNat).toInt 130 (40 * kZ + iZ).toNat iZ v r))
set_option maxRecDepth 100000 in
theorem c_Mod_layZ (h : Hp) (hI : Inv h) (k : Int32) (kZ : Int) (kE : k.toInt = kZ) (i : Int32) (iZ : Int) (iE : i.toInt = iZ) (v : Int32) (vZ : Int) (vE : v.toInt = vZ) : Ct y_Mod_lay b_Mod_lay 4 (some .int) 2 46 [.ref 116, .int k, .int i, .int v] h (q_Mod_layZ h k kZ i iZ v vZ) := by
  refine ct_ow R_Mod [some (.ref 116), some (.int k), some (.int i), some (.int v)] rfl (by decide) rfl (Nat.le_of_ble_eq_true rfl) ?_
  have f0 : fr S_Mod_layZ h h := fr_rf
  obtain ⟨tv, tvZ, tvE, tvK⟩ : ∃ (y : Int32) (Y : Int), y.toInt = Y ∧ h.1 128 (kZ).toNat = y := ⟨_, _, rfl, rfl⟩
  obtain ⟨sv, svZ, svE, svK⟩ : ∃ (y : Int32) (Y : Int), y.toInt = Y ∧ h.1 129 (kZ).toNat = y := ⟨_, _, rfl, rfl⟩
  refine V_iload_n 1 d_Mod_lay_0 rfl rfl ?_
  refine V_iconst 0 d_Mod_lay_1 (by decide) ?_
  refine N_callSI [.int k, .int 0] [] cs_Mod_322 d_Mod_lay_2 rfl (Nat.le_of_ble_eq_true rfl) (by decide) (by decide) (c_Mod_isSheet h k kZ kE 0 0 tc_0) (fun z1 h2 z1Z z1E p3 => ?_)
  obtain ⟨eh2, p3⟩ := p3
  subst eh2
  refine V_if_ne 10 z1E d_Mod_lay_5 (by decide) (fun c4 => ?_) (fun c4 => ?_)
  ·
    have svB : 0 ≤ svZ ∧ svZ ≤ 40 := inv_at hI svE svK.symm rfl
    refine V_aload_n 0 d_Mod_lay_10 rfl rfl ?_
    refine V_getR fa_Mod_44 sk_116 rfl d_Mod_lay_11 ?_
    refine V_iload_n 1 d_Mod_lay_14 rfl rfl ?_
    refine N_ialdK sk_128 kE (by (first | decide +kernel | omega)) d_Mod_lay_15 tvK ?_
    refine V_bipush (-4) d_Mod_lay_16 (by decide) ?_
    refine V_icmp_ne 24 tvE tc_m4 d_Mod_lay_18 (by decide) (fun c6 => ?_) (fun c6 => ?_)
    ·
      refine V_iload_n 2 d_Mod_lay_24 rfl rfl ?_
      refine V_i2l d_Mod_lay_25 (fun z7 z7e z7E => ?_)
      have z7F : z7.toInt = iZ := z7E.trans iE
      refine V_lconst 0 d_Mod_lay_26 (by decide) ?_
      refine V_aload_n 0 d_Mod_lay_27 rfl rfl ?_
      refine V_getR fa_Mod_47 sk_116 rfl d_Mod_lay_28 ?_
      refine V_iload_n 1 d_Mod_lay_31 rfl rfl ?_
      refine N_ialdK sk_129 kE (by (first | decide +kernel | omega)) d_Mod_lay_32 svK ?_
      refine V_iconst 1 d_Mod_lay_33 (by decide) ?_
      refine V_isub svE tc_1 (by (first | decide +kernel | omega)) d_Mod_lay_34 (fun z9 z9e z9E => ?_)
      refine V_i2l d_Mod_lay_35 (fun z10 z10e z10E => ?_)
      have z10F : z10.toInt = (svZ - 1) := z10E.trans z9E
      refine N_callSI [.long z7, .long 0, .long z10] [] cs_Mod_95 d_Mod_lay_36 rfl (Nat.le_of_ble_eq_true rfl) (by decide) (by decide) (c_Mod_in h z7 iZ z7F 0 0 tl_0 z10 ((svZ - 1)) z10F) (fun z11 h12 z11Z z11E p13 => ?_)
      obtain ⟨eh12, p13⟩ := p13
      subst eh12
      refine V_if_ne 45 z11E d_Mod_lay_39 (by decide) (fun c14 => ?_) (fun c14 => ?_)
      ·
        refine V_aload_n 0 d_Mod_lay_45 rfl rfl ?_
        refine V_getR fa_Mod_50 sk_116 rfl d_Mod_lay_46 ?_
        refine V_bipush 40 d_Mod_lay_49 (by decide) ?_
        refine V_iload_n 1 d_Mod_lay_51 rfl rfl ?_
        refine V_imul tc_40 kE (by (first | decide +kernel | omega)) d_Mod_lay_52 (fun z15 z15e z15E => ?_)
        refine V_iload_n 2 d_Mod_lay_53 rfl rfl ?_
        refine V_iadd z15E iE (by (first | decide +kernel | omega)) d_Mod_lay_54 (fun z16 z16e z16E => ?_)
        refine V_aload_n 0 d_Mod_lay_55 rfl rfl ?_
        refine V_getR fa_Mod_44 sk_116 rfl d_Mod_lay_56 ?_
        refine V_iload_n 1 d_Mod_lay_59 rfl rfl ?_
        refine N_ialdK sk_128 kE (by (first | decide +kernel | omega)) d_Mod_lay_60 tvK ?_
        refine V_if_ne 69 tvE d_Mod_lay_61 (by decide) (fun c18 => ?_) (fun c18 => ?_)
        ·
          refine V_aload_n 0 d_Mod_lay_69 rfl rfl ?_
          refine V_getR fa_Mod_44 sk_116 rfl d_Mod_lay_70 ?_
          refine V_iload_n 1 d_Mod_lay_73 rfl rfl ?_
          refine N_ialdK sk_128 kE (by (first | decide +kernel | omega)) d_Mod_lay_74 tvK ?_
          refine V_iconst 1 d_Mod_lay_75 (by decide) ?_
          refine V_icmp_ne 84 tvE tc_1 d_Mod_lay_76 (by decide) (fun c20 => ?_) (fun c20 => ?_)
          ·
            refine V_iload_n 3 d_Mod_lay_84 rfl rfl ?_
            refine N_iast sk_130 z16E (by (first | decide +kernel | omega)) d_Mod_lay_85 (fun h21 eh21 => ?_)
            have hI22 : Inv h21 := inv_full hI eh21 rfl
            have f23 : fr S_Mod_layZ h h21 := fr_put f0 eh21 rfl
            refine V_iconst 1 d_Mod_lay_86 (by decide) ?_
            exact V_iret rfl d_Mod_lay_87 ⟨1, rfl, ⟨hI22, f23, (Or.inr ⟨by (first | decide +kernel | omega), by rw [tvK, svK, tvE, svE]; exact Or.inr (Or.inr ⟨by (first | decide +kernel | omega), by (first | decide +kernel | omega), by (first | decide +kernel | omega), tc_1, v, Or.inr (Or.inr ⟨by (first | decide +kernel | omega), rfl⟩), (by rw [eh21] <;> rfl)⟩)⟩)⟩⟩
          ·
            refine V_iload_n 3 d_Mod_lay_79 rfl rfl ?_
            refine N_i2s d_Mod_lay_80 (fun z24 z24Z z24E z24e => ?_)
            refine V_goto 85 d_Mod_lay_81 (by decide) ?_
            refine N_iast sk_130 z16E (by (first | decide +kernel | omega)) d_Mod_lay_85 (fun h25 eh25 => ?_)
            have hI26 : Inv h25 := inv_full hI eh25 rfl
            have f27 : fr S_Mod_layZ h h25 := fr_put f0 eh25 rfl
            refine V_iconst 1 d_Mod_lay_86 (by decide) ?_
            exact V_iret rfl d_Mod_lay_87 ⟨1, rfl, ⟨hI26, f27, (Or.inr ⟨by (first | decide +kernel | omega), by rw [tvK, svK, tvE, svE]; exact Or.inr (Or.inr ⟨by (first | decide +kernel | omega), by (first | decide +kernel | omega), by (first | decide +kernel | omega), tc_1, z24, Or.inr (Or.inl ⟨by (first | decide +kernel | omega), z24e⟩), (by rw [eh25] <;> rfl)⟩)⟩)⟩⟩
        ·
          refine V_iload_n 3 d_Mod_lay_64 rfl rfl ?_
          refine N_i2b d_Mod_lay_65 (fun z28 z28Z z28E z28e => ?_)
          refine V_goto 85 d_Mod_lay_66 (by decide) ?_
          refine N_iast sk_130 z16E (by (first | decide +kernel | omega)) d_Mod_lay_85 (fun h29 eh29 => ?_)
          have hI30 : Inv h29 := inv_full hI eh29 rfl
          have f31 : fr S_Mod_layZ h h29 := fr_put f0 eh29 rfl
          refine V_iconst 1 d_Mod_lay_86 (by decide) ?_
          exact V_iret rfl d_Mod_lay_87 ⟨1, rfl, ⟨hI30, f31, (Or.inr ⟨by (first | decide +kernel | omega), by rw [tvK, svK, tvE, svE]; exact Or.inr (Or.inr ⟨by (first | decide +kernel | omega), by (first | decide +kernel | omega), by (first | decide +kernel | omega), tc_1, z28, Or.inl ⟨by (first | decide +kernel | omega), z28e⟩, (by rw [eh29] <;> rfl)⟩)⟩)⟩⟩
      ·
        refine V_bipush (-12) d_Mod_lay_42 (by decide) ?_
        exact V_iret rfl d_Mod_lay_44 ⟨(-12), rfl, ⟨hI, f0, (Or.inr ⟨by (first | decide +kernel | omega), by rw [tvK, svK, tvE, svE]; exact Or.inr (Or.inl ⟨by (first | decide +kernel | omega), by (first | decide +kernel | omega), rfl, tc_m12⟩)⟩)⟩⟩
    ·
      refine V_bipush (-11) d_Mod_lay_21 (by decide) ?_
      exact V_iret rfl d_Mod_lay_23 ⟨(-11), rfl, ⟨hI, f0, (Or.inr ⟨by (first | decide +kernel | omega), by rw [tvK, svK, tvE, svE]; exact Or.inl ⟨by (first | decide +kernel | omega), rfl, tc_m11⟩⟩)⟩⟩
  ·
    refine V_iconst (-1) d_Mod_lay_8 (by decide) ?_
    exact V_iret rfl d_Mod_lay_9 ⟨(-1), rfl, ⟨hI, f0, (Or.inl ⟨by (first | decide +kernel | omega), rfl, tc_m1⟩)⟩⟩
end
section
def uN (x : Int32) : Nat := x.toBitVec.toNat
theorem uN_lt (x : Int32) : uN x < 2 ^ 32 := x.toBitVec.isLt
theorem uN_inj {x y : Int32} (h : uN x = uN y) : x = y := Int32.toBitVec_inj.mp (BitVec.eq_of_toNat_eq h)
theorem uN_and (x y : Int32) : uN (x &&& y) = uN x &&& uN y := by unfold uN; rw [Int32.toBitVec_and, BitVec.toNat_and]
theorem uN_or (x y : Int32) : uN (x ||| y) = uN x ||| uN y := by unfold uN; rw [Int32.toBitVec_or, BitVec.toNat_or]
theorem uN_xor (x y : Int32) : uN (x ^^^ y) = uN x ^^^ uN y := by unfold uN; rw [Int32.toBitVec_xor, BitVec.toNat_xor]
theorem uN_add (x y : Int32) : uN (x + y) = (uN x + uN y) % 4294967296 := by
  have := BitVec.toNat_add x.toBitVec y.toBitVec
  rw [← Int32.toBitVec_add] at this
  exact this
theorem uN_sub (x y : Int32) : uN (x - y) = (4294967296 - uN y + uN x) % 4294967296 := by
  have := BitVec.toNat_sub x.toBitVec y.toBitVec
  rw [← Int32.toBitVec_sub] at this
  exact this
theorem uN_ush {x y z : Int32} (k : Nat) (e : z = (x.toUInt32 >>> (y.toUInt32 &&& Int32.toUInt32 31)).toInt32) (hk : (y.toUInt32 &&& Int32.toUInt32 31).toNat % 32 = k) : uN z = uN x / 2 ^ k := by
  have h1 : uN z = (x.toUInt32 >>> (y.toUInt32 &&& Int32.toUInt32 31)).toNat := by rw [e]; rfl
  rw [h1, UInt32.toNat_shiftRight, hk, Nat.shiftRight_eq_div_pow]
  rfl
theorem uN_ti {x : Int32} (h : uN x < 2 ^ 31) : x.toInt = (uN x : Int) := by
  rw [← Int32.toInt_toBitVec]
  exact BitVec.toInt_eq_toNat_of_lt (by show 2 * uN x < 2 ^ 32; omega)
theorem and_dig {w s m x y : Nat} (hs : s < 2 ^ w) (hm : m < 2 ^ w) : (s + 2 ^ w * x) &&& (m + 2 ^ w * y) = (s &&& m) + 2 ^ w * (x &&& y) := by
  have hp : 0 < 2 ^ w := Nat.two_pow_pos w
  have h1 : ((s + 2 ^ w * x) &&& (m + 2 ^ w * y)) % 2 ^ w = s &&& m := by
    rw [Nat.and_mod_two_pow, Nat.add_mul_mod_self_left, Nat.add_mul_mod_self_left, Nat.mod_eq_of_lt hs, Nat.mod_eq_of_lt hm]
  have h2 : ((s + 2 ^ w * x) &&& (m + 2 ^ w * y)) / 2 ^ w = x &&& y := by
    rw [Nat.and_div_two_pow, Nat.add_mul_div_left _ _ hp, Nat.add_mul_div_left _ _ hp, Nat.div_eq_of_lt hs, Nat.div_eq_of_lt hm, Nat.zero_add, Nat.zero_add]
  have h3 := Nat.mod_add_div ((s + 2 ^ w * x) &&& (m + 2 ^ w * y)) (2 ^ w)
  rw [h1, h2] at h3
  exact h3.symm
theorem and_d2 {s x m y : Nat} (hs : s < 4) (hm : m < 4) : (s + 4 * x) &&& (m + 4 * y) = (s &&& m) + 4 * (x &&& y) := and_dig (w := 2) hs hm
theorem and_d4 {s x m y : Nat} (hs : s < 16) (hm : m < 16) : (s + 16 * x) &&& (m + 16 * y) = (s &&& m) + 16 * (x &&& y) := and_dig (w := 4) hs hm
theorem and_d8 {s x m y : Nat} (hs : s < 256) (hm : m < 256) : (s + 256 * x) &&& (m + 256 * y) = (s &&& m) + 256 * (x &&& y) := and_dig (w := 8) hs hm
theorem and_1 (x : Nat) : x &&& 1 = x % 2 := Nat.and_two_pow_sub_one_eq_mod x 1
theorem and_3 (x : Nat) : x &&& 3 = x % 4 := Nat.and_two_pow_sub_one_eq_mod x 2
theorem and_15 (x : Nat) : x &&& 15 = x % 16 := Nat.and_two_pow_sub_one_eq_mod x 4
theorem and_63 (x : Nat) : x &&& 63 = x % 64 := Nat.and_two_pow_sub_one_eq_mod x 6
def M5 : Nat → Nat
  | 0 => 0
  | k + 1 => 1 + 4 * M5 k
def M3 : Nat → Nat
  | 0 => 0
  | k + 1 => 3 + 16 * M3 k
def M0 : Nat → Nat
  | 0 => 0
  | k + 1 => 15 + 256 * M0 k
def P2 : Nat → Nat → Nat
  | 0, _ => 0
  | k + 1, n => (n % 2 + n / 2 % 2) + 4 * P2 k (n / 4)
def pc4 (n : Nat) : Nat := n % 2 + n / 2 % 2 + (n / 4 % 2 + n / 8 % 2)
theorem pc4_le (n : Nat) : pc4 n ≤ 4 := by unfold pc4; omega
def P4 : Nat → Nat → Nat
  | 0, _ => 0
  | k + 1, n => pc4 n + 16 * P4 k (n / 16)
def P8 : Nat → Nat → Nat
  | 0, _ => 0
  | k + 1, n => (pc4 n + pc4 (n / 16)) + 256 * P8 k (n / 256)
theorem P2_of : ∀ k n : Nat, n < 4 ^ k → n - (n / 2 &&& M5 k) = P2 k n ∧ (n / 2 &&& M5 k) ≤ n := by
  intro k
  induction k with
  | zero => intro n h; have : n = 0 := by (first | decide +kernel | omega)
            subst this; exact ⟨rfl, Nat.le_refl 0⟩
  | succ k ih =>
    intro n h
    rw [Nat.pow_succ] at h
    obtain ⟨i1, i2⟩ := ih (n / 4) (by (first | decide +kernel | omega))
    have e1 : n / 2 = (n % 4 / 2 + 2 * (n / 4 % 2)) + 4 * (n / 4 / 2) := by (first | decide +kernel | omega)
    have e2 : n / 2 &&& M5 (k + 1) = n % 4 / 2 + 4 * (n / 4 / 2 &&& M5 k) := by
      show n / 2 &&& (1 + 4 * M5 k) = _
      rw [e1, and_d2 (by (first | decide +kernel | omega)) (by (first | decide +kernel | omega)), and_1]
      omega
    rw [e2]
    show n - _ = (n % 2 + n / 2 % 2) + 4 * P2 k (n / 4) ∧ _
    rw [← i1]
    generalize n / 4 / 2 &&& M5 k = t at i2
    omega
theorem P2_su (k n : Nat) : P2 (2 * (k + 1)) n = ((n % 2 + n / 2 % 2) + 4 * (n / 4 % 2 + n / 8 % 2)) + 16 * P2 (2 * k) (n / 16) := by
  show (n % 2 + n / 2 % 2) + 4 * ((n / 4 % 2 + n / 4 / 2 % 2) + 4 * P2 (2 * k) (n / 4 / 4)) = _
  rw [show n / 4 / 4 = n / 16 by (first | decide +kernel | omega), show n / 4 / 2 = n / 8 by (first | decide +kernel | omega)]
  omega
theorem P4_of : ∀ k n : Nat, (P2 (2 * k) n &&& M3 k) + (P2 (2 * k) n / 4 &&& M3 k) = P4 k n := by
  intro k
  induction k with
  | zero => intro n; show (0 &&& 0) + (0 / 4 &&& 0) = 0; rfl
  | succ k ih =>
    intro n
    have i1 := ih (n / 16)
    rw [P2_su]
    generalize P2 (2 * k) (n / 16) = q at i1
    show (_ &&& (3 + 16 * M3 k)) + (_ &&& (3 + 16 * M3 k)) = pc4 n + 16 * P4 k (n / 16)
    have e1 : ((n % 2 + n / 2 % 2) + 4 * (n / 4 % 2 + n / 8 % 2) + 16 * q) / 4 = ((n / 4 % 2 + n / 8 % 2) + 4 * (q % 4)) + 16 * (q / 4) := by (first | decide +kernel | omega)
    rw [e1, and_d4 (by (first | decide +kernel | omega)) (by (first | decide +kernel | omega)), and_d4 (by (first | decide +kernel | omega)) (by (first | decide +kernel | omega)), and_3, and_3, ← i1]
    unfold pc4
    omega
theorem P4_su (k n : Nat) : P4 (2 * (k + 1)) n = (pc4 n + 16 * pc4 (n / 16)) + 256 * P4 (2 * k) (n / 256) := by
  show pc4 n + 16 * (pc4 (n / 16) + 16 * P4 (2 * k) (n / 16 / 16)) = _
  rw [show n / 16 / 16 = n / 256 by (first | decide +kernel | omega)]
  omega
theorem P4_m (k n : Nat) : P4 k n % 16 ≤ 4 := by
  cases k with
  | zero => show 0 % 16 ≤ 4; decide
  | succ k =>
    show (pc4 n + 16 * P4 k (n / 16)) % 16 ≤ 4
    have := pc4_le n
    omega
theorem P8_of : ∀ k n : Nat, (P4 (2 * k) n + P4 (2 * k) n / 16) &&& M0 k = P8 k n := by
  intro k
  induction k with
  | zero => intro n; show (0 + 0 / 16) &&& 0 = 0; rfl
  | succ k ih =>
    intro n
    have i1 := ih (n / 256)
    have i2 := P4_m (2 * k) (n / 256)
    have i3 := pc4_le n
    have i4 := pc4_le (n / 16)
    rw [P4_su]
    show _ &&& (15 + 256 * M0 k) = (pc4 n + pc4 (n / 16)) + 256 * P8 k (n / 256)
    rw [← i1]
    generalize P4 (2 * k) (n / 256) = q at i2
    have e1 : (pc4 n + 16 * pc4 (n / 16)) + 256 * q + ((pc4 n + 16 * pc4 (n / 16)) + 256 * q) / 16 = (pc4 n + pc4 (n / 16) + 16 * (pc4 (n / 16) + q % 16)) + 256 * (q + q / 16) := by (first | decide +kernel | omega)
    rw [e1, and_d8 (by (first | decide +kernel | omega)) (by (first | decide +kernel | omega)), and_15]
    omega
theorem pcN_8 (k n : Nat) : pcN (k + 8) n = pc4 n + pc4 (n / 16) + pcN k (n / 256) := by
  show n % 2 + (n / 2 % 2 + (n / 2 / 2 % 2 + (n / 2 / 2 / 2 % 2 + (n / 2 / 2 / 2 / 2 % 2 + (n / 2 / 2 / 2 / 2 / 2 % 2 + (n / 2 / 2 / 2 / 2 / 2 / 2 % 2 + (n / 2 / 2 / 2 / 2 / 2 / 2 / 2 % 2 + pcN k (n / 2 / 2 / 2 / 2 / 2 / 2 / 2 / 2)))))))) = _
  rw [show n / 2 / 2 / 2 / 2 / 2 / 2 / 2 / 2 = n / 256 by (first | decide +kernel | omega)]
  unfold pc4
  omega
theorem P8_le (n : Nat) : P8 4 n = (pc4 n + pc4 (n / 16)) + 256 * (pc4 (n / 256) + pc4 (n / 256 / 16)) + 65536 * (pc4 (n / 65536) + pc4 (n / 65536 / 16)) + 16777216 * (pc4 (n / 16777216) + pc4 (n / 16777216 / 16)) := by
  show (pc4 n + pc4 (n / 16)) + 256 * ((pc4 (n / 256) + pc4 (n / 256 / 16)) + 256 * ((pc4 (n / 256 / 256) + pc4 (n / 256 / 256 / 16)) + 256 * ((pc4 (n / 256 / 256 / 256) + pc4 (n / 256 / 256 / 256 / 16)) + 256 * 0))) = _
  rw [show n / 256 / 256 / 256 = n / 16777216 by (first | decide +kernel | omega), show n / 256 / 256 = n / 65536 by (first | decide +kernel | omega)]
  omega
theorem pcN_32 (n : Nat) : pcN 32 n = (pc4 n + pc4 (n / 16)) + (pc4 (n / 256) + pc4 (n / 256 / 16)) + (pc4 (n / 65536) + pc4 (n / 65536 / 16)) + (pc4 (n / 16777216) + pc4 (n / 16777216 / 16)) := by
  have h1 : pcN 32 n = _ := pcN_8 24 n
  have h2 : pcN 24 (n / 256) = _ := pcN_8 16 (n / 256)
  have h3 : pcN 16 (n / 256 / 256) = _ := pcN_8 8 (n / 256 / 256)
  have h4 : pcN 8 (n / 256 / 256 / 256) = _ := pcN_8 0 (n / 256 / 256 / 256)
  have h5 : pcN 0 (n / 256 / 256 / 256 / 256) = 0 := rfl
  have e1 : n / 256 / 256 / 256 = n / 16777216 := by (first | decide +kernel | omega)
  have e2 : n / 256 / 256 = n / 65536 := by (first | decide +kernel | omega)
  rw [h1, h2, h3, h4, h5, e1, e2]
  omega
theorem bc_nat {n a b c d e f : Nat} (h : n < 2 ^ 32) (h1 : a = n - (n / 2 &&& 1431655765)) (h2 : b = (a &&& 858993459) + (a / 4 &&& 858993459)) (h3 : c = (b + b / 16) &&& 252645135) (h4 : d = c + c / 256) (h5 : e = d + d / 65536) (h6 : f = e &&& 63) : f = pcN 32 n ∧ a ≤ n ∧ b < 2 ^ 32 ∧ b + b / 16 < 2 ^ 32 ∧ d < 2 ^ 32 ∧ e < 2 ^ 32 := by
  have a1 : a = P2 16 n := by rw [h1]; exact (P2_of 16 n h).1
  have a2 : b = P4 8 n := by rw [h2, a1]; exact P4_of 8 n
  have a3 : c = P8 4 n := by rw [h3, a2]; exact P8_of 4 n
  have l0 := pc4_le n
  have l1 := pc4_le (n / 16)
  have l2 := pc4_le (n / 256)
  have l3 := pc4_le (n / 256 / 16)
  have l4 := pc4_le (n / 65536)
  have l5 := pc4_le (n / 65536 / 16)
  have l6 := pc4_le (n / 16777216)
  have l7 := pc4_le (n / 16777216 / 16)
  have b1 : b = ((pc4 n + 16 * pc4 (n / 16)) + 256 * (pc4 (n / 256) + 16 * pc4 (n / 256 / 16))) + 65536 * ((pc4 (n / 65536) + 16 * pc4 (n / 65536 / 16)) + 256 * (pc4 (n / 16777216) + 16 * pc4 (n / 16777216 / 16))) := by
    rw [a2, show (8 : Nat) = 2 * (3 + 1) from rfl, P4_su, show 2 * 3 = 2 * (2 + 1) from rfl, P4_su, show 2 * 2 = 2 * (1 + 1) from rfl, P4_su, show 2 * 1 = 2 * (0 + 1) from rfl, P4_su]
    rw [show n / 256 / 256 / 256 = n / 16777216 by (first | decide +kernel | omega), show n / 256 / 256 = n / 65536 by (first | decide +kernel | omega)]
    show _ + 256 * (_ + 256 * (_ + 256 * (_ + 256 * 0))) = _
    omega
  rw [P8_le] at a3
  rw [pcN_32]
  rw [and_63] at h6
  have ha : a ≤ n := by rw [h1]; exact Nat.sub_le _ _
  clear h1 h2 h3 a1 a2
  obtain ⟨d0, e0⟩ : ∃ d0, d0 = pc4 n + pc4 (n / 16) := ⟨_, rfl⟩
  obtain ⟨d1, e1⟩ : ∃ d1, d1 = pc4 (n / 256) + pc4 (n / 256 / 16) := ⟨_, rfl⟩
  obtain ⟨d2, e2⟩ : ∃ d2, d2 = pc4 (n / 65536) + pc4 (n / 65536 / 16) := ⟨_, rfl⟩
  obtain ⟨d3, e3⟩ : ∃ d3, d3 = pc4 (n / 16777216) + pc4 (n / 16777216 / 16) := ⟨_, rfl⟩
  have y0 : d0 ≤ 8 := by (first | decide +kernel | omega)
  have y1 : d1 ≤ 8 := by (first | decide +kernel | omega)
  have y2 : d2 ≤ 8 := by (first | decide +kernel | omega)
  have y3 : d3 ≤ 8 := by (first | decide +kernel | omega)
  have hb : b < 2 ^ 32 ∧ b + b / 16 < 2 ^ 32 := by
    have : b ≤ 1145324612 := by (first | decide +kernel | omega)
    omega
  rw [← e0, ← e1, ← e2, ← e3] at a3 ⊢
  clear l0 l1 l2 l3 l4 l5 l6 l7 b1 e0 e1 e2 e3
  have q1 : c / 256 = d1 + 256 * d2 + 65536 * d3 := by (first | decide +kernel | omega)
  have q2 : d = (d0 + d1) + 256 * (d1 + d2) + 65536 * ((d2 + d3) + 256 * d3) := by (first | decide +kernel | omega)
  have q3 : d / 65536 = (d2 + d3) + 256 * d3 := by (first | decide +kernel | omega)
  have q4 : e = (d0 + d1 + d2 + d3) + 64 * (4 * (d1 + d2 + d3) + 1024 * ((d2 + d3) + 256 * d3)) := by (first | decide +kernel | omega)
  have q5 : f = d0 + d1 + d2 + d3 := by rw [h6, q4, Nat.add_mul_mod_self_left]; exact Nat.mod_eq_of_lt (by (first | decide +kernel | omega))
  exact ⟨q5, ha, hb.1, hb.2, by (first | decide +kernel | omega), by (first | decide +kernel | omega)⟩
theorem bc_of {v a1 a2 a3 b1 b2 b3 b4 c1 c2 c3 d1 d2 e1 e2 r : Int32} (g1 : a1 = (v.toUInt32 >>> (Int32.toUInt32 1 &&& Int32.toUInt32 31)).toInt32) (g2 : a2 = a1 &&& 1431655765) (g3 : a3 = v - a2) (g4 : b1 = a3 &&& 858993459) (g5 : b2 = (a3.toUInt32 >>> (Int32.toUInt32 2 &&& Int32.toUInt32 31)).toInt32) (g6 : b3 = b2 &&& 858993459) (g7 : b4 = b1 + b3) (g8 : c1 = (b4.toUInt32 >>> (Int32.toUInt32 4 &&& Int32.toUInt32 31)).toInt32) (g9 : c2 = b4 + c1) (g10 : c3 = c2 &&& 252645135) (g11 : d1 = (c3.toUInt32 >>> (Int32.toUInt32 8 &&& Int32.toUInt32 31)).toInt32) (g12 : d2 = c3 + d1) (g13 : e1 = (d2.toUInt32 >>> (Int32.toUInt32 16 &&& Int32.toUInt32 31)).toInt32) (g14 : e2 = d2 + e1) (g15 : r = e2 &&& 63) : r.toInt = (pcN 32 (uN v) : Nat) := by
  have l := uN_lt v
  have u1 := uN_ush 1 g1 (by decide)
  have u2 := uN_ush 2 g5 (by decide)
  have u3 := uN_ush 4 g8 (by decide)
  have u4 := uN_ush 8 g11 (by decide)
  have u5 := uN_ush 16 g13 (by decide)
  have c1' : uN (1431655765 : Int32) = 1431655765 := by decide
  have c2' : uN (858993459 : Int32) = 858993459 := by decide
  have c3' : uN (252645135 : Int32) = 252645135 := by decide
  have c4' : uN (63 : Int32) = 63 := by decide
  obtain ⟨k1, k2, k3, k4, k5, k6⟩ := bc_nat l rfl rfl rfl rfl rfl rfl
  have v2 : uN a2 = uN v / 2 &&& 1431655765 := by rw [g2, uN_and, u1, c1']
  have hle : (uN v / 2 &&& 1431655765) ≤ uN v := (P2_of 16 (uN v) l).2
  have v3 : uN a3 = uN v - (uN v / 2 &&& 1431655765) := by
    rw [g3, uN_sub, v2]
    generalize uN v / 2 &&& 1431655765 = t at hle
    omega
  have v4 : uN b1 = (uN v - (uN v / 2 &&& 1431655765)) &&& 858993459 := by rw [g4, uN_and, v3, c2']
  have v5 : uN b3 = (uN v - (uN v / 2 &&& 1431655765)) / 4 &&& 858993459 := by rw [g6, uN_and, u2, v3, c2']
  have v6 : uN b4 = ((uN v - (uN v / 2 &&& 1431655765)) &&& 858993459) + ((uN v - (uN v / 2 &&& 1431655765)) / 4 &&& 858993459) := by rw [g7, uN_add, v4, v5]; exact Nat.mod_eq_of_lt k3
  have v7 : uN c2 = uN b4 + uN b4 / 16 := by rw [g9, uN_add, u3]; rw [← v6] at k4; exact Nat.mod_eq_of_lt k4
  have v8 : uN c3 = (uN b4 + uN b4 / 16) &&& 252645135 := by rw [g10, uN_and, v7, c3']
  rw [← v6, ← v8] at k1 k5 k6
  have v9 : uN d2 = uN c3 + uN c3 / 256 := by rw [g12, uN_add, u4]; exact Nat.mod_eq_of_lt k5
  rw [← v9] at k1 k6
  have v10 : uN e2 = uN d2 + uN d2 / 65536 := by rw [g14, uN_add, u5]; exact Nat.mod_eq_of_lt k6
  rw [← v10] at k1
  have v11 : uN r = pcN 32 (uN v) := by rw [g15, uN_and, c4']; exact k1
  have v12 : uN r < 64 := by rw [g15, uN_and, c4', and_63]; exact Nat.mod_lt _ (by decide)
  rw [uN_ti (by (first | decide +kernel | omega)), v11]
def ct (p : Nat → Bool) : Nat → Nat
  | 0 => 0
  | n + 1 => ct p n + (if p n then 1 else 0)
theorem ct_cg {p q : Nat → Bool} : ∀ n : Nat, (∀ i : Nat, i < n → p i = q i) → ct p n = ct q n := by
  intro n
  induction n with
  | zero => intro _; rfl
  | succ n ih => intro h; show ct p n + _ = ct q n + _; rw [ih (fun i hi => h i (by (first | decide +kernel | omega))), h n (by (first | decide +kernel | omega))]
theorem pcN_top : ∀ k n : Nat, pcN (k + 1) n = pcN k n + n / 2 ^ k % 2 := by
  intro k
  induction k with
  | zero => intro n; show n % 2 + 0 = 0 + n / 1 % 2; omega
  | succ k ih =>
    intro n
    show n % 2 + pcN (k + 1) (n / 2) = (n % 2 + pcN k (n / 2)) + n / 2 ^ (k + 1) % 2
    rw [ih (n / 2), Nat.div_div_eq_div_mul, show 2 * 2 ^ k = 2 ^ (k + 1) by rw [Nat.pow_succ]; omega]
    omega
theorem pcN_ct (n : Nat) : ∀ k : Nat, pcN k n = ct (fun j => n.testBit j) k := by
  intro k
  induction k with
  | zero => rfl
  | succ k ih =>
    rw [pcN_top, ih]
    show _ = ct _ k + (if n.testBit k then 1 else 0)
    rw [Nat.testBit_eq_decide_div_mod_eq]
    have : n / 2 ^ k % 2 < 2 := Nat.mod_lt _ (by decide)
    by_cases q : n / 2 ^ k % 2 = 1
    · rw [decide_eq_true q, q]; rfl
    · rw [decide_eq_false q, show n / 2 ^ k % 2 = 0 by (first | decide +kernel | omega)]; rfl
def BS (x : Int32) (p : Nat → Bool) : Prop := ∀ j : Nat, (uN x).testBit j = p j
theorem BS_lt {x : Int32} {p : Nat → Bool} (b : BS x p) {j : Nat} (h : 32 ≤ j) : p j = false := by
  rw [← b j]
  exact Nat.testBit_lt_two_pow (Nat.lt_of_lt_of_le (uN_lt x) (Nat.pow_le_pow_right (by decide) h))
theorem BS_cg {x : Int32} {p q : Nat → Bool} (b : BS x p) (h : ∀ j : Nat, p j = q j) : BS x q := fun j => (b j).trans (h j)
theorem BS_0 : BS 0 (fun _ => false) := fun j => by
  show (uN 0).testBit j = false
  rw [show uN 0 = 0 by decide]
  exact Nat.zero_testBit j
theorem BS_or {x y : Int32} {p q : Nat → Bool} (a : BS x p) (b : BS y q) : BS (x ||| y) (fun j => p j || q j) := fun j => by rw [uN_or, Nat.testBit_or, a j, b j]
theorem BS_not {x : Int32} {p : Nat → Bool} (a : BS x p) : BS (x ^^^ -1) (fun j => decide (j < 32) && !p j) := fun j => by
  rw [uN_xor, Nat.testBit_xor, a j, show uN (-1) = 2 ^ 32 - 1 by decide, Nat.testBit_two_pow_sub_one]
  show (p j ^^ decide (j < 32)) = (decide (j < 32) && !p j)
  by_cases q : j < 32
  · rw [decide_eq_true q]; cases p j <;> rfl
  · rw [decide_eq_false q, BS_lt a (by (first | decide +kernel | omega))]; rfl
theorem i32_of {i : Int32} {I : Int} (iE : i.toInt = I) (h : 0 ≤ I ∧ I < 32) : i = Int32.ofNat I.toNat := by
  refine Int32.toInt_inj.mp ?_
  rw [Int32.toInt_ofNat_of_lt (by (first | decide +kernel | omega)), iE]
  omega
theorem one_sh : ∀ k, k < 32 → uN ((1 : Int32) <<< (Int32.ofNat k &&& 31)) = 2 ^ k := by decide +kernel
theorem BS_one {i : Int32} {I : Int} (iE : i.toInt = I) (h : 0 ≤ I ∧ I < 32) : BS (1 <<< (i &&& 31)) (fun j => decide (j = I.toNat)) := fun j => by
  rw [i32_of iE h, one_sh _ (by (first | decide +kernel | omega)), Nat.testBit_two_pow]
  exact decide_eq_decide.mpr eq_comm
theorem sh_amt : ∀ k, k < 32 → ((Int32.ofNat k &&& 31).toBitVec.smod 32).toNat = k := by decide +kernel
theorem BS_sh {x i z w : Int32} {I W : Int} {p : Nat → Bool} (b : BS x p) (iE : i.toInt = I) (h : 0 ≤ I ∧ I < 32) (e1 : z = x >>> (i &&& 31)) (e2 : w = z &&& 1) (wE : w.toInt = W) : W = if p I.toNat then 1 else 0 := by
  have h1 : uN w = uN z % 2 := by rw [e2, uN_and, show uN 1 = 1 by decide, and_1]
  have h2 : (uN z).testBit 0 = p I.toNat := by
    rw [← b I.toNat]
    have hz : z.toBitVec = x.toBitVec.sshiftRight I.toNat := by
      rw [e1, Int32.toBitVec_shiftRight, i32_of iE h, BitVec.sshiftRight_eq', sh_amt _ (by (first | decide +kernel | omega))]
    have h3 : z.toBitVec.getLsbD 0 = x.toBitVec.getLsbD (I.toNat + 0) := by
      rw [hz, BitVec.getLsbD_sshiftRight, if_pos (by (first | decide +kernel | omega))]
      rfl
    exact h3
  rw [Nat.testBit_zero] at h2
  have h4 : uN w < 2 := by rw [h1]; exact Nat.mod_lt _ (by decide)
  rw [← wE, uN_ti (by (first | decide +kernel | omega)), h1]
  by_cases q : uN z % 2 = 1
  · rw [decide_eq_true q] at h2
    rw [← h2, q]; rfl
  · rw [decide_eq_false q] at h2
    rw [← h2, show uN z % 2 = 0 by (first | decide +kernel | omega)]; rfl
theorem BS_ct {x : Int32} {p : Nat → Bool} (b : BS x p) : pcN 32 (uN x) = ct p 32 := by
  rw [pcN_ct]
  exact ct_cg 32 (fun i _ => b i)
def WQ (w b : Nat → Int32) (n : Int) (j : Nat) : Bool := decide ((j : Int) < n ∧ 0 < (w j).toInt ∧ (w j).toInt ≤ (b j).toInt)
theorem WQ_0 {w b : Nat → Int32} : BS 0 (WQ w b 0) := BS_cg BS_0 (fun j => (decide_eq_false (by (first | decide +kernel | omega))).symm)
theorem WQ_1 {w b : Nat → Int32} {x c s y : Int32} {n : Int} (r : BS x (WQ w b n)) (cE : c.toInt = n) (hn : 0 ≤ n ∧ n < 32) (g : 0 < (w n.toNat).toInt ∧ (w n.toNat).toInt ≤ (b n.toNat).toInt) (e1 : s = 1 <<< (c &&& 31)) (e2 : y = x ||| s) : BS y (WQ w b (n + 1)) := by
  rw [e2, e1]
  refine BS_cg (BS_or r (BS_one cE hn)) (fun j => ?_)
  unfold WQ
  by_cases q : j = n.toNat
  · subst q
    rw [decide_eq_true rfl, Bool.or_true, decide_eq_true ⟨by (first | decide +kernel | omega), g⟩]
  · rw [decide_eq_false q, Bool.or_false]
    exact decide_eq_decide.mpr ⟨fun k => ⟨by (first | decide +kernel | omega), k.2⟩, fun k => ⟨by (first | decide +kernel | omega), k.2⟩⟩
theorem WQ_n {w b : Nat → Int32} {x : Int32} {n : Int} (r : BS x (WQ w b n)) (hn : 0 ≤ n) (g : ¬ (0 < (w n.toNat).toInt ∧ (w n.toNat).toInt ≤ (b n.toNat).toInt)) : BS x (WQ w b (n + 1)) := by
  refine BS_cg r (fun j => ?_)
  unfold WQ
  refine decide_eq_decide.mpr ⟨fun k => ⟨by (first | decide +kernel | omega), k.2⟩, fun k => ⟨?_, k.2⟩⟩
  by_cases q : j = n.toNat
  · subst q; exact absurd k.2 g
  · omega
theorem ct_s {p : Nat → Bool} {n : Int} {a f : Int} (hn : 0 ≤ n) (h : a = (ct p n.toNat : Nat)) (hf : f = if p n.toNat then 1 else 0) : a + f = (ct p (n + 1).toNat : Nat) := by
  rw [show (n + 1).toNat = n.toNat + 1 by (first | decide +kernel | omega)]
  show _ = ((ct p n.toNat + (if p n.toNat then 1 else 0) : Nat) : Int)
  rw [h, hf]
  split <;> rfl
end
section
theorem WQ_fm {h : Hp} {n N R F : Int} {r z : Int32} (hn : 0 ≤ n ∧ n < N) (a : r.toInt = 1 ∧ bW (h.1 117 (0 + n).toNat) (h.1 117 (64 + n).toNat) ∨ r.toInt = 0 ∧ ¬ bW (h.1 117 (0 + n).toNat) (h.1 117 (64 + n).toNat)) (rE : r.toInt = R) (f : R ≠ 0 ∧ z.toInt = 1 ∨ R = 0 ∧ z.toInt = 0) (zE : z.toInt = F) : F = if WQ (fun i => h.1 117 i) (fun i => h.1 117 (64 + i)) N n.toNat then 1 else 0 := by
  rw [show (0 + n).toNat = n.toNat by (first | decide +kernel | omega), show (64 + n).toNat = 64 + n.toNat by (first | decide +kernel | omega)] at a
  have hW : WQ (fun i => h.1 117 i) (fun i => h.1 117 (64 + i)) N n.toNat = decide (((n.toNat : Nat) : Int) < N ∧ 0 < (h.1 117 n.toNat).toInt ∧ (h.1 117 n.toNat).toInt ≤ (h.1 117 (64 + n.toNat)).toInt) := rfl
  rcases a with ⟨a1, a2⟩ | ⟨a1, a2⟩
  · rw [hW, decide_eq_true ⟨by (first | decide +kernel | omega), a2⟩, if_pos rfl]; omega
  · rw [hW, decide_eq_false (fun k => a2 k.2), if_neg (by decide)]; omega
def CL (G : Prop) (a : Int) (f : Nat → Int32) (r : Int32) : Prop := ¬ (G ∧ 0 ≤ a ∧ a ≤ 5) ∧ r.toInt = -1 ∨ (G ∧ 0 ≤ a ∧ a ≤ 4) ∧ r = f a.toNat ∨ (G ∧ a = 5) ∧ (bW (f 0) (f 4) ∧ r.toInt = 1 ∨ ¬ bW (f 0) (f 4) ∧ r.toInt = 0)
theorem bc_sw {w b r z : Int32} {R : Int} (a : r.toInt = 1 ∧ bW w b ∨ r.toInt = 0 ∧ ¬ bW w b) (rE : r.toInt = R) (f : R ≠ 0 ∧ z.toInt = 1 ∨ R = 0 ∧ z.toInt = 0) : bW w b ∧ z.toInt = 1 ∨ ¬ bW w b ∧ z.toInt = 0 := by
  rcases a with ⟨a1, a2⟩ | ⟨a1, a2⟩
  · exact Or.inl ⟨a2, by (first | decide +kernel | omega)⟩
  · exact Or.inr ⟨a2, by (first | decide +kernel | omega)⟩
def BQ (b : Nat → Int32) (d n : Int) (j : Nat) : Bool := decide ((j : Int) < n ∧ d ≤ (b j).toInt)
theorem BQ_0 {b : Nat → Int32} {d : Int} : BS 0 (BQ b d 0) := BS_cg BS_0 (fun j => (decide_eq_false (by (first | decide +kernel | omega))).symm)
theorem BQ_1 {b : Nat → Int32} {x c s y z : Int32} {d n Y : Int} (r : BS x (BQ b d n)) (cE : c.toInt = n) (hn : 0 ≤ n ∧ n < 32) (ye : z = b n.toNat) (yE : z.toInt = Y) (g : d ≤ Y) (e1 : s = 1 <<< (c &&& 31)) (e2 : y = x ||| s) : BS y (BQ b d (n + 1)) := by
  rw [e2, e1]
  refine BS_cg (BS_or r (BS_one cE hn)) (fun j => ?_)
  unfold BQ
  by_cases q : j = n.toNat
  · subst q
    rw [decide_eq_true rfl, Bool.or_true, decide_eq_true ⟨by (first | decide +kernel | omega), by rw [← ye, yE]; exact g⟩]
  · rw [decide_eq_false q, Bool.or_false]
    exact decide_eq_decide.mpr ⟨fun k => ⟨by (first | decide +kernel | omega), k.2⟩, fun k => ⟨by (first | decide +kernel | omega), k.2⟩⟩
theorem BQ_n {b : Nat → Int32} {x z : Int32} {d n Y : Int} (r : BS x (BQ b d n)) (hn : 0 ≤ n) (ye : z = b n.toNat) (yE : z.toInt = Y) (g : Y < d) : BS x (BQ b d (n + 1)) := by
  refine BS_cg r (fun j => ?_)
  unfold BQ
  refine decide_eq_decide.mpr ⟨fun k => ⟨by (first | decide +kernel | omega), k.2⟩, fun k => ⟨?_, k.2⟩⟩
  by_cases q : j = n.toNat
  · subst q
    have := k.2
    rw [← ye, yE] at this
    omega
  · omega
theorem BQ_fm {h : Hp} {n N Y R F : Int} {y z : Int32} (hn : 0 ≤ n ∧ n < N) (ye : y = h.1 117 (64 + n).toNat) (yE : y.toInt = Y) (a : R = 1 ∧ 0 < Y ∨ R = 0 ∧ Y ≤ 0) (f : R ≠ 0 ∧ z.toInt = 1 ∨ R = 0 ∧ z.toInt = 0) (zE : z.toInt = F) : F = if BQ (fun i => h.1 117 (64 + i)) 1 N n.toNat then 1 else 0 := by
  rw [show (64 + n).toNat = 64 + n.toNat by (first | decide +kernel | omega)] at ye
  have hW : BQ (fun i => h.1 117 (64 + i)) 1 N n.toNat = decide (((n.toNat : Nat) : Int) < N ∧ 1 ≤ (h.1 117 (64 + n.toNat)).toInt) := rfl
  rw [hW, ← ye, yE]
  by_cases q : 1 ≤ Y
  · rw [decide_eq_true ⟨by (first | decide +kernel | omega), q⟩, if_pos rfl]; omega
  · rw [decide_eq_false (fun k => q k.2), if_neg (by decide)]; omega
def sm (p : Nat → Int32) : Nat → Int32
  | 0 => 0
  | n + 1 => sm p n + p n
theorem sm_s {p : Nat → Int32} {n : Int} {a y z : Int32} (hn : 0 ≤ n) (h : a = sm p n.toNat) (ye : y = p n.toNat) (e : z = a + y) : z = sm p (n + 1).toNat := by
  rw [show (n + 1).toNat = n.toNat + 1 by (first | decide +kernel | omega)]
  show z = sm p n.toNat + p n.toNat
  rw [e, h, ye]
end
section
abbrev q_Int_bitCountX (h : Hp) (v : Int32) (vZ : Int) : Option Value → Hp → Prop := pInt (fun r h' => h = h' ∧ (r.toInt = (pcN 32 (uN v) : Nat)))
set_option maxRecDepth 100000 in
theorem c_Int_bitCountX (h : Hp) (v : Int32) (vZ : Int) (vE : v.toInt = vZ) : Ct y_Int_bitCount b_Int_bitCount 1 (some .int) 0 0 [.int v] h (q_Int_bitCountX h v vZ) := by
  refine ct_ow R_Int [some (.int v)] rfl (by decide) rfl (Nat.le_of_ble_eq_true rfl) ?_
  have f0 : fr [] h h := fr_rf
  refine V_iload_n 0 d_Int_bitCount_0 rfl rfl ?_
  refine V_iload_n 0 d_Int_bitCount_1 rfl rfl ?_
  refine V_iconst 1 d_Int_bitCount_2 (by decide) ?_
  refine N_iushr d_Int_bitCount_3 (fun z1 z1Z z1E z1e => ?_)
  refine V_ldcw d_Int_bitCount_4 wc_Int_265 ?_
  refine N_iand d_Int_bitCount_7 (fun z2 z2Z z2E z2e => ?_)
  refine N_isubw d_Int_bitCount_8 (fun z3 z3Z z3E z3e => ?_)
  refine V_istore_n 0 [some (.int z3)] d_Int_bitCount_9 rfl (by decide) rfl rfl ?_
  refine V_iload_n 0 d_Int_bitCount_10 rfl rfl ?_
  refine V_ldcw d_Int_bitCount_11 wc_Int_266 ?_
  refine N_iand d_Int_bitCount_14 (fun z4 z4Z z4E z4e => ?_)
  refine V_iload_n 0 d_Int_bitCount_15 rfl rfl ?_
  refine V_iconst 2 d_Int_bitCount_16 (by decide) ?_
  refine N_iushr d_Int_bitCount_17 (fun z5 z5Z z5E z5e => ?_)
  refine V_ldcw d_Int_bitCount_18 wc_Int_266 ?_
  refine N_iand d_Int_bitCount_21 (fun z6 z6Z z6E z6e => ?_)
  refine N_iaddw d_Int_bitCount_22 (fun z7 z7Z z7E z7e => ?_)
  refine V_istore_n 0 [some (.int z7)] d_Int_bitCount_23 rfl (by decide) rfl rfl ?_
  refine V_iload_n 0 d_Int_bitCount_24 rfl rfl ?_
  refine V_iload_n 0 d_Int_bitCount_25 rfl rfl ?_
  refine V_iconst 4 d_Int_bitCount_26 (by decide) ?_
  refine N_iushr d_Int_bitCount_27 (fun z8 z8Z z8E z8e => ?_)
  refine N_iaddw d_Int_bitCount_28 (fun z9 z9Z z9E z9e => ?_)
  refine V_ldcw d_Int_bitCount_29 wc_Int_267 ?_
  refine N_iand d_Int_bitCount_32 (fun z10 z10Z z10E z10e => ?_)
  refine V_istore_n 0 [some (.int z10)] d_Int_bitCount_33 rfl (by decide) rfl rfl ?_
  refine V_iload_n 0 d_Int_bitCount_34 rfl rfl ?_
  refine V_iload_n 0 d_Int_bitCount_35 rfl rfl ?_
  refine V_bipush 8 d_Int_bitCount_36 (by decide) ?_
  refine N_iushr d_Int_bitCount_38 (fun z11 z11Z z11E z11e => ?_)
  refine N_iaddw d_Int_bitCount_39 (fun z12 z12Z z12E z12e => ?_)
  refine V_istore_n 0 [some (.int z12)] d_Int_bitCount_40 rfl (by decide) rfl rfl ?_
  refine V_iload_n 0 d_Int_bitCount_41 rfl rfl ?_
  refine V_iload_n 0 d_Int_bitCount_42 rfl rfl ?_
  refine V_bipush 16 d_Int_bitCount_43 (by decide) ?_
  refine N_iushr d_Int_bitCount_45 (fun z13 z13Z z13E z13e => ?_)
  refine N_iaddw d_Int_bitCount_46 (fun z14 z14Z z14E z14e => ?_)
  refine V_istore_n 0 [some (.int z14)] d_Int_bitCount_47 rfl (by decide) rfl rfl ?_
  refine V_iload_n 0 d_Int_bitCount_48 rfl rfl ?_
  refine V_bipush 63 d_Int_bitCount_49 (by decide) ?_
  refine N_iand d_Int_bitCount_51 (fun z15 z15Z z15E z15e => ?_)
  exact V_iret rfl d_Int_bitCount_52 ⟨z15, rfl, ⟨rfl, (bc_of z1e z2e z3e z4e z5e z6e z7e z8e z9e z10e z11e z12e z13e z14e z15e)⟩⟩
abbrev q_Land_isWellX_1 (h : Hp) (c : Int32) (cZ : Int) : Option Value → Hp → Prop := pInt (fun r h' => h = h' ∧ (r.toInt = 1 ∧ bW (h.1 19 cZ.toNat) (h.1 23 cZ.toNat) ∨ r.toInt = 0 ∧ ¬ bW (h.1 19 cZ.toNat) (h.1 23 cZ.toNat)))
set_option maxRecDepth 100000 in
theorem c_Land_isWellX_1 (h : Hp) (hI : Inv h) (c : Int32) (cZ : Int) (cE : c.toInt = cZ) (hy0 : 0 ≤ cZ ∧ cZ ≤ 15) : Ct y_Land_isWell b_Land_isWell 2 (some .boolean) 0 0 [.ref 18, .int c] h (q_Land_isWellX_1 h c cZ) := by
  refine ct_ow R_Land [some (.ref 18), some (.int c)] rfl (by decide) rfl (Nat.le_of_ble_eq_true rfl) ?_
  have f0 : fr [] h h := fr_rf
  obtain ⟨uv, uvZ, uvE, uvK⟩ : ∃ (y : Int32) (Y : Int), y.toInt = Y ∧ h.1 19 (cZ).toNat = y := ⟨_, _, rfl, rfl⟩
  obtain ⟨bv, bvZ, bvE, bvK⟩ : ∃ (y : Int32) (Y : Int), y.toInt = Y ∧ h.1 23 (cZ).toNat = y := ⟨_, _, rfl, rfl⟩
  refine V_aload_n 0 d_Land_isWell_0 rfl rfl ?_
  refine V_getR fa_Land_9 sk_18 rfl d_Land_isWell_1 ?_
  refine V_iload_n 1 d_Land_isWell_4 rfl rfl ?_
  refine N_ialdK sk_19 cE (by (first | decide +kernel | omega)) d_Land_isWell_5 uvK ?_
  refine V_if_le 28 uvE d_Land_isWell_6 (by decide) (fun c2 => ?_) (fun c2 => ?_)
  ·
    refine V_iconst 0 d_Land_isWell_28 (by decide) ?_
    exact V_zret rfl (by decide) d_Land_isWell_29 ⟨0, rfl, ⟨rfl, (by rw [uvK, bvK]; unfold bW; (try rw [show Int32.toInt 0 = 0 from rfl]); omega)⟩⟩
  ·
    refine V_aload_n 0 d_Land_isWell_9 rfl rfl ?_
    refine V_getR fa_Land_9 sk_18 rfl d_Land_isWell_10 ?_
    refine V_iload_n 1 d_Land_isWell_13 rfl rfl ?_
    refine N_ialdK sk_19 cE (by (first | decide +kernel | omega)) d_Land_isWell_14 uvK ?_
    refine V_aload_n 0 d_Land_isWell_15 rfl rfl ?_
    refine V_getR fa_Land_24 sk_18 rfl d_Land_isWell_16 ?_
    refine V_iload_n 1 d_Land_isWell_19 rfl rfl ?_
    refine N_ialdK sk_23 cE (by (first | decide +kernel | omega)) d_Land_isWell_20 bvK ?_
    refine V_icmp_gt 28 uvE bvE d_Land_isWell_21 (by decide) (fun c5 => ?_) (fun c5 => ?_)
    ·
      refine V_iconst 0 d_Land_isWell_28 (by decide) ?_
      exact V_zret rfl (by decide) d_Land_isWell_29 ⟨0, rfl, ⟨rfl, (by rw [uvK, bvK]; unfold bW; (try rw [show Int32.toInt 0 = 0 from rfl]); omega)⟩⟩
    ·
      refine V_iconst 1 d_Land_isWell_24 (by decide) ?_
      refine V_goto 29 d_Land_isWell_25 (by decide) ?_
      exact V_zret rfl (by decide) d_Land_isWell_29 ⟨1, rfl, ⟨rfl, (by rw [uvK, bvK]; unfold bW; (try rw [show Int32.toInt 1 = 1 from rfl]); omega)⟩⟩
abbrev q_Land_wellBitsX_0 (h : Hp) (w : Int32) (wZ : Int) (g : Int32) (gZ : Int) : Option Value → Hp → Prop := pInt (fun r h' => h = h' ∧ (BS r (WQ (h.1 2) (h.1 6) (wZ * gZ))))
set_option maxRecDepth 100000 in
theorem c_Land_wellBitsX_0 (h : Hp) (hI : Inv h) (w : Int32) (wZ : Int) (wE : w.toInt = wZ) (wK : h.1 1 0 = w) (g : Int32) (gZ : Int) (gE : g.toInt = gZ) (gK : h.1 1 1 = g) : Ct y_Land_wellBits b_Land_wellBits 3 (some .int) 1 21 [.ref 1] h (q_Land_wellBitsX_0 h w wZ g gZ) := by
  refine ct_ow R_Land [some (.ref 1), none, none] rfl (by decide) rfl (Nat.le_of_ble_eq_true rfl) ?_
  have f0 : fr [] h h := fr_rf
  have g1 : 2 ≤ wZ ∧ wZ ≤ 4 := inv_at hI wE wK.symm rfl
  have g2 : 2 ≤ gZ ∧ gZ ≤ 4 := inv_at hI gE gK.symm rfl
  have m24 := mul24 (A := wZ) (B := gZ) (by (first | decide +kernel | omega)) (by (first | decide +kernel | omega))
  refine V_iconst 0 d_Land_wellBits_0 (by decide) ?_
  refine V_istore_n 1 [some (.ref 1), some (.int 0), none] d_Land_wellBits_1 rfl (by decide) rfl rfl ?_
  refine V_iconst 0 d_Land_wellBits_2 (by decide) ?_
  refine V_istore_n 2 [some (.ref 1), some (.int 0), some (.int 0)] d_Land_wellBits_3 rfl (by decide) rfl rfl ?_
  have L3 : ∀ (nn : Nat) (v5 : Int32) (v5Z : Int) (v6 : Int32) (v6Z : Int), v5.toInt = v5Z → v6.toInt = v6Z → 0 ≤ v6Z ∧ v6Z ≤ wZ * gZ → BS v5 (WQ (h.1 2) (h.1 6) v6Z) → 16 - v6Z < (nn : Int) → V R_Land b_Land_wellBits 3 (some .int) 1 21 (q_Land_wellBitsX_0 h w wZ g gZ) h 4 [some (.ref 1), some (.int v5), some (.int v6)] [] := by
    intro nn
    induction nn with
    | zero => intro v5 v5Z v6 v6Z v5E v6E q7 q8 hm9; exact absurd hm9 (by (first | decide +kernel | omega))
    | succ nn ihL3 =>
      intro v5 v5Z v6 v6Z v5E v6E q7 q8 hm9
      refine V_iload_n 2 d_Land_wellBits_4 rfl rfl ?_
      refine V_aload_n 0 d_Land_wellBits_5 rfl rfl ?_
      refine N_callVI [] [.int v6] cv_Land_52 sk_1 rfl d_Land_wellBits_6 rfl (Nat.le_of_ble_eq_true rfl) (by decide) (by decide) (c_Land_cells_0 h hI w wZ wE wK g gZ gE gK) (fun z10 h11 z10Z z10E p12 => ?_)
      obtain ⟨eh11, p12⟩ := p12
      subst eh11
      refine V_icmp_ge 32 v6E z10E d_Land_wellBits_9 (by decide) (fun c13 => ?_) (fun c13 => ?_)
      ·
        refine V_iload_n 1 d_Land_wellBits_32 rfl rfl ?_
        exact V_iret rfl d_Land_wellBits_33 ⟨v5, rfl, ⟨rfl, (by rw [show wZ * gZ = v6Z by (first | decide +kernel | omega)]; assumption)⟩⟩
      ·
        refine V_aload_n 0 d_Land_wellBits_12 rfl rfl ?_
        refine V_iload_n 2 d_Land_wellBits_13 rfl rfl ?_
        refine N_callVI [.int v6] [] cv_Land_56 sk_1 rfl d_Land_wellBits_14 rfl (Nat.le_of_ble_eq_true rfl) (by decide) (by decide) (c_Land_isWellX_0 h hI v6 v6Z v6E (by (first | decide +kernel | omega))) (fun z14 h15 z14Z z14E p16 => ?_)
        obtain ⟨eh15, p16⟩ := p16
        subst eh15
        refine V_if_eq 26 z14E d_Land_wellBits_17 (by decide) (fun c17 => ?_) (fun c17 => ?_)
        ·
          obtain ⟨z18, z18E, z18e⟩ : ∃ y : Int32, y.toInt = v6Z + 1 ∧ y = v6 + Int32.ofInt 1 := ⟨_, ti_add v6E (by decide) (by (first | decide +kernel | omega)), rfl⟩
          refine V_iinc 2 [some (.ref 1), some (.int v5), some (.int z18)] d_Land_wellBits_26 rfl z18e.symm (by decide) rfl rfl ?_
          refine V_goto 4 d_Land_wellBits_29 (by decide) ?_
          exact ihL3 v5 v5Z z18 ((v6Z + 1)) v5E z18E (by (first | decide +kernel | omega)) (WQ_n (by assumption) (by (first | decide +kernel | omega)) (p16.resolve_left (fun q => absurd q.1 (by (first | decide +kernel | omega)))).2) (by (first | decide +kernel | omega))
        ·
          refine V_iload_n 1 d_Land_wellBits_20 rfl rfl ?_
          refine V_iconst 1 d_Land_wellBits_21 (by decide) ?_
          refine V_iload_n 2 d_Land_wellBits_22 rfl rfl ?_
          refine N_ishl d_Land_wellBits_23 (fun z19 z19Z z19E z19e => ?_)
          refine N_ior d_Land_wellBits_24 (fun z20 z20Z z20E z20e => ?_)
          refine V_istore_n 1 [some (.ref 1), some (.int z20), some (.int v6)] d_Land_wellBits_25 rfl (by decide) rfl rfl ?_
          obtain ⟨z21, z21E, z21e⟩ : ∃ y : Int32, y.toInt = v6Z + 1 ∧ y = v6 + Int32.ofInt 1 := ⟨_, ti_add v6E (by decide) (by (first | decide +kernel | omega)), rfl⟩
          refine V_iinc 2 [some (.ref 1), some (.int z20), some (.int z21)] d_Land_wellBits_26 rfl z21e.symm (by decide) rfl rfl ?_
          refine V_goto 4 d_Land_wellBits_29 (by decide) ?_
          exact ihL3 z20 z20Z z21 ((v6Z + 1)) z20E z21E (by (first | decide +kernel | omega)) (WQ_1 (by assumption) v6E (by (first | decide +kernel | omega)) (p16.resolve_right (fun q => absurd q.1 (by (first | decide +kernel | omega)))).2 z19e z20e) (by (first | decide +kernel | omega))
  exact L3 (Int.toNat ((16 - 0 : Int) + 1)) 0 0 0 0 tc_0 tc_0 (by (first | decide +kernel | omega)) WQ_0 (by (first | decide +kernel | omega))
abbrev q_Land_wellsX_0 (h : Hp) (w : Int32) (wZ : Int) (g : Int32) (gZ : Int) : Option Value → Hp → Prop := pInt (fun r h' => h = h' ∧ (r.toInt = (ct (WQ (h.1 2) (h.1 6) (wZ * gZ)) 32 : Nat)))
set_option maxRecDepth 100000 in
theorem c_Land_wellsX_0 (h : Hp) (hI : Inv h) (w : Int32) (wZ : Int) (wE : w.toInt = wZ) (wK : h.1 1 0 = w) (g : Int32) (gZ : Int) (gE : g.toInt = gZ) (gK : h.1 1 1 = g) : Ct y_Land_wells b_Land_wells 1 (some .int) 2 43 [.ref 1] h (q_Land_wellsX_0 h w wZ g gZ) := by
  refine ct_ow R_Land [some (.ref 1)] rfl (by decide) rfl (Nat.le_of_ble_eq_true rfl) ?_
  have f0 : fr [] h h := fr_rf
  have g1 : 2 ≤ wZ ∧ wZ ≤ 4 := inv_at hI wE wK.symm rfl
  have g2 : 2 ≤ gZ ∧ gZ ≤ 4 := inv_at hI gE gK.symm rfl
  refine V_aload_n 0 d_Land_wells_0 rfl rfl ?_
  refine N_callVI [] [] cv_Land_60 sk_1 rfl d_Land_wells_1 rfl (Nat.le_of_ble_eq_true rfl) (by decide) (by decide) (c_Land_wellBitsX_0 h hI w wZ wE wK g gZ gE gK) (fun z3 h4 z3Z z3E p5 => ?_)
  obtain ⟨eh4, p5⟩ := p5
  subst eh4
  refine N_callSI [.int z3] [] cs_Land_63 d_Land_wells_4 rfl (Nat.le_of_ble_eq_true rfl) (by decide) (by decide) (c_Int_bitCountX h z3 z3Z z3E) (fun z6 h7 z6Z z6E p8 => ?_)
  obtain ⟨eh7, p8⟩ := p8
  subst eh7
  exact V_iret rfl d_Land_wells_7 ⟨z6, rfl, ⟨rfl, (p8.trans (congrArg (fun q : Nat => (q : Int)) (BS_ct p5)))⟩⟩
abbrev q_Land_wellBitsX_1 (h : Hp) (w : Int32) (wZ : Int) (g : Int32) (gZ : Int) : Option Value → Hp → Prop := pInt (fun r h' => h = h' ∧ (BS r (WQ (h.1 19) (h.1 23) (wZ * gZ))))
set_option maxRecDepth 100000 in
theorem c_Land_wellBitsX_1 (h : Hp) (hI : Inv h) (w : Int32) (wZ : Int) (wE : w.toInt = wZ) (wK : h.1 18 0 = w) (g : Int32) (gZ : Int) (gE : g.toInt = gZ) (gK : h.1 18 1 = g) : Ct y_Land_wellBits b_Land_wellBits 3 (some .int) 1 21 [.ref 18] h (q_Land_wellBitsX_1 h w wZ g gZ) := by
  refine ct_ow R_Land [some (.ref 18), none, none] rfl (by decide) rfl (Nat.le_of_ble_eq_true rfl) ?_
  have f0 : fr [] h h := fr_rf
  have g1 : 2 ≤ wZ ∧ wZ ≤ 4 := inv_at hI wE wK.symm rfl
  have g2 : 2 ≤ gZ ∧ gZ ≤ 4 := inv_at hI gE gK.symm rfl
  have m24 := mul24 (A := wZ) (B := gZ) (by (first | decide +kernel | omega)) (by (first | decide +kernel | omega))
  refine V_iconst 0 d_Land_wellBits_0 (by decide) ?_
  refine V_istore_n 1 [some (.ref 18), some (.int 0), none] d_Land_wellBits_1 rfl (by decide) rfl rfl ?_
  refine V_iconst 0 d_Land_wellBits_2 (by decide) ?_
  refine V_istore_n 2 [some (.ref 18), some (.int 0), some (.int 0)] d_Land_wellBits_3 rfl (by decide) rfl rfl ?_
  have L3 : ∀ (nn : Nat) (v5 : Int32) (v5Z : Int) (v6 : Int32) (v6Z : Int), v5.toInt = v5Z → v6.toInt = v6Z → 0 ≤ v6Z ∧ v6Z ≤ wZ * gZ → BS v5 (WQ (h.1 19) (h.1 23) v6Z) → 16 - v6Z < (nn : Int) → V R_Land b_Land_wellBits 3 (some .int) 1 21 (q_Land_wellBitsX_1 h w wZ g gZ) h 4 [some (.ref 18), some (.int v5), some (.int v6)] [] := by
    intro nn
    induction nn with
    | zero => intro v5 v5Z v6 v6Z v5E v6E q7 q8 hm9; exact absurd hm9 (by (first | decide +kernel | omega))
    | succ nn ihL3 =>
      intro v5 v5Z v6 v6Z v5E v6E q7 q8 hm9
      refine V_iload_n 2 d_Land_wellBits_4 rfl rfl ?_
      refine V_aload_n 0 d_Land_wellBits_5 rfl rfl ?_
      refine N_callVI [] [.int v6] cv_Land_52 sk_18 rfl d_Land_wellBits_6 rfl (Nat.le_of_ble_eq_true rfl) (by decide) (by decide) (c_Land_cells_1 h hI w wZ wE wK g gZ gE gK) (fun z10 h11 z10Z z10E p12 => ?_)
      obtain ⟨eh11, p12⟩ := p12
      subst eh11
      refine V_icmp_ge 32 v6E z10E d_Land_wellBits_9 (by decide) (fun c13 => ?_) (fun c13 => ?_)
      ·
        refine V_iload_n 1 d_Land_wellBits_32 rfl rfl ?_
        exact V_iret rfl d_Land_wellBits_33 ⟨v5, rfl, ⟨rfl, (by rw [show wZ * gZ = v6Z by (first | decide +kernel | omega)]; assumption)⟩⟩
      ·
        refine V_aload_n 0 d_Land_wellBits_12 rfl rfl ?_
        refine V_iload_n 2 d_Land_wellBits_13 rfl rfl ?_
        refine N_callVI [.int v6] [] cv_Land_56 sk_18 rfl d_Land_wellBits_14 rfl (Nat.le_of_ble_eq_true rfl) (by decide) (by decide) (c_Land_isWellX_1 h hI v6 v6Z v6E (by (first | decide +kernel | omega))) (fun z14 h15 z14Z z14E p16 => ?_)
        obtain ⟨eh15, p16⟩ := p16
        subst eh15
        refine V_if_eq 26 z14E d_Land_wellBits_17 (by decide) (fun c17 => ?_) (fun c17 => ?_)
        ·
          obtain ⟨z18, z18E, z18e⟩ : ∃ y : Int32, y.toInt = v6Z + 1 ∧ y = v6 + Int32.ofInt 1 := ⟨_, ti_add v6E (by decide) (by (first | decide +kernel | omega)), rfl⟩
          refine V_iinc 2 [some (.ref 18), some (.int v5), some (.int z18)] d_Land_wellBits_26 rfl z18e.symm (by decide) rfl rfl ?_
          refine V_goto 4 d_Land_wellBits_29 (by decide) ?_
          exact ihL3 v5 v5Z z18 ((v6Z + 1)) v5E z18E (by (first | decide +kernel | omega)) (WQ_n (by assumption) (by (first | decide +kernel | omega)) (p16.resolve_left (fun q => absurd q.1 (by (first | decide +kernel | omega)))).2) (by (first | decide +kernel | omega))
        ·
          refine V_iload_n 1 d_Land_wellBits_20 rfl rfl ?_
          refine V_iconst 1 d_Land_wellBits_21 (by decide) ?_
          refine V_iload_n 2 d_Land_wellBits_22 rfl rfl ?_
          refine N_ishl d_Land_wellBits_23 (fun z19 z19Z z19E z19e => ?_)
          refine N_ior d_Land_wellBits_24 (fun z20 z20Z z20E z20e => ?_)
          refine V_istore_n 1 [some (.ref 18), some (.int z20), some (.int v6)] d_Land_wellBits_25 rfl (by decide) rfl rfl ?_
          obtain ⟨z21, z21E, z21e⟩ : ∃ y : Int32, y.toInt = v6Z + 1 ∧ y = v6 + Int32.ofInt 1 := ⟨_, ti_add v6E (by decide) (by (first | decide +kernel | omega)), rfl⟩
          refine V_iinc 2 [some (.ref 18), some (.int z20), some (.int z21)] d_Land_wellBits_26 rfl z21e.symm (by decide) rfl rfl ?_
          refine V_goto 4 d_Land_wellBits_29 (by decide) ?_
          exact ihL3 z20 z20Z z21 ((v6Z + 1)) z20E z21E (by (first | decide +kernel | omega)) (WQ_1 (by assumption) v6E (by (first | decide +kernel | omega)) (p16.resolve_right (fun q => absurd q.1 (by (first | decide +kernel | omega)))).2 z19e z20e) (by (first | decide +kernel | omega))
  exact L3 (Int.toNat ((16 - 0 : Int) + 1)) 0 0 0 0 tc_0 tc_0 (by (first | decide +kernel | omega)) WQ_0 (by (first | decide +kernel | omega))
abbrev q_Land_wellsX_1 (h : Hp) (w : Int32) (wZ : Int) (g : Int32) (gZ : Int) : Option Value → Hp → Prop := pInt (fun r h' => h = h' ∧ (r.toInt = (ct (WQ (h.1 19) (h.1 23) (wZ * gZ)) 32 : Nat)))
set_option maxRecDepth 100000 in
theorem c_Land_wellsX_1 (h : Hp) (hI : Inv h) (w : Int32) (wZ : Int) (wE : w.toInt = wZ) (wK : h.1 18 0 = w) (g : Int32) (gZ : Int) (gE : g.toInt = gZ) (gK : h.1 18 1 = g) : Ct y_Land_wells b_Land_wells 1 (some .int) 2 43 [.ref 18] h (q_Land_wellsX_1 h w wZ g gZ) := by
  refine ct_ow R_Land [some (.ref 18)] rfl (by decide) rfl (Nat.le_of_ble_eq_true rfl) ?_
  have f0 : fr [] h h := fr_rf
  have g1 : 2 ≤ wZ ∧ wZ ≤ 4 := inv_at hI wE wK.symm rfl
  have g2 : 2 ≤ gZ ∧ gZ ≤ 4 := inv_at hI gE gK.symm rfl
  refine V_aload_n 0 d_Land_wells_0 rfl rfl ?_
  refine N_callVI [] [] cv_Land_60 sk_18 rfl d_Land_wells_1 rfl (Nat.le_of_ble_eq_true rfl) (by decide) (by decide) (c_Land_wellBitsX_1 h hI w wZ wE wK g gZ gE gK) (fun z3 h4 z3Z z3E p5 => ?_)
  obtain ⟨eh4, p5⟩ := p5
  subst eh4
  refine N_callSI [.int z3] [] cs_Land_63 d_Land_wells_4 rfl (Nat.le_of_ble_eq_true rfl) (by decide) (by decide) (c_Int_bitCountX h z3 z3Z z3E) (fun z6 h7 z6Z z6E p8 => ?_)
  obtain ⟨eh7, p8⟩ := p8
  subst eh7
  exact V_iret rfl d_Land_wells_7 ⟨z6, rfl, ⟨rfl, (p8.trans (congrArg (fun q : Nat => (q : Int)) (BS_ct p5)))⟩⟩
abbrev q_Mod_wellsX (h : Hp) (w : Int32) (wZ : Int) (g : Int32) (gZ : Int) : Option Value → Hp → Prop := pInt (fun r h' => h = h' ∧ (r.toInt = (ct (WQ (fun i => h.1 117 i) (fun i => h.1 117 (64 + i)) (wZ * gZ)) (wZ * gZ).toNat : Nat)))
set_option maxRecDepth 100000 in
theorem c_Mod_wellsX (h : Hp) (hI : Inv h) (w : Int32) (wZ : Int) (wE : w.toInt = wZ) (wK : h.1 116 2 = w) (g : Int32) (gZ : Int) (gE : g.toInt = gZ) (gK : h.1 116 3 = g) : Ct y_Mod_wells b_Mod_wells 3 (some .int) 2 42 [.ref 116] h (q_Mod_wellsX h w wZ g gZ) := by
  refine ct_ow R_Mod [some (.ref 116), none, none] rfl (by decide) rfl (Nat.le_of_ble_eq_true rfl) ?_
  have f0 : fr [] h h := fr_rf
  have g1 : 2 ≤ wZ ∧ wZ ≤ 4 := inv_at hI wE wK.symm rfl
  have g2 : 2 ≤ gZ ∧ gZ ≤ 4 := inv_at hI gE gK.symm rfl
  have m24 := mul24 (A := wZ) (B := gZ) (by (first | decide +kernel | omega)) (by (first | decide +kernel | omega))
  refine V_iconst 0 d_Mod_wells_0 (by decide) ?_
  refine V_istore_n 1 [some (.ref 116), some (.int 0), none] d_Mod_wells_1 rfl (by decide) rfl rfl ?_
  refine V_iconst 0 d_Mod_wells_2 (by decide) ?_
  refine V_istore_n 2 [some (.ref 116), some (.int 0), some (.int 0)] d_Mod_wells_3 rfl (by decide) rfl rfl ?_
  have L3 : ∀ (nn : Nat) (v5 : Int32) (v5Z : Int) (v6 : Int32) (v6Z : Int), v5.toInt = v5Z → v6.toInt = v6Z → 0 ≤ v6Z ∧ v6Z ≤ wZ * gZ → v5Z = (ct (WQ (fun i => h.1 117 i) (fun i => h.1 117 (64 + i)) (wZ * gZ)) (v6Z).toNat : Nat) → 0 ≤ v5Z ∧ v5Z ≤ v6Z → 16 - v6Z < (nn : Int) → V R_Mod b_Mod_wells 3 (some .int) 2 42 (q_Mod_wellsX h w wZ g gZ) h 4 [some (.ref 116), some (.int v5), some (.int v6)] [] := by
    intro nn
    induction nn with
    | zero => intro v5 v5Z v6 v6Z v5E v6E q7 q8 q9 hm10; exact absurd hm10 (by (first | decide +kernel | omega))
    | succ nn ihL3 =>
      intro v5 v5Z v6 v6Z v5E v6E q7 q8 q9 hm10
      refine V_iload_n 2 d_Mod_wells_4 rfl rfl ?_
      refine V_aload_n 0 d_Mod_wells_5 rfl rfl ?_
      refine N_callVI [] [.int v6] cv_Mod_183 sk_116 rfl d_Mod_wells_6 rfl (Nat.le_of_ble_eq_true rfl) (by decide) (by decide) (c_Mod_cellMany h hI w wZ wE wK g gZ gE gK) (fun z11 h12 z11Z z11E p13 => ?_)
      obtain ⟨eh12, p13⟩ := p13
      subst eh12
      refine V_icmp_ge 29 v6E z11E d_Mod_wells_9 (by decide) (fun c14 => ?_) (fun c14 => ?_)
      ·
        refine V_iload_n 1 d_Mod_wells_29 rfl rfl ?_
        exact V_iret rfl d_Mod_wells_30 ⟨v5, rfl, ⟨rfl, (by rw [v5E, show (wZ * gZ).toNat = (v6Z).toNat by (first | decide +kernel | omega)]; assumption)⟩⟩
      ·
        refine V_iload_n 1 d_Mod_wells_12 rfl rfl ?_
        refine V_aload_n 0 d_Mod_wells_13 rfl rfl ?_
        refine V_iload_n 2 d_Mod_wells_14 rfl rfl ?_
        refine N_callVI [.int v6] [.int v5] cv_Mod_192 sk_116 rfl d_Mod_wells_15 rfl (Nat.le_of_ble_eq_true rfl) (by decide) (by decide) (c_Mod_isWellX h hI v6 v6Z v6E (by (first | decide +kernel | omega))) (fun z15 h16 z15Z z15E p17 => ?_)
        obtain ⟨eh16, p17⟩ := p17
        subst eh16
        refine N_callSI [.int z15] [.int v5] cs_Mod_196 d_Mod_wells_18 rfl (Nat.le_of_ble_eq_true rfl) (by decide) (by decide) (c_Mod_flag h z15 z15Z z15E) (fun z18 h19 z18Z z18E p20 => ?_)
        obtain ⟨eh19, p20⟩ := p20
        subst eh19
        refine V_iadd v5E z18E (by (first | decide +kernel | omega)) d_Mod_wells_21 (fun z21 z21e z21E => ?_)
        refine V_istore_n 1 [some (.ref 116), some (.int z21), some (.int v6)] d_Mod_wells_22 rfl (by decide) rfl rfl ?_
        obtain ⟨z22, z22E, z22e⟩ : ∃ y : Int32, y.toInt = v6Z + 1 ∧ y = v6 + Int32.ofInt 1 := ⟨_, ti_add v6E (by decide) (by (first | decide +kernel | omega)), rfl⟩
        refine V_iinc 2 [some (.ref 116), some (.int z21), some (.int z22)] d_Mod_wells_23 rfl z22e.symm (by decide) rfl rfl ?_
        refine V_goto 4 d_Mod_wells_26 (by decide) ?_
        exact ihL3 z21 ((v5Z + z18Z)) z22 ((v6Z + 1)) z21E z22E (by (first | decide +kernel | omega)) (ct_s (by (first | decide +kernel | omega)) (by assumption) (WQ_fm (by (first | decide +kernel | omega)) p17 z15E p20 z18E)) (by (first | decide +kernel | omega)) (by (first | decide +kernel | omega))
  exact L3 (Int.toNat ((16 - 0 : Int) + 1)) 0 0 0 0 tc_0 tc_0 (by (first | decide +kernel | omega)) rfl (by (first | decide +kernel | omega)) (by (first | decide +kernel | omega))
abbrev q_Rod_cellX (h : Hp) (c : Int32) (cZ : Int) (a : Int32) (aZ : Int) (w : Int32) (wZ : Int) (g : Int32) (gZ : Int) : Option Value → Hp → Prop := pInt (fun r h' => h = h' ∧ (CL (0 ≤ cZ ∧ cZ < wZ * gZ) aZ (fun j => h.1 (2 + j) cZ.toNat) r))
set_option maxRecDepth 100000 in
theorem c_Rod_cellX (h : Hp) (hI : Inv h) (c : Int32) (cZ : Int) (cE : c.toInt = cZ) (a : Int32) (aZ : Int) (aE : a.toInt = aZ) (w : Int32) (wZ : Int) (wE : w.toInt = wZ) (wK : h.1 1 0 = w) (g : Int32) (gZ : Int) (gE : g.toInt = gZ) (gK : h.1 1 1 = g) : Ct y_Rod_cell b_Rod_cell 4 (some .int) 2 41 [.ref 85, .int c, .int a] h (q_Rod_cellX h c cZ a aZ w wZ g gZ) := by
  refine ct_ow R_Rod [some (.ref 85), some (.int c), some (.int a), none] rfl (by decide) rfl (Nat.le_of_ble_eq_true rfl) ?_
  have f0 : fr [] h h := fr_rf
  have g1 : 2 ≤ wZ ∧ wZ ≤ 4 := inv_at hI wE wK.symm rfl
  have g2 : 2 ≤ gZ ∧ gZ ≤ 4 := inv_at hI gE gK.symm rfl
  refine V_aload_n 0 d_Rod_cell_0 rfl rfl ?_
  refine V_getR fa_Rod_12 sk_85 rfl d_Rod_cell_1 ?_
  refine V_getR fa_Rod_91 sk_0 rfl d_Rod_cell_4 ?_
  refine V_astore_n 3 [some (.ref 85), some (.int c), some (.int a), some (.ref 1)] d_Rod_cell_7 rfl (by decide) rfl rfl ?_
  refine V_aload_n 3 d_Rod_cell_8 rfl rfl ?_
  refine V_iload_n 1 d_Rod_cell_9 rfl rfl ?_
  refine N_callVI [.int c] [] cv_Rod_124 sk_1 rfl d_Rod_cell_10 rfl (Nat.le_of_ble_eq_true rfl) (by decide) (by decide) (c_Land_hasX_0 h hI c cZ cE w wZ wE wK g gZ gE gK) (fun z3 h4 z3Z z3E p5 => ?_)
  obtain ⟨eh4, p5⟩ := p5
  subst eh4
  refine V_if_ne 18 z3E d_Rod_cell_13 (by decide) (fun c6 => ?_) (fun c6 => ?_)
  ·
    refine V_iload_n 2 d_Rod_cell_18 rfl rfl ?_
    rcases (by (first | decide +kernel | omega) : (aZ < 0 ∨ 5 < aZ) ∨ aZ = 0 ∨ aZ = 1 ∨ aZ = 2 ∨ aZ = 3 ∨ aZ = 4 ∨ aZ = 5) with c7 | c7 | c7 | c7 | c7 | c7 | c7
    ·
      refine V_tabOut 100 aE d_Rod_cell_19 c7 (by decide) ?_
      refine V_iconst (-1) d_Rod_cell_100 (by decide) ?_
      exact V_iret rfl d_Rod_cell_101 ⟨(-1), rfl, ⟨rfl, (Or.inl ⟨by (first | decide +kernel | omega), tc_m1⟩)⟩⟩
    ·
      refine V_tabIn 56 aE d_Rod_cell_19 (by (first | decide +kernel | omega)) (by (first | decide +kernel | omega)) (by rw [c7]; rfl) (by decide) ?_
      refine V_aload_n 3 d_Rod_cell_56 rfl rfl ?_
      refine V_getR fa_Rod_128 sk_1 rfl d_Rod_cell_57 ?_
      refine V_iload_n 1 d_Rod_cell_60 rfl rfl ?_
      refine N_iald sk_2 cE (by (first | decide +kernel | omega)) d_Rod_cell_61 (fun z8 z8Z z8E z8e => ?_)
      exact V_iret rfl d_Rod_cell_62 ⟨z8, rfl, ⟨rfl, (Or.inr (Or.inl ⟨by (first | decide +kernel | omega), by rw [show aZ.toNat = 0 by (first | decide +kernel | omega)]; exact z8e⟩))⟩⟩
    ·
      refine V_tabIn 63 aE d_Rod_cell_19 (by (first | decide +kernel | omega)) (by (first | decide +kernel | omega)) (by rw [c7]; rfl) (by decide) ?_
      refine V_aload_n 3 d_Rod_cell_63 rfl rfl ?_
      refine V_getR fa_Rod_132 sk_1 rfl d_Rod_cell_64 ?_
      refine V_iload_n 1 d_Rod_cell_67 rfl rfl ?_
      refine N_iald sk_3 cE (by (first | decide +kernel | omega)) d_Rod_cell_68 (fun z9 z9Z z9E z9e => ?_)
      exact V_iret rfl d_Rod_cell_69 ⟨z9, rfl, ⟨rfl, (Or.inr (Or.inl ⟨by (first | decide +kernel | omega), by rw [show aZ.toNat = 1 by (first | decide +kernel | omega)]; exact z9e⟩))⟩⟩
    ·
      refine V_tabIn 70 aE d_Rod_cell_19 (by (first | decide +kernel | omega)) (by (first | decide +kernel | omega)) (by rw [c7]; rfl) (by decide) ?_
      refine V_aload_n 3 d_Rod_cell_70 rfl rfl ?_
      refine V_getR fa_Rod_135 sk_1 rfl d_Rod_cell_71 ?_
      refine V_iload_n 1 d_Rod_cell_74 rfl rfl ?_
      refine N_iald sk_4 cE (by (first | decide +kernel | omega)) d_Rod_cell_75 (fun z10 z10Z z10E z10e => ?_)
      exact V_iret rfl d_Rod_cell_76 ⟨z10, rfl, ⟨rfl, (Or.inr (Or.inl ⟨by (first | decide +kernel | omega), by rw [show aZ.toNat = 2 by (first | decide +kernel | omega)]; exact z10e⟩))⟩⟩
    ·
      refine V_tabIn 77 aE d_Rod_cell_19 (by (first | decide +kernel | omega)) (by (first | decide +kernel | omega)) (by rw [c7]; rfl) (by decide) ?_
      refine V_aload_n 3 d_Rod_cell_77 rfl rfl ?_
      refine V_getR fa_Rod_138 sk_1 rfl d_Rod_cell_78 ?_
      refine V_iload_n 1 d_Rod_cell_81 rfl rfl ?_
      refine N_iald sk_5 cE (by (first | decide +kernel | omega)) d_Rod_cell_82 (fun z11 z11Z z11E z11e => ?_)
      exact V_iret rfl d_Rod_cell_83 ⟨z11, rfl, ⟨rfl, (Or.inr (Or.inl ⟨by (first | decide +kernel | omega), by rw [show aZ.toNat = 3 by (first | decide +kernel | omega)]; exact z11e⟩))⟩⟩
    ·
      refine V_tabIn 84 aE d_Rod_cell_19 (by (first | decide +kernel | omega)) (by (first | decide +kernel | omega)) (by rw [c7]; rfl) (by decide) ?_
      refine V_aload_n 3 d_Rod_cell_84 rfl rfl ?_
      refine V_getR fa_Rod_141 sk_1 rfl d_Rod_cell_85 ?_
      refine V_iload_n 1 d_Rod_cell_88 rfl rfl ?_
      refine N_iald sk_6 cE (by (first | decide +kernel | omega)) d_Rod_cell_89 (fun z12 z12Z z12E z12e => ?_)
      exact V_iret rfl d_Rod_cell_90 ⟨z12, rfl, ⟨rfl, (Or.inr (Or.inl ⟨by (first | decide +kernel | omega), by rw [show aZ.toNat = 4 by (first | decide +kernel | omega)]; exact z12e⟩))⟩⟩
    ·
      refine V_tabIn 91 aE d_Rod_cell_19 (by (first | decide +kernel | omega)) (by (first | decide +kernel | omega)) (by rw [c7]; rfl) (by decide) ?_
      refine V_aload_n 3 d_Rod_cell_91 rfl rfl ?_
      refine V_iload_n 1 d_Rod_cell_92 rfl rfl ?_
      refine N_callVI [.int c] [] cv_Rod_144 sk_1 rfl d_Rod_cell_93 rfl (Nat.le_of_ble_eq_true rfl) (by decide) (by decide) (c_Land_isWellX_0 h hI c cZ cE (by (first | decide +kernel | omega))) (fun z13 h14 z13Z z13E p15 => ?_)
      obtain ⟨eh14, p15⟩ := p15
      subst eh14
      refine N_callSI [.int z13] [] cs_Rod_147 d_Rod_cell_96 rfl (Nat.le_of_ble_eq_true rfl) (by decide) (by decide) (c_Rod_oneIf h z13 z13Z z13E) (fun z16 h17 z16Z z16E p18 => ?_)
      obtain ⟨eh17, p18⟩ := p18
      subst eh17
      exact V_iret rfl d_Rod_cell_99 ⟨z16, rfl, ⟨rfl, (Or.inr (Or.inr ⟨by (first | decide +kernel | omega), bc_sw p15 z13E p18⟩))⟩⟩
  ·
    refine V_iconst (-1) d_Rod_cell_16 (by decide) ?_
    exact V_iret rfl d_Rod_cell_17 ⟨(-1), rfl, ⟨rfl, (Or.inl ⟨by (first | decide +kernel | omega), tc_m1⟩)⟩⟩
abbrev q_Mod_isWellY (h : Hp) (c : Int32) (cZ : Int) : Option Value → Hp → Prop := pInt (fun r h' => h = h' ∧ (r.toInt = 1 ∧ bW (h.1 117 (16 * 0 + cZ.toNat)) (h.1 117 (16 * 4 + cZ.toNat)) ∨ r.toInt = 0 ∧ ¬ bW (h.1 117 (16 * 0 + cZ.toNat)) (h.1 117 (16 * 4 + cZ.toNat))))
set_option maxRecDepth 100000 in
theorem c_Mod_isWellY (h : Hp) (hI : Inv h) (c : Int32) (cZ : Int) (cE : c.toInt = cZ) (hy0 : 0 ≤ cZ ∧ cZ ≤ 15) : Ct y_Mod_isWell b_Mod_isWell 2 (some .boolean) 1 21 [.ref 116, .int c] h (q_Mod_isWellY h c cZ) := by
  refine ct_ow R_Mod [some (.ref 116), some (.int c)] rfl (by decide) rfl (Nat.le_of_ble_eq_true rfl) ?_
  have f0 : fr [] h h := fr_rf
  obtain ⟨uv, uvZ, uvE, uvK⟩ : ∃ (y : Int32) (Y : Int), y.toInt = Y ∧ h.1 117 ((0 + cZ)).toNat = y := ⟨_, _, rfl, rfl⟩
  obtain ⟨bv, bvZ, bvE, bvK⟩ : ∃ (y : Int32) (Y : Int), y.toInt = Y ∧ h.1 117 ((64 + cZ)).toNat = y := ⟨_, _, rfl, rfl⟩
  refine V_aload_n 0 d_Mod_isWell_0 rfl rfl ?_
  refine V_getR fa_Mod_7 sk_116 rfl d_Mod_isWell_1 ?_
  refine V_iconst 0 d_Mod_isWell_4 (by decide) ?_
  refine V_iload_n 1 d_Mod_isWell_5 rfl rfl ?_
  refine V_iadd tc_0 cE (by (first | decide +kernel | omega)) d_Mod_isWell_6 (fun z1 z1e z1E => ?_)
  refine N_ialdK sk_117 z1E (by (first | decide +kernel | omega)) d_Mod_isWell_7 uvK ?_
  refine V_aload_n 0 d_Mod_isWell_8 rfl rfl ?_
  refine V_getR fa_Mod_7 sk_116 rfl d_Mod_isWell_9 ?_
  refine V_bipush 64 d_Mod_isWell_12 (by decide) ?_
  refine V_iload_n 1 d_Mod_isWell_14 rfl rfl ?_
  refine V_iadd tc_64 cE (by (first | decide +kernel | omega)) d_Mod_isWell_15 (fun z3 z3e z3E => ?_)
  refine N_ialdK sk_117 z3E (by (first | decide +kernel | omega)) d_Mod_isWell_16 bvK ?_
  refine N_callSI [.int uv, .int bv] [] cs_Mod_188 d_Mod_isWell_17 rfl (Nat.le_of_ble_eq_true rfl) (by decide) (by decide) (c_Mod_isWellByX h uv uvZ uvE bv bvZ bvE) (fun z5 h6 z5Z z5E p7 => ?_)
  obtain ⟨eh6, p7⟩ := p7
  subst eh6
  exact V_zret rfl (by rw [z5E]; omega) d_Mod_isWell_20 ⟨z5, rfl, ⟨rfl, (by rw [show 16 * 0 + cZ.toNat = (0 + cZ).toNat by (first | decide +kernel | omega), show 16 * 4 + cZ.toNat = (64 + cZ).toNat by (first | decide +kernel | omega), uvK, bvK]; unfold bW; (try rw [z5E]); omega)⟩⟩
abbrev q_Mod_cellX (h : Hp) (c : Int32) (cZ : Int) (a : Int32) (aZ : Int) (w : Int32) (wZ : Int) (g : Int32) (gZ : Int) : Option Value → Hp → Prop := pInt (fun r h' => h = h' ∧ (CL (0 ≤ cZ ∧ cZ < wZ * gZ) aZ (fun j => h.1 117 (16 * j + cZ.toNat)) r))
set_option maxRecDepth 100000 in
theorem c_Mod_cellX (h : Hp) (hI : Inv h) (c : Int32) (cZ : Int) (cE : c.toInt = cZ) (a : Int32) (aZ : Int) (aE : a.toInt = aZ) (w : Int32) (wZ : Int) (wE : w.toInt = wZ) (wK : h.1 116 2 = w) (g : Int32) (gZ : Int) (gE : g.toInt = gZ) (gK : h.1 116 3 = g) : Ct y_Mod_cell b_Mod_cell 3 (some .int) 2 46 [.ref 116, .int c, .int a] h (q_Mod_cellX h c cZ a aZ w wZ g gZ) := by
  refine ct_ow R_Mod [some (.ref 116), some (.int c), some (.int a)] rfl (by decide) rfl (Nat.le_of_ble_eq_true rfl) ?_
  have f0 : fr [] h h := fr_rf
  have g1 : 2 ≤ wZ ∧ wZ ≤ 4 := inv_at hI wE wK.symm rfl
  have g2 : 2 ≤ gZ ∧ gZ ≤ 4 := inv_at hI gE gK.symm rfl
  refine V_aload_n 0 d_Mod_cell_0 rfl rfl ?_
  refine V_iload_n 1 d_Mod_cell_1 rfl rfl ?_
  refine N_callVI [.int c] [] cv_Mod_200 sk_116 rfl d_Mod_cell_2 rfl (Nat.le_of_ble_eq_true rfl) (by decide) (by decide) (c_Mod_isCellX h hI c cZ cE w wZ wE wK g gZ gE gK) (fun z3 h4 z3Z z3E p5 => ?_)
  obtain ⟨eh4, p5⟩ := p5
  subst eh4
  refine V_if_eq 20 z3E d_Mod_cell_5 (by decide) (fun c6 => ?_) (fun c6 => ?_)
  ·
    refine V_iconst (-1) d_Mod_cell_20 (by decide) ?_
    exact V_iret rfl d_Mod_cell_21 ⟨(-1), rfl, ⟨rfl, (Or.inl ⟨by (first | decide +kernel | omega), tc_m1⟩)⟩⟩
  ·
    refine V_iload_n 2 d_Mod_cell_8 rfl rfl ?_
    refine V_i2l d_Mod_cell_9 (fun z7 z7e z7E => ?_)
    have z7F : z7.toInt = aZ := z7E.trans aE
    refine V_lconst 0 d_Mod_cell_10 (by decide) ?_
    refine V_ldc2 d_Mod_cell_11 wl_Mod_203 ?_
    refine N_callSI [.long z7, .long 0, .long 5] [] cs_Mod_95 d_Mod_cell_14 rfl (Nat.le_of_ble_eq_true rfl) (by decide) (by decide) (c_Mod_in h z7 aZ z7F 0 0 tl_0 5 5 tl_5) (fun z8 h9 z8Z z8E p10 => ?_)
    obtain ⟨eh9, p10⟩ := p10
    subst eh9
    refine V_if_ne 22 z8E d_Mod_cell_17 (by decide) (fun c11 => ?_) (fun c11 => ?_)
    ·
      refine V_iload_n 2 d_Mod_cell_22 rfl rfl ?_
      refine V_iconst 5 d_Mod_cell_23 (by decide) ?_
      refine V_icmp_ne 38 aE tc_5 d_Mod_cell_24 (by decide) (fun c12 => ?_) (fun c12 => ?_)
      ·
        refine V_aload_n 0 d_Mod_cell_38 rfl rfl ?_
        refine V_getR fa_Mod_7 sk_116 rfl d_Mod_cell_39 ?_
        refine V_bipush 16 d_Mod_cell_42 (by decide) ?_
        refine V_iload_n 2 d_Mod_cell_44 rfl rfl ?_
        refine V_imul tc_16 aE (by (first | decide +kernel | omega)) d_Mod_cell_45 (fun z13 z13e z13E => ?_)
        refine V_iload_n 1 d_Mod_cell_46 rfl rfl ?_
        refine V_iadd z13E cE (by (first | decide +kernel | omega)) d_Mod_cell_47 (fun z14 z14e z14E => ?_)
        refine N_iald sk_117 z14E (by (first | decide +kernel | omega)) d_Mod_cell_48 (fun z15 z15Z z15E z15e => ?_)
        exact V_iret rfl d_Mod_cell_49 ⟨z15, rfl, ⟨rfl, (Or.inr (Or.inl ⟨by (first | decide +kernel | omega), by show _ = h.1 117 (16 * aZ.toNat + cZ.toNat); rw [show 16 * aZ.toNat + cZ.toNat = (16 * aZ + cZ).toNat by (first | decide +kernel | omega)]; exact z15e⟩))⟩⟩
      ·
        refine V_aload_n 0 d_Mod_cell_27 rfl rfl ?_
        refine V_iload_n 1 d_Mod_cell_28 rfl rfl ?_
        refine N_callVI [.int c] [] cv_Mod_192 sk_116 rfl d_Mod_cell_29 rfl (Nat.le_of_ble_eq_true rfl) (by decide) (by decide) (c_Mod_isWellY h hI c cZ cE (by (first | decide +kernel | omega))) (fun z16 h17 z16Z z16E p18 => ?_)
        obtain ⟨eh17, p18⟩ := p18
        subst eh17
        refine N_callSI [.int z16] [] cs_Mod_196 d_Mod_cell_32 rfl (Nat.le_of_ble_eq_true rfl) (by decide) (by decide) (c_Mod_flag h z16 z16Z z16E) (fun z19 h20 z19Z z19E p21 => ?_)
        obtain ⟨eh20, p21⟩ := p21
        subst eh20
        refine V_goto 49 d_Mod_cell_35 (by decide) ?_
        exact V_iret rfl d_Mod_cell_49 ⟨z19, rfl, ⟨rfl, (Or.inr (Or.inr ⟨by (first | decide +kernel | omega), bc_sw p18 z16E p21⟩))⟩⟩
    ·
      refine V_iconst (-1) d_Mod_cell_20 (by decide) ?_
      exact V_iret rfl d_Mod_cell_21 ⟨(-1), rfl, ⟨rfl, (Or.inl ⟨by (first | decide +kernel | omega), tc_m1⟩)⟩⟩
abbrev q_Rod_purseX (h : Hp) (o : Int32) (oZ : Int) : Option Value → Hp → Prop := pInt (fun r h' => h = h' ∧ ((0 ≤ oZ ∧ oZ ≤ 3) ∧ r = h.1 8 oZ.toNat ∨ ¬ (0 ≤ oZ ∧ oZ ≤ 3) ∧ r.toInt = -1))
set_option maxRecDepth 100000 in
theorem c_Rod_purseX (h : Hp) (hI : Inv h) (o : Int32) (oZ : Int) (oE : o.toInt = oZ) : Ct y_Rod_purse b_Rod_purse 2 (some .int) 1 20 [.ref 85, .int o] h (q_Rod_purseX h o oZ) := by
  refine ct_ow R_Rod [some (.ref 85), some (.int o)] rfl (by decide) rfl (Nat.le_of_ble_eq_true rfl) ?_
  have f0 : fr [] h h := fr_rf
  refine V_iload_n 1 d_Rod_purse_0 rfl rfl ?_
  refine N_callSI [.int o] [] cs_Rod_151 d_Rod_purse_1 rfl (Nat.le_of_ble_eq_true rfl) (by decide) (by decide) (c_Rod_isOwner h o oZ oE) (fun z1 h2 z1Z z1E p3 => ?_)
  obtain ⟨eh2, p3⟩ := p3
  subst eh2
  refine V_if_eq 22 z1E d_Rod_purse_4 (by decide) (fun c4 => ?_) (fun c4 => ?_)
  ·
    refine V_iconst (-1) d_Rod_purse_22 (by decide) ?_
    exact V_iret rfl d_Rod_purse_23 ⟨(-1), rfl, ⟨rfl, (Or.inr ⟨by (first | decide +kernel | omega), tc_m1⟩)⟩⟩
  ·
    refine V_aload_n 0 d_Rod_purse_7 rfl rfl ?_
    refine V_getR fa_Rod_12 sk_85 rfl d_Rod_purse_8 ?_
    refine V_getR fa_Rod_115 sk_0 rfl d_Rod_purse_11 ?_
    refine V_getR fa_Rod_154 sk_7 rfl d_Rod_purse_14 ?_
    refine V_iload_n 1 d_Rod_purse_17 rfl rfl ?_
    refine N_iald sk_8 oE (by (first | decide +kernel | omega)) d_Rod_purse_18 (fun z5 z5Z z5E z5e => ?_)
    refine V_goto 23 d_Rod_purse_19 (by decide) ?_
    exact V_iret rfl d_Rod_purse_23 ⟨z5, rfl, ⟨rfl, (Or.inl ⟨by (first | decide +kernel | omega), z5e⟩)⟩⟩
abbrev q_Mod_purseX (h : Hp) (o : Int32) (oZ : Int) : Option Value → Hp → Prop := pInt (fun r h' => h = h' ∧ ((0 ≤ oZ ∧ oZ ≤ 3) ∧ r = h.1 117 (80 + oZ).toNat ∨ ¬ (0 ≤ oZ ∧ oZ ≤ 3) ∧ r.toInt = -1))
set_option maxRecDepth 100000 in
theorem c_Mod_purseX (h : Hp) (hI : Inv h) (o : Int32) (oZ : Int) (oE : o.toInt = oZ) : Ct y_Mod_purse b_Mod_purse 2 (some .int) 2 45 [.ref 116, .int o] h (q_Mod_purseX h o oZ) := by
  refine ct_ow R_Mod [some (.ref 116), some (.int o)] rfl (by decide) rfl (Nat.le_of_ble_eq_true rfl) ?_
  have f0 : fr [] h h := fr_rf
  refine V_iload_n 1 d_Mod_purse_0 rfl rfl ?_
  refine N_callSI [.int o] [] cs_Mod_205 d_Mod_purse_1 rfl (Nat.le_of_ble_eq_true rfl) (by decide) (by decide) (c_Mod_isOwner h o oZ oE) (fun z1 h2 z1Z z1E p3 => ?_)
  obtain ⟨eh2, p3⟩ := p3
  subst eh2
  refine V_if_eq 19 z1E d_Mod_purse_4 (by decide) (fun c4 => ?_) (fun c4 => ?_)
  ·
    refine V_iconst (-1) d_Mod_purse_19 (by decide) ?_
    exact V_iret rfl d_Mod_purse_20 ⟨(-1), rfl, ⟨rfl, (Or.inr ⟨by (first | decide +kernel | omega), tc_m1⟩)⟩⟩
  ·
    refine V_aload_n 0 d_Mod_purse_7 rfl rfl ?_
    refine V_getR fa_Mod_7 sk_116 rfl d_Mod_purse_8 ?_
    refine V_bipush 80 d_Mod_purse_11 (by decide) ?_
    refine V_iload_n 1 d_Mod_purse_13 rfl rfl ?_
    refine V_iadd tc_80 oE (by (first | decide +kernel | omega)) d_Mod_purse_14 (fun z5 z5e z5E => ?_)
    refine N_iald sk_117 z5E (by (first | decide +kernel | omega)) d_Mod_purse_15 (fun z6 z6Z z6E z6e => ?_)
    refine V_goto 20 d_Mod_purse_16 (by decide) ?_
    exact V_iret rfl d_Mod_purse_20 ⟨z6, rfl, ⟨rfl, (Or.inl ⟨by (first | decide +kernel | omega), z6e⟩)⟩⟩
end
section
theorem BE_cg {h h' : Hp} {kp ip kb ib : Nat} {G : Prop} {l o p b w c q d r l2 p2 b2 w2 : Int32} (f : BE h h' kp ip kb ib G l o p b w c q d r) (e : G → l = l2 ∧ p = p2 ∧ b = b2 ∧ w = w2) : BE h h' kp ip kb ib G l2 o p2 b2 w2 c q d r := by
  by_cases g : G
  · obtain ⟨rfl, rfl, rfl, rfl⟩ := e g
    exact f
  · rcases f with f | ⟨f, _⟩
    · exact Or.inl f
    · exact absurd f g
theorem JB_bore2 {S : List (Nat × Option Nat)} {h h1 h2 : Hp} {o c dd W : Int} {ow d r s : Int32} (ra : JA h) (rb : JB h) (f : fr S h h1) (ck : ckS S 116 117 = true) (hW : W ≤ 16) (E1 : BE h h1 8 o.toNat 6 c.toNat (0 ≤ o ∧ o ≤ 3 ∧ 0 ≤ c ∧ c < W ∧ 1 ≤ dd ∧ dd ≤ 9) (h.1 5 c.toNat) ow (h.1 8 o.toNat) (h.1 6 c.toNat) (h.1 2 c.toNat) (h.1 1 2) (h.1 1 3) d r)
    (E2 : BE h1 h2 117 (80 + o).toNat 117 (64 + c).toNat (0 ≤ o ∧ o ≤ 3 ∧ 0 ≤ c ∧ c < W ∧ 1 ≤ dd ∧ dd ≤ 9) (h1.1 117 (48 + c).toNat) ow (h1.1 117 (80 + o).toNat) (h1.1 117 (64 + c).toNat) (h1.1 117 (0 + c).toNat) (h1.1 116 4) (h1.1 116 5) d s) : JB h2 ∧ r = s := by
  have m1 : ∀ k i : Nat, 116 ≤ k → k ≤ 117 → h1.1 k i = h.1 k i := fun k i p q => f.1 _ _ (ckS_no ck p q)
  rw [m1 116 4 (by (first | decide +kernel | omega)) (by (first | decide +kernel | omega)), m1 116 5 (by (first | decide +kernel | omega)) (by (first | decide +kernel | omega)), ← show h.1 1 2 = h.1 116 4 from JA_wh ra (i := 2) (by decide), ← show h.1 1 3 = h.1 116 5 from JA_wh ra (i := 3) (by decide)] at E2
  have E3 := BE_cg (l2 := h.1 5 c.toNat) (p2 := h.1 8 o.toNat) (b2 := h.1 6 c.toNat) (w2 := h.1 2 c.toNat) E2 (fun g => by
    rw [m1 117 _ (by (first | decide +kernel | omega)) (by (first | decide +kernel | omega)), m1 117 _ (by (first | decide +kernel | omega)) (by (first | decide +kernel | omega)), m1 117 _ (by (first | decide +kernel | omega)) (by (first | decide +kernel | omega)), m1 117 _ (by (first | decide +kernel | omega)) (by (first | decide +kernel | omega)), show (48 + c).toNat = 48 + c.toNat by (first | decide +kernel | omega), show (80 + o).toNat = 80 + o.toNat by (first | decide +kernel | omega), show (64 + c).toNat = 64 + c.toNat by (first | decide +kernel | omega), show (0 + c).toNat = c.toNat by (first | decide +kernel | omega)]
    exact ⟨(JA_cell ra (dof_5 (by (first | decide +kernel | omega))) (by unfold aP; omega) (by (first | decide +kernel | omega))).symm, (JB_p rb (by (first | decide +kernel | omega))).symm, (JB_b rb (by (first | decide +kernel | omega))).symm, (JB_w rb (by (first | decide +kernel | omega))).1.symm⟩)
  exact JB_bore rb E1 E3 (fun g => by (first | decide +kernel | omega))
theorem nA_rain {h h' : Hp} {G : Prop} {v : Int32} {W : Int} (E : G ∧ rW h h' 117 v W ∧ (∀ j : Nat, 16 ≤ j → h'.1 117 j = h.1 117 j) ∨ ¬ G ∧ h' = h) : nA h h' := fun i hi => by
  rcases E with ⟨_, _, e⟩ | ⟨_, e⟩
  · exact e i (by (first | decide +kernel | omega))
  · rw [e]
theorem cA_RD {h h' : Hp} {RB : Prop} {k : Nat} {l f n W : Int} {r : Int32} (E : RB ∧ h' = h ∧ r.toInt = -1 ∨ ¬ RB ∧ RDc h h' k l f n W r) : cA h h' := fun k i hk hn => by
  rcases E with ⟨_, e, _⟩ | ⟨_, e⟩
  · rw [e]
  · exact e.2 k i hk ⟨hn.2.1, hn.2.2⟩
theorem nA_RD {h h' : Hp} {RB : Prop} {k : Nat} {l f n W : Int} {r : Int32} (E : RB ∧ h' = h ∧ r.toInt = -1 ∨ ¬ RB ∧ RDm h h' k l f n W r) : nA h h' := by
  rcases E with ⟨_, e, _⟩ | ⟨_, e⟩
  · intro i _; rw [e]
  · exact nA_nC e.2
theorem wg16 {h : Hp} (hI : Inv h) : 4 ≤ (h.1 1 0).toInt * (h.1 1 1).toInt ∧ (h.1 1 0).toInt * (h.1 1 1).toInt ≤ 16 := mul24 (show 2 ≤ (h.1 1 0).toInt ∧ (h.1 1 0).toInt ≤ 4 from hI 1 0) (show 2 ≤ (h.1 1 1).toInt ∧ (h.1 1 1).toInt ≤ 4 from hI 1 1)
theorem dof_3 {i : Nat} (hi : i < 16) : dof (68 + 3) i = some (16 + i) := by unfold dof; rw [if_neg (by (first | decide +kernel | omega)), if_pos ⟨rfl, hi⟩]
end
section
def BK (K0 K1 k : Int) (r : Int32) (n : Nat) : Prop := (k = 0 ∧ K0 ≠ 0 ∨ k = 1 ∧ K1 ≠ 0) ∧ r.toInt = (n : Int) ∨ (k = 0 ∧ K0 = 0 ∨ k = 1 ∧ K1 = 0) ∧ r.toInt = -2 ∨ (k < 0 ∨ 1 < k) ∧ r.toInt = -1
def CN (a : Int) (r v2 v4 v5 v6 : Int32) (n0 n1 : Nat) (k0 k1 : Int32) (t no : Int) : Prop := a = 0 ∧ r.toInt = (n0 : Int) ∨ a = 1 ∧ r.toInt = (n1 : Int) ∨ a = 2 ∧ r = v2 ∨ (a = 3 ∧ ∃ f g : Int32, FQ k0 f ∧ FQ k1 g ∧ r = f + g) ∨ a = 4 ∧ r = v4 ∨ a = 5 ∧ (t = no ∧ r.toInt = -4 ∨ t ≠ no ∧ r = v5) ∨ a = 6 ∧ r = v6 ∨ (a < 0 ∨ 6 < a) ∧ r.toInt = -1
def S_Rod_rainW : List (Nat × Option Nat) := [(2, none)]
abbrev q_Rod_rainW (h : Hp) (v : Int32) (vZ : Int) (w : Int32) (wZ : Int) (g : Int32) (gZ : Int) : Option Value → Hp → Prop := pInt (fun r h' => Inv h' ∧ fr S_Rod_rainW h h' ∧ (((0 ≤ vZ ∧ vZ ≤ 8) ∧ rW h h' 2 v (wZ * gZ) ∨ ¬ (0 ≤ vZ ∧ vZ ≤ 8) ∧ h' = h) ∧ ((0 ≤ vZ ∧ vZ ≤ 8) ∧ r.toInt = (ct (WQ (h'.1 2) (h'.1 6) (wZ * gZ)) 32 : Nat) ∨ ¬ (0 ≤ vZ ∧ vZ ≤ 8) ∧ r.toInt = -1)))
set_option maxRecDepth 100000 in
theorem c_Rod_rainW (h : Hp) (hI : Inv h) (v : Int32) (vZ : Int) (vE : v.toInt = vZ) (w : Int32) (wZ : Int) (wE : w.toInt = wZ) (wK : h.1 1 0 = w) (g : Int32) (gZ : Int) (gE : g.toInt = gZ) (gK : h.1 1 1 = g) : Ct y_Rod_rain b_Rod_rain 2 (some .int) 3 63 [.ref 85, .int v] h (q_Rod_rainW h v vZ w wZ g gZ) := by
  refine ct_ow R_Rod [some (.ref 85), some (.int v)] rfl (by decide) rfl (Nat.le_of_ble_eq_true rfl) ?_
  have f0 : fr S_Rod_rainW h h := fr_rf
  have g1 : 2 ≤ wZ ∧ wZ ≤ 4 := inv_at hI wE wK.symm rfl
  have g2 : 2 ≤ gZ ∧ gZ ≤ 4 := inv_at hI gE gK.symm rfl
  refine V_iload_n 1 d_Rod_rain_0 rfl rfl ?_
  refine V_if_lt 10 vE d_Rod_rain_1 (by decide) (fun c3 => ?_) (fun c3 => ?_)
  ·
    refine V_iconst (-1) d_Rod_rain_10 (by decide) ?_
    exact V_iret rfl d_Rod_rain_11 ⟨(-1), rfl, ⟨hI, f0, ⟨Or.inr ⟨by (first | decide +kernel | omega), rfl⟩, Or.inr ⟨by (first | decide +kernel | omega), tc_m1⟩⟩⟩⟩
  ·
    refine V_iload_n 1 d_Rod_rain_4 rfl rfl ?_
    refine V_bipush 8 d_Rod_rain_5 (by decide) ?_
    refine V_icmp_le 12 vE tc_8 d_Rod_rain_7 (by decide) (fun c4 => ?_) (fun c4 => ?_)
    ·
      refine V_aload_n 0 d_Rod_rain_12 rfl rfl ?_
      refine V_getR fa_Rod_12 sk_85 rfl d_Rod_rain_13 ?_
      refine V_getR fa_Rod_91 sk_0 rfl d_Rod_rain_16 ?_
      refine V_iload_n 1 d_Rod_rain_19 rfl rfl ?_
      refine N_callVV [.int v] [] cv_Rod_164 sk_1 rfl d_Rod_rain_20 rfl (Nat.le_of_ble_eq_true rfl) (by decide) (by decide) (c_Land_raiseWaterX_0 h hI v vZ vE w wZ wE wK g gZ gE gK) (fun h6 p7 => ?_)
      obtain ⟨hI8, fh6, p7⟩ := p7
      have f9 : fr S_Rod_rainW h h6 := fr_call f0 fh6 rfl
      refine V_aload_n 0 d_Rod_rain_23 rfl rfl ?_
      refine V_getR fa_Rod_12 sk_85 rfl d_Rod_rain_24 ?_
      refine V_getR fa_Rod_91 sk_0 rfl d_Rod_rain_27 ?_
      refine N_callVI [] [] cv_Rod_168 sk_1 rfl d_Rod_rain_30 rfl (Nat.le_of_ble_eq_true rfl) (by decide) (by decide) (c_Land_wellsX_0 h6 hI8 w wZ wE (kn_call fh6 wK rfl) g gZ gE (kn_call fh6 gK rfl)) (fun z10 h11 z10Z z10E p12 => ?_)
      obtain ⟨eh11, p12⟩ := p12
      subst eh11
      exact V_iret rfl d_Rod_rain_33 ⟨z10, rfl, ⟨hI8, f9, ⟨Or.inl ⟨by (first | decide +kernel | omega), p7⟩, Or.inl ⟨by (first | decide +kernel | omega), p12⟩⟩⟩⟩
    ·
      refine V_iconst (-1) d_Rod_rain_10 (by decide) ?_
      exact V_iret rfl d_Rod_rain_11 ⟨(-1), rfl, ⟨hI, f0, ⟨Or.inr ⟨by (first | decide +kernel | omega), rfl⟩, Or.inr ⟨by (first | decide +kernel | omega), tc_m1⟩⟩⟩⟩
def S_Mod_rainW : List (Nat × Option Nat) := [(117, none)]
abbrev q_Mod_rainW (h : Hp) (v : Int32) (vZ : Int) (w : Int32) (wZ : Int) (g : Int32) (gZ : Int) : Option Value → Hp → Prop := pInt (fun r h' => Inv h' ∧ fr S_Mod_rainW h h' ∧ (((0 ≤ vZ ∧ vZ ≤ 8) ∧ rW h h' 117 v (wZ * gZ) ∧ (∀ j : Nat, 16 ≤ j → h'.1 117 j = h.1 117 j) ∨ ¬ (0 ≤ vZ ∧ vZ ≤ 8) ∧ h' = h) ∧ ((0 ≤ vZ ∧ vZ ≤ 8) ∧ r.toInt = (ct (WQ (fun i => h'.1 117 i) (fun i => h'.1 117 (64 + i)) (wZ * gZ)) (wZ * gZ).toNat : Nat) ∨ ¬ (0 ≤ vZ ∧ vZ ≤ 8) ∧ r.toInt = -1)))
set_option maxRecDepth 100000 in
theorem c_Mod_rainW (h : Hp) (hI : Inv h) (v : Int32) (vZ : Int) (vE : v.toInt = vZ) (w : Int32) (wZ : Int) (wE : w.toInt = wZ) (wK : h.1 116 2 = w) (g : Int32) (gZ : Int) (gE : g.toInt = gZ) (gK : h.1 116 3 = g) (hy0 : ∀ i : Nat, i < 16 → 0 ≤ (h.1 117 i).toInt) : Ct y_Mod_rain b_Mod_rain 4 (some .int) 3 64 [.ref 116, .int v] h (q_Mod_rainW h v vZ w wZ g gZ) := by
  refine ct_ow R_Mod [some (.ref 116), some (.int v), none, none] rfl (by decide) rfl (Nat.le_of_ble_eq_true rfl) ?_
  have f0 : fr S_Mod_rainW h h := fr_rf
  have g1 : 2 ≤ wZ ∧ wZ ≤ 4 := inv_at hI wE wK.symm rfl
  have g2 : 2 ≤ gZ ∧ gZ ≤ 4 := inv_at hI gE gK.symm rfl
  have m24 := mul24 (A := wZ) (B := gZ) (by (first | decide +kernel | omega)) (by (first | decide +kernel | omega))
  refine V_iload_n 1 d_Mod_rain_0 rfl rfl ?_
  refine V_i2l d_Mod_rain_1 (fun z3 z3e z3E => ?_)
  have z3F : z3.toInt = vZ := z3E.trans vE
  refine V_lconst 0 d_Mod_rain_2 (by decide) ?_
  refine V_ldc2 d_Mod_rain_3 wl_Mod_221 ?_
  refine N_callSI [.long z3, .long 0, .long 8] [] cs_Mod_95 d_Mod_rain_6 rfl (Nat.le_of_ble_eq_true rfl) (by decide) (by decide) (c_Mod_in h z3 vZ z3F 0 0 tl_0 8 8 tl_8) (fun z4 h5 z4Z z4E p6 => ?_)
  obtain ⟨eh5, p6⟩ := p6
  subst eh5
  refine V_if_ne 14 z4E d_Mod_rain_9 (by decide) (fun c7 => ?_) (fun c7 => ?_)
  ·
    refine V_iconst 0 d_Mod_rain_14 (by decide) ?_
    refine V_istore_n 2 [some (.ref 116), some (.int v), some (.int 0), none] d_Mod_rain_15 rfl (by decide) rfl rfl ?_
    have L8 : ∀ (nn : Nat) (v10 : Int32) (v10Z : Int) (h11 : Hp), v10.toInt = v10Z → Inv h11 → fr S_Mod_rainW h h11 → h11.1 116 2 = w → h11.1 116 3 = g → 0 ≤ v10Z ∧ v10Z ≤ wZ * gZ → rW h h11 117 v v10Z → (∀ j : Nat, 16 ≤ j → h11.1 117 j = h.1 117 j) → 16 - v10Z < (nn : Int) → V R_Mod b_Mod_rain 4 (some .int) 3 64 (q_Mod_rainW h v vZ w wZ g gZ) h11 16 [some (.ref 116), some (.int v), some (.int v10), none] [] := by
      intro nn
      induction nn with
      | zero => intro v10 v10Z h11 v10E Ih11 Fh11 K12 K13 q14 q15 q16 hm17; exact absurd hm17 (by (first | decide +kernel | omega))
      | succ nn ihL8 =>
        intro v10 v10Z h11 v10E Ih11 Fh11 K12 K13 q14 q15 q16 hm17
        refine V_iload_n 2 d_Mod_rain_16 rfl rfl ?_
        refine V_aload_n 0 d_Mod_rain_17 rfl rfl ?_
        refine N_callVI [] [.int v10] cv_Mod_183 sk_116 rfl d_Mod_rain_18 rfl (Nat.le_of_ble_eq_true rfl) (by decide) (by decide) (c_Mod_cellMany h11 Ih11 w wZ wE K12 g gZ gE K13) (fun z18 h19 z18Z z18E p20 => ?_)
        obtain ⟨eh19, p20⟩ := p20
        subst eh19
        refine V_icmp_ge 69 v10E z18E d_Mod_rain_21 (by decide) (fun c21 => ?_) (fun c21 => ?_)
        ·
          refine V_aload_n 0 d_Mod_rain_69 rfl rfl ?_
          refine N_callVI [] [] cv_Mod_223 sk_116 rfl d_Mod_rain_70 rfl (Nat.le_of_ble_eq_true rfl) (by decide) (by decide) (c_Mod_wellsX h11 Ih11 w wZ wE K12 g gZ gE K13) (fun z22 h23 z22Z z22E p24 => ?_)
          obtain ⟨eh23, p24⟩ := p24
          subst eh23
          exact V_iret rfl d_Mod_rain_73 ⟨z22, rfl, ⟨Ih11, Fh11, ⟨Or.inl ⟨by (first | decide +kernel | omega), (by rw [show wZ * gZ = v10Z by (first | decide +kernel | omega)]; assumption), by assumption⟩, Or.inl ⟨by (first | decide +kernel | omega), p24⟩⟩⟩⟩
        ·
          refine V_aload_n 0 d_Mod_rain_24 rfl rfl ?_
          refine V_getR fa_Mod_7 sk_116 rfl d_Mod_rain_25 ?_
          refine V_iconst 0 d_Mod_rain_28 (by decide) ?_
          refine V_iload_n 2 d_Mod_rain_29 rfl rfl ?_
          refine V_iadd tc_0 v10E (by (first | decide +kernel | omega)) d_Mod_rain_30 (fun z25 z25e z25E => ?_)
          refine N_iald sk_117 z25E (by (first | decide +kernel | omega)) d_Mod_rain_31 (fun z26 z26Z z26E z26e => ?_)
          have g27 := rM_nn hy0 (show rW h h11 117 v v10Z from by assumption) (by (first | decide +kernel | omega)) z26e z26E
          refine V_istore_n 3 [some (.ref 116), some (.int v), some (.int v10), some (.int z26)] d_Mod_rain_32 rfl (by decide) rfl rfl ?_
          refine V_aload_n 0 d_Mod_rain_33 rfl rfl ?_
          refine V_getR fa_Mod_7 sk_116 rfl d_Mod_rain_34 ?_
          refine V_iconst 0 d_Mod_rain_37 (by decide) ?_
          refine V_iload_n 2 d_Mod_rain_38 rfl rfl ?_
          refine V_iadd tc_0 v10E (by (first | decide +kernel | omega)) d_Mod_rain_39 (fun z28 z28e z28E => ?_)
          refine V_iload_n 3 d_Mod_rain_40 rfl rfl ?_
          refine V_if_ne 48 z26E d_Mod_rain_41 (by decide) (fun c29 => ?_) (fun c29 => ?_)
          ·
            refine V_iload_n 3 d_Mod_rain_48 rfl rfl ?_
            refine V_iload_n 1 d_Mod_rain_49 rfl rfl ?_
            refine N_isubw d_Mod_rain_50 (fun z30 z30Z z30E z30e => ?_)
            refine V_iconst 1 d_Mod_rain_51 (by decide) ?_
            refine V_icmp_ge 59 z30E tc_1 d_Mod_rain_52 (by decide) (fun c31 => ?_) (fun c31 => ?_)
            ·
              refine V_iload_n 3 d_Mod_rain_59 rfl rfl ?_
              refine V_iload_n 1 d_Mod_rain_60 rfl rfl ?_
              refine N_isubw d_Mod_rain_61 (fun z32 z32Z z32E z32e => ?_)
              refine N_iast sk_117 z28E (by (first | decide +kernel | omega)) d_Mod_rain_62 (fun h33 eh33 => ?_)
              have hI34 : Inv h33 := inv_full Ih11 eh33 (st_lo (by (first | decide +kernel | omega)))
              have f35 : fr S_Mod_rainW h h33 := fr_put Fh11 eh33 rfl
              obtain ⟨z36, z36E, z36e⟩ : ∃ y : Int32, y.toInt = v10Z + 1 ∧ y = v10 + Int32.ofInt 1 := ⟨_, ti_add v10E (by decide) (by (first | decide +kernel | omega)), rfl⟩
              refine V_iinc 2 [some (.ref 116), some (.int v), some (.int z36), some (.int z26)] d_Mod_rain_63 rfl z36e.symm (by decide) rfl rfl ?_
              refine V_goto 16 d_Mod_rain_66 (by decide) ?_
              refine V_drop 3 [some (.ref 116), some (.int v), some (.int z36), none] rfl ?_
              exact ihL8 z36 ((v10Z + 1)) h33 z36E hI34 f35 (kn_ne eh33 K12 (by decide)) (kn_ne eh33 K13 (by decide)) (by (first | decide +kernel | omega)) (rW_s1 (by assumption) (by (first | decide +kernel | omega)) (z26e.trans (by rw [Int.zero_add])) (rn1_m2 z26E (by (first | decide +kernel | omega)) z30e z32e z30E (by (first | decide +kernel | omega))) (show _ = pI _ 117 (v10Z).toNat _ from by rw [← Int.zero_add v10Z]; exact eh33)) (fun j hj => by rw [eh33, pI_at, if_neg (by (first | decide +kernel | omega))]; exact (show ∀ j : Nat, 16 ≤ j → h11.1 117 j = h.1 117 j from by assumption) j hj) (by (first | decide +kernel | omega))
            ·
              refine V_iconst 1 d_Mod_rain_55 (by decide) ?_
              refine V_goto 62 d_Mod_rain_56 (by decide) ?_
              refine N_iast sk_117 z28E (by (first | decide +kernel | omega)) d_Mod_rain_62 (fun h37 eh37 => ?_)
              have hI38 : Inv h37 := inv_full Ih11 eh37 (st_lo (by (first | decide +kernel | omega)))
              have f39 : fr S_Mod_rainW h h37 := fr_put Fh11 eh37 rfl
              obtain ⟨z40, z40E, z40e⟩ : ∃ y : Int32, y.toInt = v10Z + 1 ∧ y = v10 + Int32.ofInt 1 := ⟨_, ti_add v10E (by decide) (by (first | decide +kernel | omega)), rfl⟩
              refine V_iinc 2 [some (.ref 116), some (.int v), some (.int z40), some (.int z26)] d_Mod_rain_63 rfl z40e.symm (by decide) rfl rfl ?_
              refine V_goto 16 d_Mod_rain_66 (by decide) ?_
              refine V_drop 3 [some (.ref 116), some (.int v), some (.int z40), none] rfl ?_
              exact ihL8 z40 ((v10Z + 1)) h37 z40E hI38 f39 (kn_ne eh37 K12 (by decide)) (kn_ne eh37 K13 (by decide)) (by (first | decide +kernel | omega)) (rW_s1 (by assumption) (by (first | decide +kernel | omega)) (z26e.trans (by rw [Int.zero_add])) (rn1_m1 z26E (by (first | decide +kernel | omega)) z30e z30E (by (first | decide +kernel | omega))) (show _ = pI _ 117 (v10Z).toNat _ from by rw [← Int.zero_add v10Z]; exact eh37)) (fun j hj => by rw [eh37, pI_at, if_neg (by (first | decide +kernel | omega))]; exact (show ∀ j : Nat, 16 ≤ j → h11.1 117 j = h.1 117 j from by assumption) j hj) (by (first | decide +kernel | omega))
          ·
            refine V_iconst 0 d_Mod_rain_44 (by decide) ?_
            refine V_goto 62 d_Mod_rain_45 (by decide) ?_
            refine N_iast sk_117 z28E (by (first | decide +kernel | omega)) d_Mod_rain_62 (fun h41 eh41 => ?_)
            have hI42 : Inv h41 := inv_full Ih11 eh41 (st_lo (by (first | decide +kernel | omega)))
            have f43 : fr S_Mod_rainW h h41 := fr_put Fh11 eh41 rfl
            obtain ⟨z44, z44E, z44e⟩ : ∃ y : Int32, y.toInt = v10Z + 1 ∧ y = v10 + Int32.ofInt 1 := ⟨_, ti_add v10E (by decide) (by (first | decide +kernel | omega)), rfl⟩
            refine V_iinc 2 [some (.ref 116), some (.int v), some (.int z44), some (.int z26)] d_Mod_rain_63 rfl z44e.symm (by decide) rfl rfl ?_
            refine V_goto 16 d_Mod_rain_66 (by decide) ?_
            refine V_drop 3 [some (.ref 116), some (.int v), some (.int z44), none] rfl ?_
            exact ihL8 z44 ((v10Z + 1)) h41 z44E hI42 f43 (kn_ne eh41 K12 (by decide)) (kn_ne eh41 K13 (by decide)) (by (first | decide +kernel | omega)) (rW_s1 (by assumption) (by (first | decide +kernel | omega)) (z26e.trans (by rw [Int.zero_add])) (rn1_m0 (by rw [z26E]; omega)) (show _ = pI _ 117 (v10Z).toNat _ from by rw [← Int.zero_add v10Z]; exact eh41)) (fun j hj => by rw [eh41, pI_at, if_neg (by (first | decide +kernel | omega))]; exact (show ∀ j : Nat, 16 ≤ j → h11.1 117 j = h.1 117 j from by assumption) j hj) (by (first | decide +kernel | omega))
    exact L8 (Int.toNat ((16 - 0 : Int) + 1)) 0 0 h tc_0 hI f0 wK gK (by (first | decide +kernel | omega)) rW_0 (fun _ _ => rfl) (by (first | decide +kernel | omega))
  ·
    refine V_iconst (-1) d_Mod_rain_12 (by decide) ?_
    exact V_iret rfl d_Mod_rain_13 ⟨(-1), rfl, ⟨hI, f0, ⟨Or.inr ⟨by (first | decide +kernel | omega), rfl⟩, Or.inr ⟨by (first | decide +kernel | omega), tc_m1⟩⟩⟩⟩
def S_Rod_backW : List (Nat × Option Nat) := [(0, some 3), (0, some 4), (1, none), (2, none), (3, none), (4, none), (5, none), (6, none), (7, some 4), (8, none), (9, none), (10, none), (11, none), (12, some 4), (13, none), (14, none), (15, none), (16, none)]
abbrev q_Rod_backW (h : Hp) (k : Int32) (kZ : Int) : Option Value → Hp → Prop := pInt (fun r h' => Inv h' ∧ fr S_Rod_backW h h' ∧ ((kZ = 0 ∧ (h.1 87 0).toInt ≠ 0 ∧ cpy h h' 0 34 ∨ kZ = 1 ∧ (h.1 87 1).toInt ≠ 0 ∧ cpy h h' 0 51 ∨ (kZ = 0 ∧ (h.1 87 0).toInt = 0 ∨ kZ = 1 ∧ (h.1 87 1).toInt = 0 ∨ kZ < 0 ∨ 1 < kZ) ∧ h' = h) ∧ (BK (h.1 87 0).toInt (h.1 87 1).toInt kZ r (ct (WQ (h'.1 2) (h'.1 6) ((h'.1 1 0).toInt * (h'.1 1 1).toInt)) 32))))
set_option maxRecDepth 100000 in
theorem c_Rod_backW (h : Hp) (hI : Inv h) (k : Int32) (kZ : Int) (kE : k.toInt = kZ) : Ct y_Rod_back b_Rod_back 2 (some .int) 3 102 [.ref 85, .int k] h (q_Rod_backW h k kZ) := by
  refine ct_ow R_Rod [some (.ref 85), some (.int k)] rfl (by decide) rfl (Nat.le_of_ble_eq_true rfl) ?_
  have f0 : fr S_Rod_backW h h := fr_rf
  refine V_iload_n 1 d_Rod_back_0 rfl rfl ?_
  refine V_if_lt 9 kE d_Rod_back_1 (by decide) (fun c1 => ?_) (fun c1 => ?_)
  ·
    refine V_iconst (-1) d_Rod_back_9 (by decide) ?_
    exact V_iret rfl d_Rod_back_10 ⟨(-1), rfl, ⟨hI, f0, ⟨Or.inr (Or.inr ⟨by (first | decide +kernel | omega), rfl⟩), Or.inr (Or.inr ⟨by (first | decide +kernel | omega), tc_m1⟩)⟩⟩⟩
  ·
    refine V_iload_n 1 d_Rod_back_4 rfl rfl ?_
    refine V_iconst 2 d_Rod_back_5 (by decide) ?_
    refine V_icmp_lt 11 kE tc_2 d_Rod_back_6 (by decide) (fun c2 => ?_) (fun c2 => ?_)
    ·
      rcases (by (first | decide +kernel | omega) : kZ = 0 ∨ kZ = 1) with c3 | c3
      ·
        refine V_aload_n 0 d_Rod_back_11 rfl rfl ?_
        refine V_getR fa_Rod_23 sk_85 rfl d_Rod_back_12 ?_
        refine V_iload_n 1 d_Rod_back_15 rfl rfl ?_
        refine N_zald sk_87 kE (by (first | decide +kernel | omega)) d_Rod_back_16 (fun z4 z4Z z4E z4e => ?_)
        refine V_if_ne 23 z4E d_Rod_back_17 (by decide) (fun c5 => ?_) (fun c5 => ?_)
        ·
          refine V_aload_n 0 d_Rod_back_23 rfl rfl ?_
          refine V_getR fa_Rod_12 sk_85 rfl d_Rod_back_24 ?_
          refine V_aload_n 0 d_Rod_back_27 rfl rfl ?_
          refine V_getR fa_Rod_19 sk_85 rfl d_Rod_back_28 ?_
          refine V_iload_n 1 d_Rod_back_31 rfl rfl ?_
          rcases (by (first | decide +kernel | omega) : kZ = 0 ∨ kZ = 1) with c6 | c6
          ·
            refine V_aald (r := 34) sk_86 (by decide) kE (by (first | decide +kernel | omega)) (by rw [c6]; rfl) d_Rod_back_32 ?_
            obtain ⟨z7, z7Z, z7E, z7e⟩ : ∃ (y : Int32) (Y : Int), y.toInt = Y ∧ y = h.1 34 3 := ⟨_, _, rfl, rfl⟩
            obtain ⟨z8, z8Z, z8E, z8e⟩ : ∃ (y : Int32) (Y : Int), y.toInt = Y ∧ y = h.1 34 4 := ⟨_, _, rfl, rfl⟩
            refine N_callVV [.ref 34] [] cv_Rod_84 sk_0 rfl d_Rod_back_33 rfl (Nat.le_of_ble_eq_true rfl) (by decide) (by decide) (c_County_copyX_0_2 h hI z7 z7Z z7E z7e.symm z8 z8Z z8E z8e.symm) (fun h10 p11 => ?_)
            obtain ⟨hI12, fh10, p11⟩ := p11
            have f13 : fr S_Rod_backW h h10 := fr_call f0 fh10 rfl
            refine V_aload_n 0 d_Rod_back_36 rfl rfl ?_
            refine V_getR fa_Rod_12 sk_85 rfl d_Rod_back_37 ?_
            refine V_getR fa_Rod_91 sk_0 rfl d_Rod_back_40 ?_
            obtain ⟨z14, z14Z, z14E, z14e⟩ : ∃ (y : Int32) (Y : Int), y.toInt = Y ∧ y = h10.1 1 0 := ⟨_, _, rfl, rfl⟩
            have g15 : 2 ≤ z14Z ∧ z14Z ≤ 4 := inv_at hI12 z14E z14e rfl
            obtain ⟨z16, z16Z, z16E, z16e⟩ : ∃ (y : Int32) (Y : Int), y.toInt = Y ∧ y = h10.1 1 1 := ⟨_, _, rfl, rfl⟩
            have g17 : 2 ≤ z16Z ∧ z16Z ≤ 4 := inv_at hI12 z16E z16e rfl
            refine N_callVI [] [] cv_Rod_168 sk_1 rfl d_Rod_back_43 rfl (Nat.le_of_ble_eq_true rfl) (by decide) (by decide) (c_Land_wellsX_0 h10 hI12 z14 z14Z z14E z14e.symm z16 z16Z z16E z16e.symm) (fun z18 h19 z18Z z18E p20 => ?_)
            obtain ⟨eh19, p20⟩ := p20
            subst eh19
            exact V_iret rfl d_Rod_back_46 ⟨z18, rfl, ⟨hI12, f13, ⟨Or.inl ⟨by (first | decide +kernel | omega), (by rw [show h.1 87 0 = z4 from by rw [z4e]; exact congrArg (h.1 87) (by (first | decide +kernel | omega)), z4E]; omega), p11⟩, Or.inl ⟨Or.inl ⟨by (first | decide +kernel | omega), (by rw [show h.1 87 0 = z4 from by rw [z4e]; exact congrArg (h.1 87) (by (first | decide +kernel | omega)), z4E]; omega)⟩, (by rw [show h10.1 1 0 = z14 from z14e.symm, show h10.1 1 1 = z16 from z16e.symm, z14E, z16E]; exact p20)⟩⟩⟩⟩
          ·
            refine V_aald (r := 51) sk_86 (by decide) kE (by (first | decide +kernel | omega)) (by rw [c6]; rfl) d_Rod_back_32 ?_
            obtain ⟨z21, z21Z, z21E, z21e⟩ : ∃ (y : Int32) (Y : Int), y.toInt = Y ∧ y = h.1 51 3 := ⟨_, _, rfl, rfl⟩
            obtain ⟨z22, z22Z, z22E, z22e⟩ : ∃ (y : Int32) (Y : Int), y.toInt = Y ∧ y = h.1 51 4 := ⟨_, _, rfl, rfl⟩
            refine N_callVV [.ref 51] [] cv_Rod_84 sk_0 rfl d_Rod_back_33 rfl (Nat.le_of_ble_eq_true rfl) (by decide) (by decide) (c_County_copyX_0_3 h hI z21 z21Z z21E z21e.symm z22 z22Z z22E z22e.symm) (fun h24 p25 => ?_)
            obtain ⟨hI26, fh24, p25⟩ := p25
            have f27 : fr S_Rod_backW h h24 := fr_call f0 fh24 rfl
            refine V_aload_n 0 d_Rod_back_36 rfl rfl ?_
            refine V_getR fa_Rod_12 sk_85 rfl d_Rod_back_37 ?_
            refine V_getR fa_Rod_91 sk_0 rfl d_Rod_back_40 ?_
            obtain ⟨z28, z28Z, z28E, z28e⟩ : ∃ (y : Int32) (Y : Int), y.toInt = Y ∧ y = h24.1 1 0 := ⟨_, _, rfl, rfl⟩
            have g29 : 2 ≤ z28Z ∧ z28Z ≤ 4 := inv_at hI26 z28E z28e rfl
            obtain ⟨z30, z30Z, z30E, z30e⟩ : ∃ (y : Int32) (Y : Int), y.toInt = Y ∧ y = h24.1 1 1 := ⟨_, _, rfl, rfl⟩
            have g31 : 2 ≤ z30Z ∧ z30Z ≤ 4 := inv_at hI26 z30E z30e rfl
            refine N_callVI [] [] cv_Rod_168 sk_1 rfl d_Rod_back_43 rfl (Nat.le_of_ble_eq_true rfl) (by decide) (by decide) (c_Land_wellsX_0 h24 hI26 z28 z28Z z28E z28e.symm z30 z30Z z30E z30e.symm) (fun z32 h33 z32Z z32E p34 => ?_)
            obtain ⟨eh33, p34⟩ := p34
            subst eh33
            exact V_iret rfl d_Rod_back_46 ⟨z32, rfl, ⟨hI26, f27, (by exfalso; omega)⟩⟩
        ·
          refine V_bipush (-2) d_Rod_back_20 (by decide) ?_
          exact V_iret rfl d_Rod_back_22 ⟨(-2), rfl, ⟨hI, f0, ⟨Or.inr (Or.inr ⟨Or.inl ⟨by (first | decide +kernel | omega), (by rw [show h.1 87 0 = z4 from by rw [z4e]; exact congrArg (h.1 87) (by (first | decide +kernel | omega)), z4E]; omega)⟩, rfl⟩), Or.inr (Or.inl ⟨Or.inl ⟨by (first | decide +kernel | omega), (by rw [show h.1 87 0 = z4 from by rw [z4e]; exact congrArg (h.1 87) (by (first | decide +kernel | omega)), z4E]; omega)⟩, tc_m2⟩)⟩⟩⟩
      ·
        refine V_aload_n 0 d_Rod_back_11 rfl rfl ?_
        refine V_getR fa_Rod_23 sk_85 rfl d_Rod_back_12 ?_
        refine V_iload_n 1 d_Rod_back_15 rfl rfl ?_
        refine N_zald sk_87 kE (by (first | decide +kernel | omega)) d_Rod_back_16 (fun z35 z35Z z35E z35e => ?_)
        refine V_if_ne 23 z35E d_Rod_back_17 (by decide) (fun c36 => ?_) (fun c36 => ?_)
        ·
          refine V_aload_n 0 d_Rod_back_23 rfl rfl ?_
          refine V_getR fa_Rod_12 sk_85 rfl d_Rod_back_24 ?_
          refine V_aload_n 0 d_Rod_back_27 rfl rfl ?_
          refine V_getR fa_Rod_19 sk_85 rfl d_Rod_back_28 ?_
          refine V_iload_n 1 d_Rod_back_31 rfl rfl ?_
          rcases (by (first | decide +kernel | omega) : kZ = 0 ∨ kZ = 1) with c37 | c37
          ·
            refine V_aald (r := 34) sk_86 (by decide) kE (by (first | decide +kernel | omega)) (by rw [c37]; rfl) d_Rod_back_32 ?_
            obtain ⟨z38, z38Z, z38E, z38e⟩ : ∃ (y : Int32) (Y : Int), y.toInt = Y ∧ y = h.1 34 3 := ⟨_, _, rfl, rfl⟩
            obtain ⟨z39, z39Z, z39E, z39e⟩ : ∃ (y : Int32) (Y : Int), y.toInt = Y ∧ y = h.1 34 4 := ⟨_, _, rfl, rfl⟩
            refine N_callVV [.ref 34] [] cv_Rod_84 sk_0 rfl d_Rod_back_33 rfl (Nat.le_of_ble_eq_true rfl) (by decide) (by decide) (c_County_copyX_0_2 h hI z38 z38Z z38E z38e.symm z39 z39Z z39E z39e.symm) (fun h41 p42 => ?_)
            obtain ⟨hI43, fh41, p42⟩ := p42
            have f44 : fr S_Rod_backW h h41 := fr_call f0 fh41 rfl
            refine V_aload_n 0 d_Rod_back_36 rfl rfl ?_
            refine V_getR fa_Rod_12 sk_85 rfl d_Rod_back_37 ?_
            refine V_getR fa_Rod_91 sk_0 rfl d_Rod_back_40 ?_
            obtain ⟨z45, z45Z, z45E, z45e⟩ : ∃ (y : Int32) (Y : Int), y.toInt = Y ∧ y = h41.1 1 0 := ⟨_, _, rfl, rfl⟩
            have g46 : 2 ≤ z45Z ∧ z45Z ≤ 4 := inv_at hI43 z45E z45e rfl
            obtain ⟨z47, z47Z, z47E, z47e⟩ : ∃ (y : Int32) (Y : Int), y.toInt = Y ∧ y = h41.1 1 1 := ⟨_, _, rfl, rfl⟩
            have g48 : 2 ≤ z47Z ∧ z47Z ≤ 4 := inv_at hI43 z47E z47e rfl
            refine N_callVI [] [] cv_Rod_168 sk_1 rfl d_Rod_back_43 rfl (Nat.le_of_ble_eq_true rfl) (by decide) (by decide) (c_Land_wellsX_0 h41 hI43 z45 z45Z z45E z45e.symm z47 z47Z z47E z47e.symm) (fun z49 h50 z49Z z49E p51 => ?_)
            obtain ⟨eh50, p51⟩ := p51
            subst eh50
            exact V_iret rfl d_Rod_back_46 ⟨z49, rfl, ⟨hI43, f44, (by exfalso; omega)⟩⟩
          ·
            refine V_aald (r := 51) sk_86 (by decide) kE (by (first | decide +kernel | omega)) (by rw [c37]; rfl) d_Rod_back_32 ?_
            obtain ⟨z52, z52Z, z52E, z52e⟩ : ∃ (y : Int32) (Y : Int), y.toInt = Y ∧ y = h.1 51 3 := ⟨_, _, rfl, rfl⟩
            obtain ⟨z53, z53Z, z53E, z53e⟩ : ∃ (y : Int32) (Y : Int), y.toInt = Y ∧ y = h.1 51 4 := ⟨_, _, rfl, rfl⟩
            refine N_callVV [.ref 51] [] cv_Rod_84 sk_0 rfl d_Rod_back_33 rfl (Nat.le_of_ble_eq_true rfl) (by decide) (by decide) (c_County_copyX_0_3 h hI z52 z52Z z52E z52e.symm z53 z53Z z53E z53e.symm) (fun h55 p56 => ?_)
            obtain ⟨hI57, fh55, p56⟩ := p56
            have f58 : fr S_Rod_backW h h55 := fr_call f0 fh55 rfl
            refine V_aload_n 0 d_Rod_back_36 rfl rfl ?_
            refine V_getR fa_Rod_12 sk_85 rfl d_Rod_back_37 ?_
            refine V_getR fa_Rod_91 sk_0 rfl d_Rod_back_40 ?_
            obtain ⟨z59, z59Z, z59E, z59e⟩ : ∃ (y : Int32) (Y : Int), y.toInt = Y ∧ y = h55.1 1 0 := ⟨_, _, rfl, rfl⟩
            have g60 : 2 ≤ z59Z ∧ z59Z ≤ 4 := inv_at hI57 z59E z59e rfl
            obtain ⟨z61, z61Z, z61E, z61e⟩ : ∃ (y : Int32) (Y : Int), y.toInt = Y ∧ y = h55.1 1 1 := ⟨_, _, rfl, rfl⟩
            have g62 : 2 ≤ z61Z ∧ z61Z ≤ 4 := inv_at hI57 z61E z61e rfl
            refine N_callVI [] [] cv_Rod_168 sk_1 rfl d_Rod_back_43 rfl (Nat.le_of_ble_eq_true rfl) (by decide) (by decide) (c_Land_wellsX_0 h55 hI57 z59 z59Z z59E z59e.symm z61 z61Z z61E z61e.symm) (fun z63 h64 z63Z z63E p65 => ?_)
            obtain ⟨eh64, p65⟩ := p65
            subst eh64
            exact V_iret rfl d_Rod_back_46 ⟨z63, rfl, ⟨hI57, f58, ⟨Or.inr (Or.inl ⟨by (first | decide +kernel | omega), (by rw [show h.1 87 1 = z35 from by rw [z35e]; exact congrArg (h.1 87) (by (first | decide +kernel | omega)), z35E]; omega), p56⟩), Or.inl ⟨Or.inr ⟨by (first | decide +kernel | omega), (by rw [show h.1 87 1 = z35 from by rw [z35e]; exact congrArg (h.1 87) (by (first | decide +kernel | omega)), z35E]; omega)⟩, (by rw [show h55.1 1 0 = z59 from z59e.symm, show h55.1 1 1 = z61 from z61e.symm, z59E, z61E]; exact p65)⟩⟩⟩⟩
        ·
          refine V_bipush (-2) d_Rod_back_20 (by decide) ?_
          exact V_iret rfl d_Rod_back_22 ⟨(-2), rfl, ⟨hI, f0, ⟨Or.inr (Or.inr ⟨Or.inr (Or.inl ⟨by (first | decide +kernel | omega), (by rw [show h.1 87 1 = z35 from by rw [z35e]; exact congrArg (h.1 87) (by (first | decide +kernel | omega)), z35E]; omega)⟩), rfl⟩), Or.inr (Or.inl ⟨Or.inr ⟨by (first | decide +kernel | omega), (by rw [show h.1 87 1 = z35 from by rw [z35e]; exact congrArg (h.1 87) (by (first | decide +kernel | omega)), z35E]; omega)⟩, tc_m2⟩)⟩⟩⟩
    ·
      refine V_iconst (-1) d_Rod_back_9 (by decide) ?_
      exact V_iret rfl d_Rod_back_10 ⟨(-1), rfl, ⟨hI, f0, ⟨Or.inr (Or.inr ⟨by (first | decide +kernel | omega), rfl⟩), Or.inr (Or.inr ⟨by (first | decide +kernel | omega), tc_m1⟩)⟩⟩⟩
def S_Mod_backW : List (Nat × Option Nat) := [(117, none)]
abbrev q_Mod_backW (h : Hp) (k : Int32) (kZ : Int) (w : Int32) (wZ : Int) (g : Int32) (gZ : Int) : Option Value → Hp → Prop := pInt (fun r h' => Inv h' ∧ fr S_Mod_backW h h' ∧ ((kZ = 0 ∧ (h.1 118 0).toInt ≠ 0 ∧ mcl h h' 0 144 144 ∨ kZ = 1 ∧ (h.1 118 1).toInt ≠ 0 ∧ mcl h h' 0 288 144 ∨ (kZ = 0 ∧ (h.1 118 0).toInt = 0 ∨ kZ = 1 ∧ (h.1 118 1).toInt = 0 ∨ kZ < 0 ∨ 1 < kZ) ∧ h' = h) ∧ (BK (h.1 118 0).toInt (h.1 118 1).toInt kZ r (ct (WQ (fun i => h'.1 117 i) (fun i => h'.1 117 (64 + i)) (wZ * gZ)) (wZ * gZ).toNat))))
set_option maxRecDepth 100000 in
theorem c_Mod_backW (h : Hp) (hI : Inv h) (k : Int32) (kZ : Int) (kE : k.toInt = kZ) (w : Int32) (wZ : Int) (wE : w.toInt = wZ) (wK : h.1 116 2 = w) (g : Int32) (gZ : Int) (gE : g.toInt = gZ) (gK : h.1 116 3 = g) : Ct y_Mod_back b_Mod_back 2 (some .int) 3 64 [.ref 116, .int k] h (q_Mod_backW h k kZ w wZ g gZ) := by
  refine ct_ow R_Mod [some (.ref 116), some (.int k)] rfl (by decide) rfl (Nat.le_of_ble_eq_true rfl) ?_
  have f0 : fr S_Mod_backW h h := fr_rf
  have g1 : 2 ≤ wZ ∧ wZ ≤ 4 := inv_at hI wE wK.symm rfl
  have g2 : 2 ≤ gZ ∧ gZ ≤ 4 := inv_at hI gE gK.symm rfl
  refine V_iload_n 1 d_Mod_back_0 rfl rfl ?_
  refine V_i2l d_Mod_back_1 (fun z3 z3e z3E => ?_)
  have z3F : z3.toInt = kZ := z3E.trans kE
  refine V_lconst 0 d_Mod_back_2 (by decide) ?_
  refine V_lconst 1 d_Mod_back_3 (by decide) ?_
  refine N_callSI [.long z3, .long 0, .long 1] [] cs_Mod_95 d_Mod_back_4 rfl (Nat.le_of_ble_eq_true rfl) (by decide) (by decide) (c_Mod_in h z3 kZ z3F 0 0 tl_0 1 1 tl_1) (fun z4 h5 z4Z z4E p6 => ?_)
  obtain ⟨eh5, p6⟩ := p6
  subst eh5
  refine V_if_ne 12 z4E d_Mod_back_7 (by decide) (fun c7 => ?_) (fun c7 => ?_)
  ·
    rcases (by (first | decide +kernel | omega) : kZ = 0 ∨ kZ = 1) with c8 | c8
    ·
      refine V_aload_n 0 d_Mod_back_12 rfl rfl ?_
      refine V_getR fa_Mod_13 sk_116 rfl d_Mod_back_13 ?_
      refine V_iload_n 1 d_Mod_back_16 rfl rfl ?_
      refine N_zald sk_118 kE (by (first | decide +kernel | omega)) d_Mod_back_17 (fun z9 z9Z z9E z9e => ?_)
      refine V_if_ne 24 z9E d_Mod_back_18 (by decide) (fun c10 => ?_) (fun c10 => ?_)
      ·
        refine V_aload_n 0 d_Mod_back_24 rfl rfl ?_
        refine V_iconst 0 d_Mod_back_25 (by decide) ?_
        refine V_sipush 144 d_Mod_back_26 (by decide) ?_
        refine V_iload_n 1 d_Mod_back_29 rfl rfl ?_
        refine V_iconst 1 d_Mod_back_30 (by decide) ?_
        refine V_iadd kE tc_1 (by (first | decide +kernel | omega)) d_Mod_back_31 (fun z11 z11e z11E => ?_)
        refine V_imul tc_144 z11E (by (first | decide +kernel | omega)) d_Mod_back_32 (fun z12 z12e z12E => ?_)
        refine N_callVV [.int 0, .int z12] [] cv_Mod_317 sk_116 rfl d_Mod_back_33 rfl (Nat.le_of_ble_eq_true rfl) (by decide) (by decide) (c_Mod_copiesX h hI 0 0 tc_0 z12 ((144 * (kZ + 1))) z12E (by (first | decide +kernel | omega)) (by (first | decide +kernel | omega))) (fun h14 p15 => ?_)
        obtain ⟨hI16, fh14, p15⟩ := p15
        have f17 : fr S_Mod_backW h h14 := fr_call f0 fh14 rfl
        refine V_aload_n 0 d_Mod_back_36 rfl rfl ?_
        refine N_callVI [] [] cv_Mod_223 sk_116 rfl d_Mod_back_37 rfl (Nat.le_of_ble_eq_true rfl) (by decide) (by decide) (c_Mod_wellsX h14 hI16 w wZ wE (kn_call fh14 wK rfl) g gZ gE (kn_call fh14 gK rfl)) (fun z18 h19 z18Z z18E p20 => ?_)
        obtain ⟨eh19, p20⟩ := p20
        subst eh19
        exact V_iret rfl d_Mod_back_40 ⟨z18, rfl, ⟨hI16, f17, ⟨Or.inl ⟨by (first | decide +kernel | omega), (by rw [show h.1 118 0 = z9 from by rw [z9e]; exact congrArg (h.1 118) (by (first | decide +kernel | omega)), z9E]; omega), (mcl_T (by (first | decide +kernel | omega)) p15)⟩, Or.inl ⟨Or.inl ⟨by (first | decide +kernel | omega), (by rw [show h.1 118 0 = z9 from by rw [z9e]; exact congrArg (h.1 118) (by (first | decide +kernel | omega)), z9E]; omega)⟩, p20⟩⟩⟩⟩
      ·
        refine V_bipush (-2) d_Mod_back_21 (by decide) ?_
        exact V_iret rfl d_Mod_back_23 ⟨(-2), rfl, ⟨hI, f0, ⟨Or.inr (Or.inr ⟨Or.inl ⟨by (first | decide +kernel | omega), (by rw [show h.1 118 0 = z9 from by rw [z9e]; exact congrArg (h.1 118) (by (first | decide +kernel | omega)), z9E]; omega)⟩, rfl⟩), Or.inr (Or.inl ⟨Or.inl ⟨by (first | decide +kernel | omega), (by rw [show h.1 118 0 = z9 from by rw [z9e]; exact congrArg (h.1 118) (by (first | decide +kernel | omega)), z9E]; omega)⟩, tc_m2⟩)⟩⟩⟩
    ·
      refine V_aload_n 0 d_Mod_back_12 rfl rfl ?_
      refine V_getR fa_Mod_13 sk_116 rfl d_Mod_back_13 ?_
      refine V_iload_n 1 d_Mod_back_16 rfl rfl ?_
      refine N_zald sk_118 kE (by (first | decide +kernel | omega)) d_Mod_back_17 (fun z21 z21Z z21E z21e => ?_)
      refine V_if_ne 24 z21E d_Mod_back_18 (by decide) (fun c22 => ?_) (fun c22 => ?_)
      ·
        refine V_aload_n 0 d_Mod_back_24 rfl rfl ?_
        refine V_iconst 0 d_Mod_back_25 (by decide) ?_
        refine V_sipush 144 d_Mod_back_26 (by decide) ?_
        refine V_iload_n 1 d_Mod_back_29 rfl rfl ?_
        refine V_iconst 1 d_Mod_back_30 (by decide) ?_
        refine V_iadd kE tc_1 (by (first | decide +kernel | omega)) d_Mod_back_31 (fun z23 z23e z23E => ?_)
        refine V_imul tc_144 z23E (by (first | decide +kernel | omega)) d_Mod_back_32 (fun z24 z24e z24E => ?_)
        refine N_callVV [.int 0, .int z24] [] cv_Mod_317 sk_116 rfl d_Mod_back_33 rfl (Nat.le_of_ble_eq_true rfl) (by decide) (by decide) (c_Mod_copiesX h hI 0 0 tc_0 z24 ((144 * (kZ + 1))) z24E (by (first | decide +kernel | omega)) (by (first | decide +kernel | omega))) (fun h26 p27 => ?_)
        obtain ⟨hI28, fh26, p27⟩ := p27
        have f29 : fr S_Mod_backW h h26 := fr_call f0 fh26 rfl
        refine V_aload_n 0 d_Mod_back_36 rfl rfl ?_
        refine N_callVI [] [] cv_Mod_223 sk_116 rfl d_Mod_back_37 rfl (Nat.le_of_ble_eq_true rfl) (by decide) (by decide) (c_Mod_wellsX h26 hI28 w wZ wE (kn_call fh26 wK rfl) g gZ gE (kn_call fh26 gK rfl)) (fun z30 h31 z30Z z30E p32 => ?_)
        obtain ⟨eh31, p32⟩ := p32
        subst eh31
        exact V_iret rfl d_Mod_back_40 ⟨z30, rfl, ⟨hI28, f29, ⟨Or.inr (Or.inl ⟨by (first | decide +kernel | omega), (by rw [show h.1 118 1 = z21 from by rw [z21e]; exact congrArg (h.1 118) (by (first | decide +kernel | omega)), z21E]; omega), (mcl_T (by (first | decide +kernel | omega)) p27)⟩), Or.inl ⟨Or.inr ⟨by (first | decide +kernel | omega), (by rw [show h.1 118 1 = z21 from by rw [z21e]; exact congrArg (h.1 118) (by (first | decide +kernel | omega)), z21E]; omega)⟩, p32⟩⟩⟩⟩
      ·
        refine V_bipush (-2) d_Mod_back_21 (by decide) ?_
        exact V_iret rfl d_Mod_back_23 ⟨(-2), rfl, ⟨hI, f0, ⟨Or.inr (Or.inr ⟨Or.inr (Or.inl ⟨by (first | decide +kernel | omega), (by rw [show h.1 118 1 = z21 from by rw [z21e]; exact congrArg (h.1 118) (by (first | decide +kernel | omega)), z21E]; omega)⟩), rfl⟩), Or.inr (Or.inl ⟨Or.inr ⟨by (first | decide +kernel | omega), (by rw [show h.1 118 1 = z21 from by rw [z21e]; exact congrArg (h.1 118) (by (first | decide +kernel | omega)), z21E]; omega)⟩, tc_m2⟩)⟩⟩⟩
  ·
    refine V_iconst (-1) d_Mod_back_10 (by decide) ?_
    exact V_iret rfl d_Mod_back_11 ⟨(-1), rfl, ⟨hI, f0, ⟨Or.inr (Or.inr ⟨by (first | decide +kernel | omega), rfl⟩), Or.inr (Or.inr ⟨by (first | decide +kernel | omega), tc_m1⟩)⟩⟩⟩
abbrev q_Land_boredBitsX_0 (h : Hp) (d : Int32) (dZ : Int) (w : Int32) (wZ : Int) (g : Int32) (gZ : Int) : Option Value → Hp → Prop := pInt (fun r h' => h = h' ∧ (BS r (BQ (h.1 6) dZ (wZ * gZ))))
set_option maxRecDepth 100000 in
theorem c_Land_boredBitsX_0 (h : Hp) (hI : Inv h) (d : Int32) (dZ : Int) (dE : d.toInt = dZ) (w : Int32) (wZ : Int) (wE : w.toInt = wZ) (wK : h.1 1 0 = w) (g : Int32) (gZ : Int) (gE : g.toInt = gZ) (gK : h.1 1 1 = g) : Ct y_Land_boredBits b_Land_boredBits 4 (some .int) 1 20 [.ref 1, .int d] h (q_Land_boredBitsX_0 h d dZ w wZ g gZ) := by
  refine ct_ow R_Land [some (.ref 1), some (.int d), none, none] rfl (by decide) rfl (Nat.le_of_ble_eq_true rfl) ?_
  have f0 : fr [] h h := fr_rf
  have g1 : 2 ≤ wZ ∧ wZ ≤ 4 := inv_at hI wE wK.symm rfl
  have g2 : 2 ≤ gZ ∧ gZ ≤ 4 := inv_at hI gE gK.symm rfl
  have m24 := mul24 (A := wZ) (B := gZ) (by (first | decide +kernel | omega)) (by (first | decide +kernel | omega))
  refine V_iconst 0 d_Land_boredBits_0 (by decide) ?_
  refine V_istore_n 2 [some (.ref 1), some (.int d), some (.int 0), none] d_Land_boredBits_1 rfl (by decide) rfl rfl ?_
  refine V_iconst 0 d_Land_boredBits_2 (by decide) ?_
  refine V_istore_n 3 [some (.ref 1), some (.int d), some (.int 0), some (.int 0)] d_Land_boredBits_3 rfl (by decide) rfl rfl ?_
  have L3 : ∀ (nn : Nat) (v5 : Int32) (v5Z : Int) (v6 : Int32) (v6Z : Int), v5.toInt = v5Z → v6.toInt = v6Z → 0 ≤ v6Z ∧ v6Z ≤ wZ * gZ → BS v5 (BQ (h.1 6) dZ v6Z) → 16 - v6Z < (nn : Int) → V R_Land b_Land_boredBits 4 (some .int) 1 20 (q_Land_boredBitsX_0 h d dZ w wZ g gZ) h 4 [some (.ref 1), some (.int d), some (.int v5), some (.int v6)] [] := by
    intro nn
    induction nn with
    | zero => intro v5 v5Z v6 v6Z v5E v6E q7 q8 hm9; exact absurd hm9 (by (first | decide +kernel | omega))
    | succ nn ihL3 =>
      intro v5 v5Z v6 v6Z v5E v6E q7 q8 hm9
      refine V_iload_n 3 d_Land_boredBits_4 rfl rfl ?_
      refine V_aload_n 0 d_Land_boredBits_5 rfl rfl ?_
      refine N_callVI [] [.int v6] cv_Land_52 sk_1 rfl d_Land_boredBits_6 rfl (Nat.le_of_ble_eq_true rfl) (by decide) (by decide) (c_Land_cells_0 h hI w wZ wE wK g gZ gE gK) (fun z10 h11 z10Z z10E p12 => ?_)
      obtain ⟨eh11, p12⟩ := p12
      subst eh11
      refine V_icmp_ge 34 v6E z10E d_Land_boredBits_9 (by decide) (fun c13 => ?_) (fun c13 => ?_)
      ·
        refine V_iload_n 2 d_Land_boredBits_34 rfl rfl ?_
        exact V_iret rfl d_Land_boredBits_35 ⟨v5, rfl, ⟨rfl, (by rw [show wZ * gZ = v6Z by (first | decide +kernel | omega)]; assumption)⟩⟩
      ·
        refine V_aload_n 0 d_Land_boredBits_12 rfl rfl ?_
        refine V_getR fa_Land_24 sk_1 rfl d_Land_boredBits_13 ?_
        refine V_iload_n 3 d_Land_boredBits_16 rfl rfl ?_
        refine N_iald sk_6 v6E (by (first | decide +kernel | omega)) d_Land_boredBits_17 (fun z14 z14Z z14E z14e => ?_)
        refine V_iload_n 1 d_Land_boredBits_18 rfl rfl ?_
        refine V_icmp_lt 28 z14E dE d_Land_boredBits_19 (by decide) (fun c15 => ?_) (fun c15 => ?_)
        ·
          obtain ⟨z16, z16E, z16e⟩ : ∃ y : Int32, y.toInt = v6Z + 1 ∧ y = v6 + Int32.ofInt 1 := ⟨_, ti_add v6E (by decide) (by (first | decide +kernel | omega)), rfl⟩
          refine V_iinc 3 [some (.ref 1), some (.int d), some (.int v5), some (.int z16)] d_Land_boredBits_28 rfl z16e.symm (by decide) rfl rfl ?_
          refine V_goto 4 d_Land_boredBits_31 (by decide) ?_
          exact ihL3 v5 v5Z z16 ((v6Z + 1)) v5E z16E (by (first | decide +kernel | omega)) (BQ_n (by assumption) (by (first | decide +kernel | omega)) z14e z14E (by (first | decide +kernel | omega))) (by (first | decide +kernel | omega))
        ·
          refine V_iload_n 2 d_Land_boredBits_22 rfl rfl ?_
          refine V_iconst 1 d_Land_boredBits_23 (by decide) ?_
          refine V_iload_n 3 d_Land_boredBits_24 rfl rfl ?_
          refine N_ishl d_Land_boredBits_25 (fun z17 z17Z z17E z17e => ?_)
          refine N_ior d_Land_boredBits_26 (fun z18 z18Z z18E z18e => ?_)
          refine V_istore_n 2 [some (.ref 1), some (.int d), some (.int z18), some (.int v6)] d_Land_boredBits_27 rfl (by decide) rfl rfl ?_
          obtain ⟨z19, z19E, z19e⟩ : ∃ y : Int32, y.toInt = v6Z + 1 ∧ y = v6 + Int32.ofInt 1 := ⟨_, ti_add v6E (by decide) (by (first | decide +kernel | omega)), rfl⟩
          refine V_iinc 3 [some (.ref 1), some (.int d), some (.int z18), some (.int z19)] d_Land_boredBits_28 rfl z19e.symm (by decide) rfl rfl ?_
          refine V_goto 4 d_Land_boredBits_31 (by decide) ?_
          exact ihL3 z18 z18Z z19 ((v6Z + 1)) z18E z19E (by (first | decide +kernel | omega)) (BQ_1 (by assumption) v6E (by (first | decide +kernel | omega)) z14e z14E (by (first | decide +kernel | omega)) z17e z18e) (by (first | decide +kernel | omega))
  exact L3 (Int.toNat ((16 - 0 : Int) + 1)) 0 0 0 0 tc_0 tc_0 (by (first | decide +kernel | omega)) BQ_0 (by (first | decide +kernel | omega))
abbrev q_Ledger_allPursesX_0 (h : Hp)  : Option Value → Hp → Prop := pInt (fun r h' => h = h' ∧ (r = sm (h.1 8) 4))
set_option maxRecDepth 100000 in
theorem c_Ledger_allPursesX_0 (h : Hp) (hI : Inv h) : Ct y_Ledger_allPurses b_Ledger_allPurses 3 (some .int) 0 0 [.ref 7] h (q_Ledger_allPursesX_0 h ) := by
  refine ct_ow R_Ledger [some (.ref 7), none, none] rfl (by decide) rfl (Nat.le_of_ble_eq_true rfl) ?_
  have f0 : fr [] h h := fr_rf
  refine V_iconst 0 d_Ledger_allPurses_0 (by decide) ?_
  refine V_istore_n 1 [some (.ref 7), some (.int 0), none] d_Ledger_allPurses_1 rfl (by decide) rfl rfl ?_
  refine V_iconst 0 d_Ledger_allPurses_2 (by decide) ?_
  refine V_istore_n 2 [some (.ref 7), some (.int 0), some (.int 0)] d_Ledger_allPurses_3 rfl (by decide) rfl rfl ?_
  have L1 : ∀ (nn : Nat) (v3 : Int32) (v3Z : Int) (v4 : Int32) (v4Z : Int), v3.toInt = v3Z → v4.toInt = v4Z → 0 ≤ v4Z ∧ v4Z ≤ 4 → v3 = sm (h.1 8) (v4Z).toNat → 4 - v4Z < (nn : Int) → V R_Ledger b_Ledger_allPurses 3 (some .int) 0 0 (q_Ledger_allPursesX_0 h ) h 4 [some (.ref 7), some (.int v3), some (.int v4)] [] := by
    intro nn
    induction nn with
    | zero => intro v3 v3Z v4 v4Z v3E v4E q5 q6 hm7; exact absurd hm7 (by (first | decide +kernel | omega))
    | succ nn ihL1 =>
      intro v3 v3Z v4 v4Z v3E v4E q5 q6 hm7
      refine V_iload_n 2 d_Ledger_allPurses_4 rfl rfl ?_
      refine V_iconst 4 d_Ledger_allPurses_5 (by decide) ?_
      refine V_icmp_ge 24 v4E tc_4 d_Ledger_allPurses_6 (by decide) (fun c8 => ?_) (fun c8 => ?_)
      ·
        refine V_iload_n 1 d_Ledger_allPurses_24 rfl rfl ?_
        exact V_iret rfl d_Ledger_allPurses_25 ⟨v3, rfl, ⟨rfl, (by rw [show (4 : Nat) = (v4Z).toNat by (first | decide +kernel | omega)]; assumption)⟩⟩
      ·
        refine V_iload_n 1 d_Ledger_allPurses_9 rfl rfl ?_
        refine V_aload_n 0 d_Ledger_allPurses_10 rfl rfl ?_
        refine V_getR fa_Ledger_9 sk_7 rfl d_Ledger_allPurses_11 ?_
        refine V_iload_n 2 d_Ledger_allPurses_14 rfl rfl ?_
        refine N_iald sk_8 v4E (by (first | decide +kernel | omega)) d_Ledger_allPurses_15 (fun z9 z9Z z9E z9e => ?_)
        refine N_iaddw d_Ledger_allPurses_16 (fun z10 z10Z z10E z10e => ?_)
        refine V_istore_n 1 [some (.ref 7), some (.int z10), some (.int v4)] d_Ledger_allPurses_17 rfl (by decide) rfl rfl ?_
        obtain ⟨z11, z11E, z11e⟩ : ∃ y : Int32, y.toInt = v4Z + 1 ∧ y = v4 + Int32.ofInt 1 := ⟨_, ti_add v4E (by decide) (by (first | decide +kernel | omega)), rfl⟩
        refine V_iinc 2 [some (.ref 7), some (.int z10), some (.int z11)] d_Ledger_allPurses_18 rfl z11e.symm (by decide) rfl rfl ?_
        refine V_goto 4 d_Ledger_allPurses_21 (by decide) ?_
        exact ihL1 z10 z10Z z11 ((v4Z + 1)) z10E z11E (by (first | decide +kernel | omega)) (sm_s (by (first | decide +kernel | omega)) (by assumption) z9e z10e) (by (first | decide +kernel | omega))
  exact L1 (Int.toNat ((4 - 0 : Int) + 1)) 0 0 0 0 tc_0 tc_0 (by (first | decide +kernel | omega)) rfl (by (first | decide +kernel | omega))
abbrev q_Rod_countX (h : Hp) (a : Int32) (aZ : Int) (w : Int32) (wZ : Int) (g : Int32) (gZ : Int) : Option Value → Hp → Prop := pInt (fun r h' => h = h' ∧ (CN aZ r (h.1 12 4) (h.1 89 1) (h.1 108 2) (sm (h.1 8) 4) (ct (WQ (h.1 2) (h.1 6) (wZ * gZ)) 32) (ct (BQ (h.1 6) 1 (wZ * gZ)) 32) (h.1 87 0) (h.1 87 1) (h.1 108 1).toInt (-1)))
set_option maxRecDepth 100000 in
theorem c_Rod_countX (h : Hp) (hI : Inv h) (a : Int32) (aZ : Int) (aE : a.toInt = aZ) (w : Int32) (wZ : Int) (wE : w.toInt = wZ) (wK : h.1 1 0 = w) (g : Int32) (gZ : Int) (gE : g.toInt = gZ) (gK : h.1 1 1 = g) : Ct y_Rod_count b_Rod_count 2 (some .int) 3 63 [.ref 85, .int a] h (q_Rod_countX h a aZ w wZ g gZ) := by
  refine ct_ow R_Rod [some (.ref 85), some (.int a)] rfl (by decide) rfl (Nat.le_of_ble_eq_true rfl) ?_
  have f0 : fr [] h h := fr_rf
  have g1 : 2 ≤ wZ ∧ wZ ≤ 4 := inv_at hI wE wK.symm rfl
  have g2 : 2 ≤ gZ ∧ gZ ≤ 4 := inv_at hI gE gK.symm rfl
  refine V_iload_n 1 d_Rod_count_0 rfl rfl ?_
  rcases (by (first | decide +kernel | omega) : (aZ < 0 ∨ 6 < aZ) ∨ aZ = 0 ∨ aZ = 1 ∨ aZ = 2 ∨ aZ = 3 ∨ aZ = 4 ∨ aZ = 5 ∨ aZ = 6) with c3 | c3 | c3 | c3 | c3 | c3 | c3 | c3
  ·
    refine V_tabOut 148 aE d_Rod_count_1 c3 (by decide) ?_
    refine V_iconst (-1) d_Rod_count_148 (by decide) ?_
    exact V_iret rfl d_Rod_count_149 ⟨(-1), rfl, ⟨rfl, (Or.inr (Or.inr (Or.inr (Or.inr (Or.inr (Or.inr (Or.inr ⟨by (first | decide +kernel | omega), tc_m1⟩)))))))⟩⟩
  ·
    refine V_tabIn 44 aE d_Rod_count_1 (by (first | decide +kernel | omega)) (by (first | decide +kernel | omega)) (by rw [c3]; rfl) (by decide) ?_
    refine V_aload_n 0 d_Rod_count_44 rfl rfl ?_
    refine V_getR fa_Rod_12 sk_85 rfl d_Rod_count_45 ?_
    refine V_getR fa_Rod_91 sk_0 rfl d_Rod_count_48 ?_
    refine N_callVI [] [] cv_Rod_168 sk_1 rfl d_Rod_count_51 rfl (Nat.le_of_ble_eq_true rfl) (by decide) (by decide) (c_Land_wellsX_0 h hI w wZ wE wK g gZ gE gK) (fun z4 h5 z4Z z4E p6 => ?_)
    obtain ⟨eh5, p6⟩ := p6
    subst eh5
    exact V_iret rfl d_Rod_count_54 ⟨z4, rfl, ⟨rfl, (Or.inl ⟨by (first | decide +kernel | omega), p6⟩)⟩⟩
  ·
    refine V_tabIn 55 aE d_Rod_count_1 (by (first | decide +kernel | omega)) (by (first | decide +kernel | omega)) (by rw [c3]; rfl) (by decide) ?_
    refine V_aload_n 0 d_Rod_count_55 rfl rfl ?_
    refine V_getR fa_Rod_12 sk_85 rfl d_Rod_count_56 ?_
    refine V_getR fa_Rod_91 sk_0 rfl d_Rod_count_59 ?_
    refine V_iconst 1 d_Rod_count_62 (by decide) ?_
    refine N_callVI [.int 1] [] cv_Rod_312 sk_1 rfl d_Rod_count_63 rfl (Nat.le_of_ble_eq_true rfl) (by decide) (by decide) (c_Land_boredBitsX_0 h hI 1 1 tc_1 w wZ wE wK g gZ gE gK) (fun z7 h8 z7Z z7E p9 => ?_)
    obtain ⟨eh8, p9⟩ := p9
    subst eh8
    refine N_callSI [.int z7] [] cs_Rod_199 d_Rod_count_66 rfl (Nat.le_of_ble_eq_true rfl) (by decide) (by decide) (c_Int_bitCountX h z7 z7Z z7E) (fun z10 h11 z10Z z10E p12 => ?_)
    obtain ⟨eh11, p12⟩ := p12
    subst eh11
    exact V_iret rfl d_Rod_count_69 ⟨z10, rfl, ⟨rfl, (Or.inr (Or.inl ⟨by (first | decide +kernel | omega), (p12.trans (congrArg (fun q : Nat => (q : Int)) (BS_ct p9)))⟩))⟩⟩
  ·
    refine V_tabIn 70 aE d_Rod_count_1 (by (first | decide +kernel | omega)) (by (first | decide +kernel | omega)) (by rw [c3]; rfl) (by decide) ?_
    refine V_aload_n 0 d_Rod_count_70 rfl rfl ?_
    refine V_getR fa_Rod_12 sk_85 rfl d_Rod_count_71 ?_
    refine V_getR fa_Rod_178 sk_0 rfl d_Rod_count_74 ?_
    refine N_getI fa_Rod_182 sk_12 rfl d_Rod_count_77 (fun z13 z13Z z13E z13e => ?_)
    have g14 : 0 ≤ z13Z ∧ z13Z ≤ 8 := inv_at hI z13E z13e rfl
    exact V_iret rfl d_Rod_count_80 ⟨z13, rfl, ⟨rfl, (Or.inr (Or.inr (Or.inl ⟨by (first | decide +kernel | omega), (z13e.symm).symm⟩)))⟩⟩
  ·
    refine V_tabIn 81 aE d_Rod_count_1 (by (first | decide +kernel | omega)) (by (first | decide +kernel | omega)) (by rw [c3]; rfl) (by decide) ?_
    refine V_aload_n 0 d_Rod_count_81 rfl rfl ?_
    refine V_getR fa_Rod_23 sk_85 rfl d_Rod_count_82 ?_
    refine V_iconst 0 d_Rod_count_85 (by decide) ?_
    refine N_zald sk_87 tc_0 (by (first | decide +kernel | omega)) d_Rod_count_86 (fun z15 z15Z z15E z15e => ?_)
    refine N_callSI [.int z15] [] cs_Rod_147 d_Rod_count_87 rfl (Nat.le_of_ble_eq_true rfl) (by decide) (by decide) (c_Rod_oneIf h z15 z15Z z15E) (fun z16 h17 z16Z z16E p18 => ?_)
    obtain ⟨eh17, p18⟩ := p18
    subst eh17
    refine V_aload_n 0 d_Rod_count_90 rfl rfl ?_
    refine V_getR fa_Rod_23 sk_85 rfl d_Rod_count_91 ?_
    refine V_iconst 1 d_Rod_count_94 (by decide) ?_
    refine N_zald sk_87 tc_1 (by (first | decide +kernel | omega)) d_Rod_count_95 (fun z19 z19Z z19E z19e => ?_)
    refine N_callSI [.int z19] [.int z16] cs_Rod_147 d_Rod_count_96 rfl (Nat.le_of_ble_eq_true rfl) (by decide) (by decide) (c_Rod_oneIf h z19 z19Z z19E) (fun z20 h21 z20Z z20E p22 => ?_)
    obtain ⟨eh21, p22⟩ := p22
    subst eh21
    refine V_iadd z16E z20E (by (first | decide +kernel | omega)) d_Rod_count_99 (fun z23 z23e z23E => ?_)
    exact V_iret rfl d_Rod_count_100 ⟨z23, rfl, ⟨rfl, (Or.inr (Or.inr (Or.inr (Or.inl ⟨by (first | decide +kernel | omega), z16, z20, FQ_of z15e rfl z15E p18, FQ_of z19e rfl z19E p22, z23e⟩))))⟩⟩
  ·
    refine V_tabIn 101 aE d_Rod_count_1 (by (first | decide +kernel | omega)) (by (first | decide +kernel | omega)) (by rw [c3]; rfl) (by decide) ?_
    refine V_aload_n 0 d_Rod_count_101 rfl rfl ?_
    refine V_getR fa_Rod_38 sk_85 rfl d_Rod_count_102 ?_
    refine N_getI fa_Rod_67 sk_89 rfl d_Rod_count_105 (fun z24 z24Z z24E z24e => ?_)
    have g25 : 0 ≤ z24Z ∧ z24Z ≤ 160 := inv_at hI z24E z24e rfl
    exact V_iret rfl d_Rod_count_108 ⟨z24, rfl, ⟨rfl, (Or.inr (Or.inr (Or.inr (Or.inr (Or.inl ⟨by (first | decide +kernel | omega), (z24e.symm).symm⟩)))))⟩⟩
  ·
    refine V_tabIn 109 aE d_Rod_count_1 (by (first | decide +kernel | omega)) (by (first | decide +kernel | omega)) (by rw [c3]; rfl) (by decide) ?_
    refine V_aload_n 0 d_Rod_count_109 rfl rfl ?_
    refine V_getR fa_Rod_62 sk_85 rfl d_Rod_count_110 ?_
    refine V_iconst 0 d_Rod_count_113 (by decide) ?_
    refine V_aald (r := 108) sk_107 (by decide) tc_0 (by (first | decide +kernel | omega)) rfl d_Rod_count_114 ?_
    refine N_getI fa_Rod_293 sk_108 rfl d_Rod_count_115 (fun z26 z26Z z26E z26e => ?_)
    refine V_iconst (-1) d_Rod_count_118 (by decide) ?_
    refine V_icmp_ne 127 z26E tc_m1 d_Rod_count_119 (by decide) (fun c27 => ?_) (fun c27 => ?_)
    ·
      refine V_aload_n 0 d_Rod_count_127 rfl rfl ?_
      refine V_getR fa_Rod_62 sk_85 rfl d_Rod_count_128 ?_
      refine V_iconst 0 d_Rod_count_131 (by decide) ?_
      refine V_aald (r := 108) sk_107 (by decide) tc_0 (by (first | decide +kernel | omega)) rfl d_Rod_count_132 ?_
      refine N_getI fa_Rod_296 sk_108 rfl d_Rod_count_133 (fun z28 z28Z z28E z28e => ?_)
      have g29 : 0 ≤ z28Z ∧ z28Z ≤ 40 := inv_at hI z28E z28e rfl
      exact V_iret rfl d_Rod_count_136 ⟨z28, rfl, ⟨rfl, (Or.inr (Or.inr (Or.inr (Or.inr (Or.inr (Or.inl ⟨by (first | decide +kernel | omega), Or.inr ⟨by rw [show h.1 108 1 = z26 from z26e.symm, z26E]; omega, (z28e.symm).symm⟩⟩))))))⟩⟩
    ·
      refine V_bipush (-4) d_Rod_count_122 (by decide) ?_
      refine V_goto 136 d_Rod_count_124 (by decide) ?_
      exact V_iret rfl d_Rod_count_136 ⟨(-4), rfl, ⟨rfl, (Or.inr (Or.inr (Or.inr (Or.inr (Or.inr (Or.inl ⟨by (first | decide +kernel | omega), Or.inl ⟨by rw [show h.1 108 1 = z26 from z26e.symm, z26E]; omega, tc_m4⟩⟩))))))⟩⟩
  ·
    refine V_tabIn 137 aE d_Rod_count_1 (by (first | decide +kernel | omega)) (by (first | decide +kernel | omega)) (by rw [c3]; rfl) (by decide) ?_
    refine V_aload_n 0 d_Rod_count_137 rfl rfl ?_
    refine V_getR fa_Rod_12 sk_85 rfl d_Rod_count_138 ?_
    refine V_getR fa_Rod_115 sk_0 rfl d_Rod_count_141 ?_
    refine N_callVI [] [] cv_Rod_315 sk_7 rfl d_Rod_count_144 rfl (Nat.le_of_ble_eq_true rfl) (by decide) (by decide) (c_Ledger_allPursesX_0 h hI) (fun z30 h31 z30Z z30E p32 => ?_)
    obtain ⟨eh31, p32⟩ := p32
    subst eh31
    exact V_iret rfl d_Rod_count_147 ⟨z30, rfl, ⟨rfl, (Or.inr (Or.inr (Or.inr (Or.inr (Or.inr (Or.inr (Or.inl ⟨by (first | decide +kernel | omega), p32⟩)))))))⟩⟩
abbrev q_Mod_countX (h : Hp) (a : Int32) (aZ : Int) (w : Int32) (wZ : Int) (g : Int32) (gZ : Int) : Option Value → Hp → Prop := pInt (fun r h' => h = h' ∧ (CN aZ r (h.1 117 111) (h.1 116 15) (h.1 129 0) (sm (fun i => h.1 117 (80 + i)) 4) (ct (WQ (fun i => h.1 117 i) (fun i => h.1 117 (64 + i)) (wZ * gZ)) (wZ * gZ).toNat) (ct (BQ (fun i => h.1 117 (64 + i)) 1 (wZ * gZ)) (wZ * gZ).toNat) (h.1 118 0) (h.1 118 1) (h.1 128 0).toInt (-4)))
set_option maxRecDepth 100000 in
theorem c_Mod_countX (h : Hp) (hI : Inv h) (a : Int32) (aZ : Int) (aE : a.toInt = aZ) (w : Int32) (wZ : Int) (wE : w.toInt = wZ) (wK : h.1 116 2 = w) (g : Int32) (gZ : Int) (gE : g.toInt = gZ) (gK : h.1 116 3 = g) : Ct y_Mod_count b_Mod_count 5 (some .int) 3 64 [.ref 116, .int a] h (q_Mod_countX h a aZ w wZ g gZ) := by
  refine ct_ow R_Mod [some (.ref 116), some (.int a), none, none, none] rfl (by decide) rfl (Nat.le_of_ble_eq_true rfl) ?_
  have f0 : fr [] h h := fr_rf
  have g1 : 2 ≤ wZ ∧ wZ ≤ 4 := inv_at hI wE wK.symm rfl
  have g2 : 2 ≤ gZ ∧ gZ ≤ 4 := inv_at hI gE gK.symm rfl
  have m24 := mul24 (A := wZ) (B := gZ) (by (first | decide +kernel | omega)) (by (first | decide +kernel | omega))
  refine V_iconst 0 d_Mod_count_0 (by decide) ?_
  refine V_istore_n 2 [some (.ref 116), some (.int a), some (.int 0), none, none] d_Mod_count_1 rfl (by decide) rfl rfl ?_
  refine V_iconst 0 d_Mod_count_2 (by decide) ?_
  refine V_istore_n 3 [some (.ref 116), some (.int a), some (.int 0), some (.int 0), none] d_Mod_count_3 rfl (by decide) rfl rfl ?_
  refine V_iconst 0 d_Mod_count_4 (by decide) ?_
  refine V_istore 4 [some (.ref 116), some (.int a), some (.int 0), some (.int 0), some (.int 0)] d_Mod_count_5 (by decide) rfl rfl ?_
  have L3 : ∀ (nn : Nat) (v5 : Int32) (v5Z : Int) (v6 : Int32) (v6Z : Int), v5.toInt = v5Z → v6.toInt = v6Z → 0 ≤ v6Z ∧ v6Z ≤ wZ * gZ → v5Z = (ct (BQ (fun i => h.1 117 (64 + i)) 1 (wZ * gZ)) (v6Z).toNat : Nat) → 0 ≤ v5Z ∧ v5Z ≤ v6Z → 16 - v6Z < (nn : Int) → V R_Mod b_Mod_count 5 (some .int) 3 64 (q_Mod_countX h a aZ w wZ g gZ) h 7 [some (.ref 116), some (.int a), some (.int v5), some (.int 0), some (.int v6)] [] := by
    intro nn
    induction nn with
    | zero => intro v5 v5Z v6 v6Z v5E v6E q7 q8 q9 hm10; exact absurd hm10 (by (first | decide +kernel | omega))
    | succ nn ihL3 =>
      intro v5 v5Z v6 v6Z v5E v6E q7 q8 q9 hm10
      refine V_iload d_Mod_count_7 rfl ?_
      refine V_aload_n 0 d_Mod_count_9 rfl rfl ?_
      refine N_callVI [] [.int v6] cv_Mod_183 sk_116 rfl d_Mod_count_10 rfl (Nat.le_of_ble_eq_true rfl) (by decide) (by decide) (c_Mod_cellMany h hI w wZ wE wK g gZ gE gK) (fun z11 h12 z11Z z11E p13 => ?_)
      obtain ⟨eh12, p13⟩ := p13
      subst eh12
      refine V_icmp_ge 46 v6E z11E d_Mod_count_13 (by decide) (fun c14 => ?_) (fun c14 => ?_)
      ·
        have hn1 : v5Z = (ct (BQ (fun i => h.1 117 (64 + i)) 1 (wZ * gZ)) (wZ * gZ).toNat : Nat) := by rw [show (wZ * gZ).toNat = (v6Z).toNat by (first | decide +kernel | omega)]; assumption
        refine V_iconst 0 d_Mod_count_46 (by decide) ?_
        refine V_istore 4 [some (.ref 116), some (.int a), some (.int v5), some (.int 0), some (.int 0)] d_Mod_count_47 (by decide) rfl rfl ?_
        have L15 : ∀ (nn : Nat) (v17 : Int32) (v17Z : Int) (v18 : Int32) (v18Z : Int), v17.toInt = v17Z → v18.toInt = v18Z → 0 ≤ v18Z ∧ v18Z ≤ 4 → v17 = sm (fun i => h.1 117 (80 + i)) (v18Z).toNat → 4 - v18Z < (nn : Int) → V R_Mod b_Mod_count 5 (some .int) 3 64 (q_Mod_countX h a aZ w wZ g gZ) h 49 [some (.ref 116), some (.int a), some (.int v5), some (.int v17), some (.int v18)] [] := by
          intro nn
          induction nn with
          | zero => intro v17 v17Z v18 v18Z v17E v18E q19 q20 hm21; exact absurd hm21 (by (first | decide +kernel | omega))
          | succ nn ihL15 =>
            intro v17 v17Z v18 v18Z v17E v18E q19 q20 hm21
            refine V_iload d_Mod_count_49 rfl ?_
            refine V_iconst 4 d_Mod_count_51 (by decide) ?_
            refine V_icmp_ge 74 v18E tc_4 d_Mod_count_52 (by decide) (fun c22 => ?_) (fun c22 => ?_)
            ·
              have hs6 : v17 = sm (fun i => h.1 117 (80 + i)) 4 := by rw [show (4 : Nat) = (v18Z).toNat by (first | decide +kernel | omega)]; assumption
              refine V_iload_n 1 d_Mod_count_74 rfl rfl ?_
              rcases (by (first | decide +kernel | omega) : (aZ < 0 ∨ 6 < aZ) ∨ aZ = 0 ∨ aZ = 1 ∨ aZ = 2 ∨ aZ = 3 ∨ aZ = 4 ∨ aZ = 5 ∨ aZ = 6) with c23 | c23 | c23 | c23 | c23 | c23 | c23 | c23
              ·
                refine V_tabOut 181 aE d_Mod_count_75 c23 (by decide) ?_
                refine V_iconst (-1) d_Mod_count_181 (by decide) ?_
                exact V_iret rfl d_Mod_count_182 ⟨(-1), rfl, ⟨rfl, (Or.inr (Or.inr (Or.inr (Or.inr (Or.inr (Or.inr (Or.inr ⟨by (first | decide +kernel | omega), tc_m1⟩)))))))⟩⟩
              ·
                refine V_tabIn 116 aE d_Mod_count_75 (by (first | decide +kernel | omega)) (by (first | decide +kernel | omega)) (by rw [c23]; rfl) (by decide) ?_
                refine V_aload_n 0 d_Mod_count_116 rfl rfl ?_
                refine N_callVI [] [] cv_Mod_223 sk_116 rfl d_Mod_count_117 rfl (Nat.le_of_ble_eq_true rfl) (by decide) (by decide) (c_Mod_wellsX h hI w wZ wE wK g gZ gE gK) (fun z24 h25 z24Z z24E p26 => ?_)
                obtain ⟨eh25, p26⟩ := p26
                subst eh25
                exact V_iret rfl d_Mod_count_120 ⟨z24, rfl, ⟨rfl, (Or.inl ⟨by (first | decide +kernel | omega), p26⟩)⟩⟩
              ·
                refine V_tabIn 121 aE d_Mod_count_75 (by (first | decide +kernel | omega)) (by (first | decide +kernel | omega)) (by rw [c23]; rfl) (by decide) ?_
                refine V_iload_n 2 d_Mod_count_121 rfl rfl ?_
                exact V_iret rfl d_Mod_count_122 ⟨v5, rfl, ⟨rfl, (Or.inr (Or.inl ⟨by (first | decide +kernel | omega), (v5E.trans hn1)⟩))⟩⟩
              ·
                refine V_tabIn 123 aE d_Mod_count_75 (by (first | decide +kernel | omega)) (by (first | decide +kernel | omega)) (by rw [c23]; rfl) (by decide) ?_
                refine V_aload_n 0 d_Mod_count_123 rfl rfl ?_
                refine V_getR fa_Mod_7 sk_116 rfl d_Mod_count_124 ?_
                refine V_bipush 111 d_Mod_count_127 (by decide) ?_
                refine N_iald sk_117 tc_111 (by (first | decide +kernel | omega)) d_Mod_count_129 (fun z27 z27Z z27E z27e => ?_)
                have g28 : 0 ≤ z27Z ∧ z27Z ≤ 8 := inv_at hI z27E z27e rfl
                exact V_iret rfl d_Mod_count_130 ⟨z27, rfl, ⟨rfl, (Or.inr (Or.inr (Or.inl ⟨by (first | decide +kernel | omega), (z27e.symm).symm⟩)))⟩⟩
              ·
                refine V_tabIn 131 aE d_Mod_count_75 (by (first | decide +kernel | omega)) (by (first | decide +kernel | omega)) (by rw [c23]; rfl) (by decide) ?_
                refine V_aload_n 0 d_Mod_count_131 rfl rfl ?_
                refine V_getR fa_Mod_13 sk_116 rfl d_Mod_count_132 ?_
                refine V_iconst 0 d_Mod_count_135 (by decide) ?_
                refine N_zald sk_118 tc_0 (by (first | decide +kernel | omega)) d_Mod_count_136 (fun z29 z29Z z29E z29e => ?_)
                refine N_callSI [.int z29] [] cs_Mod_196 d_Mod_count_137 rfl (Nat.le_of_ble_eq_true rfl) (by decide) (by decide) (c_Mod_flag h z29 z29Z z29E) (fun z30 h31 z30Z z30E p32 => ?_)
                obtain ⟨eh31, p32⟩ := p32
                subst eh31
                refine V_aload_n 0 d_Mod_count_140 rfl rfl ?_
                refine V_getR fa_Mod_13 sk_116 rfl d_Mod_count_141 ?_
                refine V_iconst 1 d_Mod_count_144 (by decide) ?_
                refine N_zald sk_118 tc_1 (by (first | decide +kernel | omega)) d_Mod_count_145 (fun z33 z33Z z33E z33e => ?_)
                refine N_callSI [.int z33] [.int z30] cs_Mod_196 d_Mod_count_146 rfl (Nat.le_of_ble_eq_true rfl) (by decide) (by decide) (c_Mod_flag h z33 z33Z z33E) (fun z34 h35 z34Z z34E p36 => ?_)
                obtain ⟨eh35, p36⟩ := p36
                subst eh35
                refine V_iadd z30E z34E (by (first | decide +kernel | omega)) d_Mod_count_149 (fun z37 z37e z37E => ?_)
                exact V_iret rfl d_Mod_count_150 ⟨z37, rfl, ⟨rfl, (Or.inr (Or.inr (Or.inr (Or.inl ⟨by (first | decide +kernel | omega), z30, z34, FQ_of z29e rfl z29E p32, FQ_of z33e rfl z33E p36, z37e⟩))))⟩⟩
              ·
                refine V_tabIn 151 aE d_Mod_count_75 (by (first | decide +kernel | omega)) (by (first | decide +kernel | omega)) (by rw [c23]; rfl) (by decide) ?_
                refine V_aload_n 0 d_Mod_count_151 rfl rfl ?_
                refine N_getI fa_Mod_99 sk_116 rfl d_Mod_count_152 (fun z38 z38Z z38E z38e => ?_)
                have g39 : 0 ≤ z38Z ∧ z38Z ≤ 160 := inv_at hI z38E z38e rfl
                exact V_iret rfl d_Mod_count_155 ⟨z38, rfl, ⟨rfl, (Or.inr (Or.inr (Or.inr (Or.inr (Or.inl ⟨by (first | decide +kernel | omega), (z38e.symm).symm⟩)))))⟩⟩
              ·
                refine V_tabIn 156 aE d_Mod_count_75 (by (first | decide +kernel | omega)) (by (first | decide +kernel | omega)) (by rw [c23]; rfl) (by decide) ?_
                refine V_aload_n 0 d_Mod_count_156 rfl rfl ?_
                refine V_getR fa_Mod_44 sk_116 rfl d_Mod_count_157 ?_
                refine V_iconst 0 d_Mod_count_160 (by decide) ?_
                refine N_iald sk_128 tc_0 (by (first | decide +kernel | omega)) d_Mod_count_161 (fun z40 z40Z z40E z40e => ?_)
                refine V_bipush (-4) d_Mod_count_162 (by decide) ?_
                refine V_icmp_ne 172 z40E tc_m4 d_Mod_count_164 (by decide) (fun c41 => ?_) (fun c41 => ?_)
                ·
                  refine V_aload_n 0 d_Mod_count_172 rfl rfl ?_
                  refine V_getR fa_Mod_47 sk_116 rfl d_Mod_count_173 ?_
                  refine V_iconst 0 d_Mod_count_176 (by decide) ?_
                  refine N_iald sk_129 tc_0 (by (first | decide +kernel | omega)) d_Mod_count_177 (fun z42 z42Z z42E z42e => ?_)
                  have g43 : 0 ≤ z42Z ∧ z42Z ≤ 40 := inv_at hI z42E z42e rfl
                  exact V_iret rfl d_Mod_count_178 ⟨z42, rfl, ⟨rfl, (Or.inr (Or.inr (Or.inr (Or.inr (Or.inr (Or.inl ⟨by (first | decide +kernel | omega), Or.inr ⟨by rw [show h.1 128 0 = z40 from z40e.symm, z40E]; omega, (z42e.symm).symm⟩⟩))))))⟩⟩
                ·
                  refine V_bipush (-4) d_Mod_count_167 (by decide) ?_
                  refine V_goto 178 d_Mod_count_169 (by decide) ?_
                  exact V_iret rfl d_Mod_count_178 ⟨(-4), rfl, ⟨rfl, (Or.inr (Or.inr (Or.inr (Or.inr (Or.inr (Or.inl ⟨by (first | decide +kernel | omega), Or.inl ⟨by rw [show h.1 128 0 = z40 from z40e.symm, z40E]; omega, tc_m4⟩⟩))))))⟩⟩
              ·
                refine V_tabIn 179 aE d_Mod_count_75 (by (first | decide +kernel | omega)) (by (first | decide +kernel | omega)) (by rw [c23]; rfl) (by decide) ?_
                refine V_iload_n 3 d_Mod_count_179 rfl rfl ?_
                exact V_iret rfl d_Mod_count_180 ⟨v17, rfl, ⟨rfl, (Or.inr (Or.inr (Or.inr (Or.inr (Or.inr (Or.inr (Or.inl ⟨by (first | decide +kernel | omega), hs6⟩)))))))⟩⟩
            ·
              refine V_iload_n 3 d_Mod_count_55 rfl rfl ?_
              refine V_aload_n 0 d_Mod_count_56 rfl rfl ?_
              refine V_getR fa_Mod_7 sk_116 rfl d_Mod_count_57 ?_
              refine V_bipush 80 d_Mod_count_60 (by decide) ?_
              refine V_iload d_Mod_count_62 rfl ?_
              refine V_iadd tc_80 v18E (by (first | decide +kernel | omega)) d_Mod_count_64 (fun z44 z44e z44E => ?_)
              refine N_iald sk_117 z44E (by (first | decide +kernel | omega)) d_Mod_count_65 (fun z45 z45Z z45E z45e => ?_)
              refine N_iaddw d_Mod_count_66 (fun z46 z46Z z46E z46e => ?_)
              refine V_istore_n 3 [some (.ref 116), some (.int a), some (.int v5), some (.int z46), some (.int v18)] d_Mod_count_67 rfl (by decide) rfl rfl ?_
              obtain ⟨z47, z47E, z47e⟩ : ∃ y : Int32, y.toInt = v18Z + 1 ∧ y = v18 + Int32.ofInt 1 := ⟨_, ti_add v18E (by decide) (by (first | decide +kernel | omega)), rfl⟩
              refine V_iinc 4 [some (.ref 116), some (.int a), some (.int v5), some (.int z46), some (.int z47)] d_Mod_count_68 rfl z47e.symm (by decide) rfl rfl ?_
              refine V_goto 49 d_Mod_count_71 (by decide) ?_
              exact ihL15 z46 z46Z z47 ((v18Z + 1)) z46E z47E (by (first | decide +kernel | omega)) (sm_s (by (first | decide +kernel | omega)) (by assumption) (z45e.trans (by show _ = h.1 117 (80 + (v18Z).toNat); rw [show (80 + v18Z).toNat = 80 + (v18Z).toNat by (first | decide +kernel | omega)])) z46e) (by (first | decide +kernel | omega))
        exact L15 (Int.toNat ((4 - 0 : Int) + 1)) 0 0 0 0 tc_0 tc_0 (by (first | decide +kernel | omega)) rfl (by (first | decide +kernel | omega))
      ·
        refine V_iload_n 2 d_Mod_count_16 rfl rfl ?_
        refine V_aload_n 0 d_Mod_count_17 rfl rfl ?_
        refine V_getR fa_Mod_7 sk_116 rfl d_Mod_count_18 ?_
        refine V_bipush 64 d_Mod_count_21 (by decide) ?_
        refine V_iload d_Mod_count_23 rfl ?_
        refine V_iadd tc_64 v6E (by (first | decide +kernel | omega)) d_Mod_count_25 (fun z48 z48e z48E => ?_)
        refine N_iald sk_117 z48E (by (first | decide +kernel | omega)) d_Mod_count_26 (fun z49 z49Z z49E z49e => ?_)
        refine V_if_le 34 z49E d_Mod_count_27 (by decide) (fun c50 => ?_) (fun c50 => ?_)
        ·
          refine V_iconst 0 d_Mod_count_34 (by decide) ?_
          refine N_callSI [.int 0] [.int v5] cs_Mod_196 d_Mod_count_35 rfl (Nat.le_of_ble_eq_true rfl) (by decide) (by decide) (c_Mod_flag h 0 0 tc_0) (fun z51 h52 z51Z z51E p53 => ?_)
          obtain ⟨eh52, p53⟩ := p53
          subst eh52
          refine V_iadd v5E z51E (by (first | decide +kernel | omega)) d_Mod_count_38 (fun z54 z54e z54E => ?_)
          refine V_istore_n 2 [some (.ref 116), some (.int a), some (.int z54), some (.int 0), some (.int v6)] d_Mod_count_39 rfl (by decide) rfl rfl ?_
          obtain ⟨z55, z55E, z55e⟩ : ∃ y : Int32, y.toInt = v6Z + 1 ∧ y = v6 + Int32.ofInt 1 := ⟨_, ti_add v6E (by decide) (by (first | decide +kernel | omega)), rfl⟩
          refine V_iinc 4 [some (.ref 116), some (.int a), some (.int z54), some (.int 0), some (.int z55)] d_Mod_count_40 rfl z55e.symm (by decide) rfl rfl ?_
          refine V_goto 7 d_Mod_count_43 (by decide) ?_
          exact ihL3 z54 ((v5Z + z51Z)) z55 ((v6Z + 1)) z54E z55E (by (first | decide +kernel | omega)) (ct_s (by (first | decide +kernel | omega)) (by assumption) (BQ_fm (by (first | decide +kernel | omega)) z49e z49E (Or.inr ⟨rfl, by (first | decide +kernel | omega)⟩) p53 z51E)) (by (first | decide +kernel | omega)) (by (first | decide +kernel | omega))
        ·
          refine V_iconst 1 d_Mod_count_30 (by decide) ?_
          refine V_goto 35 d_Mod_count_31 (by decide) ?_
          refine N_callSI [.int 1] [.int v5] cs_Mod_196 d_Mod_count_35 rfl (Nat.le_of_ble_eq_true rfl) (by decide) (by decide) (c_Mod_flag h 1 1 tc_1) (fun z56 h57 z56Z z56E p58 => ?_)
          obtain ⟨eh57, p58⟩ := p58
          subst eh57
          refine V_iadd v5E z56E (by (first | decide +kernel | omega)) d_Mod_count_38 (fun z59 z59e z59E => ?_)
          refine V_istore_n 2 [some (.ref 116), some (.int a), some (.int z59), some (.int 0), some (.int v6)] d_Mod_count_39 rfl (by decide) rfl rfl ?_
          obtain ⟨z60, z60E, z60e⟩ : ∃ y : Int32, y.toInt = v6Z + 1 ∧ y = v6 + Int32.ofInt 1 := ⟨_, ti_add v6E (by decide) (by (first | decide +kernel | omega)), rfl⟩
          refine V_iinc 4 [some (.ref 116), some (.int a), some (.int z59), some (.int 0), some (.int z60)] d_Mod_count_40 rfl z60e.symm (by decide) rfl rfl ?_
          refine V_goto 7 d_Mod_count_43 (by decide) ?_
          exact ihL3 z59 ((v5Z + z56Z)) z60 ((v6Z + 1)) z59E z60E (by (first | decide +kernel | omega)) (ct_s (by (first | decide +kernel | omega)) (by assumption) (BQ_fm (by (first | decide +kernel | omega)) z49e z49E (Or.inl ⟨rfl, by (first | decide +kernel | omega)⟩) p58 z56E)) (by (first | decide +kernel | omega)) (by (first | decide +kernel | omega))
  exact L3 (Int.toNat ((16 - 0 : Int) + 1)) 0 0 0 0 tc_0 tc_0 (by (first | decide +kernel | omega)) rfl (by (first | decide +kernel | omega)) (by (first | decide +kernel | omega))
end
section
def xP (i : Nat) : Prop := 16 ≤ i ∧ i < 32 ∨ 64 ≤ i ∧ i < 84 ∨ 89 ≤ i ∧ i < 111 ∧ i % 3 = 2 ∨ i = 111 ∨ i = 146 ∨ i = 147
def xL (i : Nat) : Int := if 146 ≤ i then 1 else 0
def xH (i : Nat) : Int := if i < 32 then 1 else if i < 80 then 0 else if i < 111 then 99 else if i = 111 then 0 else if i = 146 then 9 else 99
def x_R (D : Nat → Int) : Prop := ∀ i : Nat, xP i → xL i ≤ D i ∧ D i ≤ xH i
theorem x_R_up {D : Nat → Int} {k v : Int} (r : x_R D) (hv : ∀ i : Nat, xP i → (i : Int) = k → xL i ≤ v ∧ v ≤ xH i) : x_R (x_up D k v) := fun i hi => by
  unfold x_up
  by_cases q : (i : Int) = k
  · rw [if_pos q]; exact hv i hi q
  · rw [if_neg q]; exact r i hi
theorem x_R_no {D : Nat → Int} {k v : Int} (r : x_R D) (hk : ∀ i : Nat, xP i → (i : Int) ≠ k) : x_R (x_up D k v) := x_R_up r (fun i hi e => absurd e (hk i hi))
theorem x_R0 : x_R x_D0 := fun i hi => by
  unfold xP at hi
  unfold xL xH x_D0
  repeat' split
  all_goals omega
theorem x_R_D {b : Int → Int} {T : Nat → Int → Int} {D : Nat → Int} {p : Int} (h : (x_line b T (D 86) p).1 = 0) (g : x_good D) (w : x_R D) : x_R (x_D b D p) := by
  have hH : x_cH b T (D 86) p = 0 := (x_sq_0 h).1
  have hs := x_cH_s b T (D 86) p
  have hb := x_ln_b b (x_fr b p) (x_en b p)
  have hl : x_li b p = 0 ∨ x_li b p = 1 ∨ x_li b p = 2 ∨ x_li b p = 3 ∨ x_li b p = 4 ∨ x_li b p = 5 ∨ x_li b p = 6 ∨ x_li b p = 7 ∨ x_li b p = 8 ∨ x_li b p = 9 := by
    have e : x_li b p = x_ln b (x_fr b p) (x_en b p) := rfl
    have h2 : x_li b p ≠ -1 := by
      rcases hs with q | q | q | q | q | q
      · exact absurd (q.2.symm.trans hH) (by decide)
      · exact absurd (q.2.2.symm.trans hH) (by decide)
      · exact absurd (q.2.2.symm.trans hH) (by decide)
      · exact q.2.1
      · omega
      · exact q.2.1
    omega
  have h9 : x_li b p = 9 → D 86 < 8 := fun e => by rcases hs with q | q | q | q | q | q <;> omega
  clear hs hb
  rcases hl with hl | hl | hl | hl | hl | hl | hl | hl | hl | hl
  · rw [x_D_0 D rfl hl]
    exact x_R_no (x_R_no w (fun i hi => by unfold xP at hi; omega)) (fun i hi => by unfold xP at hi; omega)
  · rw [x_line_1 rfl hH hl] at h
    rw [x_D_1 D rfl hl]
    unfold x_l1 at h
    have h1 := x_sq_0 h
    have a1 := x_cN_s b (x_en b p) 0 15
    exact x_R_no w (fun i hi => by unfold xP at hi; omega)
  · rw [x_line_2 rfl hH hl] at h
    rw [x_D_2 D rfl hl]
    unfold x_l2 at h
    have h1 := x_sq_0 h
    have a1 := x_cN_s b (x_en b p) 0 15
    refine x_R_up w (fun i hi e => ?_)
    unfold xL xH
    rw [if_neg (by (first | decide +kernel | omega)), if_pos (by (first | decide +kernel | omega))]
    omega
  · rw [x_line_3 rfl hH hl] at h
    rw [x_D_3 D rfl hl]
    unfold x_l3 at h
    have h1 := x_sq_0 h
    have a1 := x_cN_s b (x_en b p) 0 15
    exact x_R_no w (fun i hi => by unfold xP at hi; omega)
  · rw [x_line_4 rfl hH hl] at h
    rw [x_D_4 D rfl hl]
    unfold x_l4 at h
    have h1 := x_sq_0 h
    have a1 := x_cN_s b (x_en b p) 0 15
    exact x_R_no w (fun i hi => by unfold xP at hi; omega)
  · rw [x_line_5 rfl hH hl] at h
    rw [x_D_5 D rfl hl]
    unfold x_l5 at h
    have h1 := x_sq_0 h
    have h2 := x_sq_0 h1.2
    have h3 := x_sq_0 h2.2
    have a1 := x_cN_s b (x_en b p) 0 3
    have a2 := x_cN_s b (x_en b (x_en b p)) 0 99
    refine x_R_up w (fun i hi e => ?_)
    unfold xL xH
    rw [if_neg (by (first | decide +kernel | omega)), if_neg (by (first | decide +kernel | omega)), if_neg (by (first | decide +kernel | omega)), if_pos (by (first | decide +kernel | omega))]
    omega
  · rw [x_line_6 rfl hH hl] at h
    rw [x_D_6 D rfl hl]
    unfold x_l6 at h
    have h1 := x_sq_0 h
    have a1 := x_cN_s b (x_en b p) 1 9
    refine x_R_up w (fun i hi e => ?_)
    unfold xL xH
    rw [if_pos (by (first | decide +kernel | omega)), if_neg (by (first | decide +kernel | omega)), if_neg (by (first | decide +kernel | omega)), if_neg (by (first | decide +kernel | omega)), if_neg (by (first | decide +kernel | omega)), if_pos (by (first | decide +kernel | omega))]
    omega
  · rw [x_line_7 rfl hH hl] at h
    rw [x_D_7 D rfl hl]
    unfold x_l7 at h
    have h1 := x_sq_0 h
    have a1 := x_cN_s b (x_en b p) 1 99
    refine x_R_up w (fun i hi e => ?_)
    unfold xL xH
    rw [if_pos (by (first | decide +kernel | omega)), if_neg (by (first | decide +kernel | omega)), if_neg (by (first | decide +kernel | omega)), if_neg (by (first | decide +kernel | omega)), if_neg (by (first | decide +kernel | omega)), if_neg (by (first | decide +kernel | omega))]
    omega
  · rw [x_D_8 D rfl hl]
    exact x_R_no (x_R_no w (fun i hi => by unfold xP at hi; omega)) (fun i hi => by unfold xP at hi; omega)
  · rw [x_line_9 rfl hH hl] at h
    rw [x_D_9 D rfl hl]
    unfold x_l9 at h
    unfold x_good at g
    have h1 := x_sq_0 h
    have h2 := x_sq_0 h1.2
    have h3 := x_sq_0 h2.2
    have h4 := x_sq_0 h3.2
    have a1 := x_cN_s b (x_en b (x_en b (x_en b p))) 1 99
    have n8 := h9 hl
    refine x_R_no (x_R_up (x_R_no (x_R_no w (fun i hi => by unfold xP at hi; omega)) (fun i hi => by unfold xP at hi; omega)) (fun i hi e => ?_)) (fun i hi => by unfold xP at hi; omega)
    unfold xP at hi
    unfold xL xH
    rw [if_neg (by (first | decide +kernel | omega)), if_neg (by (first | decide +kernel | omega)), if_neg (by (first | decide +kernel | omega)), if_pos (by (first | decide +kernel | omega))]
    omega
theorem x_RK {b : Int → Int} : ∀ k : Nat, x_ok b k → x_R (x_st b k).2.1 := by
  intro k
  induction k with
  | zero => intro _; exact x_R0
  | succ k ih => intro h; exact x_R_D (h k (by (first | decide +kernel | omega))).2 (x_good_k k (fun j hj => h j (by (first | decide +kernel | omega)))) (ih (fun j hj => h j (by (first | decide +kernel | omega))))
def RR (h : Hp) (k : Nat) : Prop := (∀ i : Nat, i < 16 → 0 ≤ (h.1 (k + 3) i).toInt ∧ (h.1 (k + 3) i).toInt ≤ 1) ∧ (∀ i : Nat, i < 16 → 0 ≤ (h.1 (k + 6) i).toInt ∧ (h.1 (k + 6) i).toInt ≤ 9) ∧ (∀ i : Nat, i < 4 → 0 ≤ (h.1 (k + 8) i).toInt ∧ (h.1 (k + 8) i).toInt ≤ 999) ∧ (1 ≤ (h.1 (k + 1) 2).toInt ∧ (h.1 (k + 1) 2).toInt ≤ 9) ∧ (1 ≤ (h.1 (k + 1) 3).toInt ∧ (h.1 (k + 1) 3).toInt ≤ 99) ∧ (∀ i : Nat, i < 8 → (i : Int) < (h.1 (k + 7) 4).toInt → 0 ≤ (h.1 (k + 11) i).toInt ∧ (h.1 (k + 11) i).toInt ≤ 99) ∧ ∀ i : Nat, i < 8 → (i : Int) < (h.1 (k + 12) 4).toInt → (0 ≤ (h.1 (k + 16) i).toInt ∧ (h.1 (k + 16) i).toInt ≤ 1) ∧ 0 ≤ (h.1 (k + 15) i).toInt
def JR (h : Hp) : Prop := RR h 0 ∧ (h.1 87 0 ≠ 0 → RR h 34) ∧ (h.1 87 1 ≠ 0 → RR h 51)
def rrC (k i : Nat) : Prop := k = 1 ∧ (i = 2 ∨ i = 3) ∨ (k = 3 ∨ k = 6) ∧ i < 16 ∨ (k = 7 ∨ k = 12) ∧ i = 4 ∨ k = 8 ∧ i < 4 ∨ (k = 11 ∨ k = 15 ∨ k = 16) ∧ i < 8
theorem RR_cp {h h' : Hp} {k k2 : Nat} (e : ∀ k' i : Nat, rrC k' i → h'.1 (k + k') i = h.1 (k2 + k') i) (r : RR h k2) : RR h' k := by
  obtain ⟨r1, r2, r3, r4, r5, r6, r7⟩ := r
  refine ⟨fun i hi => ?_, fun i hi => ?_, fun i hi => ?_, ?_, ?_, fun i hi hc => ?_, fun i hi hc => ?_⟩
  · rw [e 3 i (by unfold rrC; omega)]; exact r1 i hi
  · rw [e 6 i (by unfold rrC; omega)]; exact r2 i hi
  · rw [e 8 i (by unfold rrC; omega)]; exact r3 i hi
  · rw [e 1 2 (by unfold rrC; omega)]; exact r4
  · rw [e 1 3 (by unfold rrC; omega)]; exact r5
  · rw [e 7 4 (by unfold rrC; omega)] at hc
    rw [e 11 i (by unfold rrC; omega)]; exact r6 i hi hc
  · rw [e 12 4 (by unfold rrC; omega)] at hc
    rw [e 16 i (by unfold rrC; omega), e 15 i (by unfold rrC; omega)]; exact r7 i hi hc
theorem rrC_c {k i : Nat} (h : rrC k i) : cpl k i := by unfold rrC at h; unfold cpl; omega
def jrC (k i : Nat) : Prop := rrC k i ∨ (34 ≤ k ∧ k ≤ 67) ∨ k = 87
theorem JR_at {h h' : Hp} (e : ∀ k i : Nat, jrC k i → h'.1 k i = h.1 k i) (r : JR h) : JR h' := by
  obtain ⟨r1, r2, r3⟩ := r
  refine ⟨RR_cp (fun k i w => by rw [Nat.zero_add]; exact e _ _ (Or.inl w)) r1, fun q => ?_, fun q => ?_⟩
  · rw [e 87 0 (Or.inr (Or.inr rfl))] at q
    exact RR_cp (fun k i w => e _ _ (Or.inr (Or.inl (by have := cpl_k (rrC_c w); omega)))) (r2 q)
  · rw [e 87 1 (Or.inr (Or.inr rfl))] at q
    exact RR_cp (fun k i w => e _ _ (Or.inr (Or.inl (by have := cpl_k (rrC_c w); omega)))) (r3 q)
def jrS (S : List (Nat × Option Nat)) : Bool := S.all (fun q => decide ((q.1 = 0 ∨ q.1 = 2 ∨ q.1 = 4 ∨ q.1 = 5 ∨ 16 < q.1 ∧ q.1 < 34 ∨ 67 < q.1) ∧ q.1 ≠ 87))
theorem jrS_no {S : List (Nat × Option Nat)} (hc : jrS S = true) {k i : Nat} (hk : jrC k i) : inS S k i = false := by
  unfold inS
  rw [List.any_eq_false]
  intro q hq e
  have h1 := of_decide_eq_true (List.all_eq_true.mp hc q hq)
  rw [Bool.and_eq_true] at e
  have e2 : q.1 = k := eq_of_beq e.1
  unfold jrC rrC at hk
  omega
theorem JR_fr {S : List (Nat × Option Nat)} {h h' : Hp} (f : fr S h h') (hc : jrS S = true) (r : JR h) : JR h' := JR_at (fun _ _ hk => f.1 _ _ (jrS_no hc hk)) r
theorem JR_rest {h h' : Hp} (c : RR h' 0) (e : ∀ k i : Nat, (34 ≤ k ∧ k ≤ 67) ∨ k = 87 → h'.1 k i = h.1 k i) (r : JR h) : JR h' := by
  obtain ⟨r1, r2, r3⟩ := r
  refine ⟨c, fun q => ?_, fun q => ?_⟩
  · rw [e 87 0 (by (first | decide +kernel | omega))] at q
    exact RR_cp (fun k i w => e _ _ (by have := cpl_k (rrC_c w); omega)) (r2 q)
  · rw [e 87 1 (by (first | decide +kernel | omega))] at q
    exact RR_cp (fun k i w => e _ _ (by have := cpl_k (rrC_c w); omega)) (r3 q)
theorem JR_put {h h' : Hp} {k i : Nat} {x : Int32} (r : JR h) (hk : k = 3 ∧ 0 ≤ x.toInt ∧ x.toInt ≤ 1 ∨ k = 6 ∧ 0 ≤ x.toInt ∧ x.toInt ≤ 9 ∨ k = 8 ∧ 0 ≤ x.toInt ∧ x.toInt ≤ 999) (e : h' = pI h k i x) : JR h' := by
  have cell : ∀ k' i' : Nat, k' ≠ k → h'.1 k' i' = h.1 k' i' := fun k' i' a => by rw [e, pI_at, if_neg (fun c => a c.1)]
  obtain ⟨r1, r2, r3, r4, r5, r6, r7⟩ := r.1
  refine JR_rest ⟨fun j hj => ?_, fun j hj => ?_, fun j hj => ?_, ?_, ?_, fun j hj hc => ?_, fun j hj hc => ?_⟩ (fun k' i' w => cell k' i' (by (first | decide +kernel | omega))) r
  · rw [Nat.zero_add, e, pI_at]
    by_cases q : 3 = k ∧ j = i
    · rw [if_pos q]; omega
    · rw [if_neg q]; exact r1 j hj
  · rw [Nat.zero_add, e, pI_at]
    by_cases q : 6 = k ∧ j = i
    · rw [if_pos q]; omega
    · rw [if_neg q]; exact r2 j hj
  · rw [Nat.zero_add, e, pI_at]
    by_cases q : 8 = k ∧ j = i
    · rw [if_pos q]; omega
    · rw [if_neg q]; exact r3 j hj
  · rw [cell _ _ (by (first | decide +kernel | omega))]; exact r4
  · rw [cell _ _ (by (first | decide +kernel | omega))]; exact r5
  · rw [cell _ _ (by (first | decide +kernel | omega))] at hc ⊢; exact r6 j hj hc
  · rw [cell _ _ (by (first | decide +kernel | omega))] at hc; rw [cell (0 + 16) _ (by (first | decide +kernel | omega)), cell (0 + 15) _ (by (first | decide +kernel | omega))]; exact r7 j hj hc
theorem JR_Er {h h' : Hp} {k i : Nat} {G : Prop} {V : Int32 → Prop} {r : Int32} (rr : JR h) (f : Er h h' k i G V r) (hk : G → ∀ x : Int32, V x → k = 3 ∧ 0 ≤ x.toInt ∧ x.toInt ≤ 1 ∨ k = 6 ∧ 0 ≤ x.toInt ∧ x.toInt ≤ 9 ∨ k = 8 ∧ 0 ≤ x.toInt ∧ x.toInt ≤ 999) : JR h' := by
  rcases f with ⟨g, x, v, e, _⟩ | ⟨_, e, _⟩
  · exact JR_put rr (hk g x v) e
  · rw [e]; exact rr
theorem JR_pay {h h' : Hp} {G : Prop} {n r : Int32} (rr : JR h) (f : Ew h h' G (pI h 7 4 n) (h.1 7 4) r) (hn : G → n.toInt ≤ (h.1 7 4).toInt) : JR h' := by
  rcases f with ⟨g, e, _⟩ | ⟨_, e, _⟩
  · have cell : ∀ k' i' : Nat, ¬ (k' = 7 ∧ i' = 4) → h'.1 k' i' = h.1 k' i' := fun k' i' a => by rw [e, pI_at, if_neg a]
    obtain ⟨r1, r2, r3, r4, r5, r6, r7⟩ := rr.1
    refine JR_rest ⟨fun j hj => ?_, fun j hj => ?_, fun j hj => ?_, ?_, ?_, fun j hj hc => ?_, fun j hj hc => ?_⟩ (fun k' i' w => cell k' i' (by (first | decide +kernel | omega))) rr
    · rw [cell _ _ (by (first | decide +kernel | omega))]; exact r1 j hj
    · rw [cell _ _ (by (first | decide +kernel | omega))]; exact r2 j hj
    · rw [cell _ _ (by (first | decide +kernel | omega))]; exact r3 j hj
    · rw [cell _ _ (by (first | decide +kernel | omega))]; exact r4
    · rw [cell _ _ (by (first | decide +kernel | omega))]; exact r5
    · rw [Nat.zero_add, e, pI_at, if_pos ⟨rfl, rfl⟩] at hc
      rw [cell _ _ (by (first | decide +kernel | omega))]
      exact r6 j hj (by rw [Nat.zero_add]; have := hn g; omega)
    · rw [cell _ _ (by (first | decide +kernel | omega))] at hc; rw [cell (0 + 16) _ (by (first | decide +kernel | omega)), cell (0 + 15) _ (by (first | decide +kernel | omega))]; exact r7 j hj hc
  · rw [e]; exact rr
theorem JR_forget {h h' : Hp} {G : Prop} {n r : Int32} (rr : JR h) (f : Ew h h' G (pI h 12 4 n) (h.1 12 4) r) (hn : G → n.toInt ≤ (h.1 12 4).toInt) : JR h' := by
  rcases f with ⟨g, e, _⟩ | ⟨_, e, _⟩
  · have cell : ∀ k' i' : Nat, ¬ (k' = 12 ∧ i' = 4) → h'.1 k' i' = h.1 k' i' := fun k' i' a => by rw [e, pI_at, if_neg a]
    obtain ⟨r1, r2, r3, r4, r5, r6, r7⟩ := rr.1
    refine JR_rest ⟨fun j hj => ?_, fun j hj => ?_, fun j hj => ?_, ?_, ?_, fun j hj hc => ?_, fun j hj hc => ?_⟩ (fun k' i' w => cell k' i' (by (first | decide +kernel | omega))) rr
    · rw [cell _ _ (by (first | decide +kernel | omega))]; exact r1 j hj
    · rw [cell _ _ (by (first | decide +kernel | omega))]; exact r2 j hj
    · rw [cell _ _ (by (first | decide +kernel | omega))]; exact r3 j hj
    · rw [cell _ _ (by (first | decide +kernel | omega))]; exact r4
    · rw [cell _ _ (by (first | decide +kernel | omega))]; exact r5
    · rw [cell _ _ (by (first | decide +kernel | omega))] at hc ⊢; exact r6 j hj hc
    · rw [Nat.zero_add, e, pI_at, if_pos ⟨rfl, rfl⟩] at hc
      rw [cell (0 + 16) _ (by (first | decide +kernel | omega)), cell (0 + 15) _ (by (first | decide +kernel | omega))]
      exact r7 j hj (by rw [Nat.zero_add]; have := hn g; omega)
  · rw [e]; exact rr
theorem JR_owe {h h' : Hp} {G : Prop} {a b v r : Int32} {t : Int} (rr : JR h) (ht : (h.1 7 4).toInt = t) (f : G ∧ t < 8 ∧ (∃ u : Int32, u.toInt = t + 1 ∧ h' = pI (pI (pI (pI h 9 t.toNat a) 10 t.toNat b) 11 t.toNat v) 7 4 u ∧ r = u) ∨ G ∧ 8 ≤ t ∧ h' = h ∧ r.toInt = -3 ∨ ¬ G ∧ h' = h ∧ r.toInt = -1) (hv : G → 0 ≤ v.toInt ∧ v.toInt ≤ 99) (h0 : 0 ≤ t) : JR h' := by
  rcases f with ⟨g, l, u, hu, e, _⟩ | ⟨_, _, e, _⟩ | ⟨_, e, _⟩
  · have cell : ∀ k' i' : Nat, k' ≠ 7 ∧ k' ≠ 9 ∧ k' ≠ 10 ∧ k' ≠ 11 → h'.1 k' i' = h.1 k' i' := fun k' i' a => by rw [e, pI_at, if_neg (by (first | decide +kernel | omega)), pI_at, if_neg (by (first | decide +kernel | omega)), pI_at, if_neg (by (first | decide +kernel | omega)), pI_at, if_neg (by (first | decide +kernel | omega))]
    obtain ⟨r1, r2, r3, r4, r5, r6, r7⟩ := rr.1
    refine JR_rest ⟨fun j hj => ?_, fun j hj => ?_, fun j hj => ?_, ?_, ?_, fun j hj hc => ?_, fun j hj hc => ?_⟩ (fun k' i' w => cell k' i' (by (first | decide +kernel | omega))) rr
    · rw [cell _ _ (by (first | decide +kernel | omega))]; exact r1 j hj
    · rw [cell _ _ (by (first | decide +kernel | omega))]; exact r2 j hj
    · rw [cell _ _ (by (first | decide +kernel | omega))]; exact r3 j hj
    · rw [cell _ _ (by (first | decide +kernel | omega))]; exact r4
    · rw [cell _ _ (by (first | decide +kernel | omega))]; exact r5
    · rw [Nat.zero_add, e, pI_at, if_pos ⟨rfl, rfl⟩] at hc
      rw [Nat.zero_add, e, pI_at, if_neg (by (first | decide +kernel | omega)), pI_at]
      by_cases q : 11 = 11 ∧ j = t.toNat
      · rw [if_pos q]; exact hv g
      · rw [if_neg q, pI_at, if_neg (by (first | decide +kernel | omega)), pI_at, if_neg (by (first | decide +kernel | omega))]
        exact r6 j hj (by rw [Nat.zero_add]; omega)
    · rw [cell _ _ (by (first | decide +kernel | omega))] at hc; rw [cell (0 + 16) _ (by (first | decide +kernel | omega)), cell (0 + 15) _ (by (first | decide +kernel | omega))]; exact r7 j hj hc
  · rw [e]; exact rr
  · rw [e]; exact rr
theorem JR_see {h h' : Hp} {G : Prop} {a b v r : Int32} {t z : Int} (rr : JR h) (ht : (h.1 12 4).toInt = t) (f : G ∧ t < 8 ∧ (∃ u x : Int32, u.toInt = t + 1 ∧ (z ≠ 0 ∧ x.toInt = 1 ∨ z = 0 ∧ x.toInt = 0) ∧ h' = pI (pI (pI (pI (pI h 13 t.toNat a) 14 t.toNat b) 15 t.toNat v) 16 t.toNat x) 12 4 u ∧ r = u) ∨ G ∧ 8 ≤ t ∧ h' = h ∧ r.toInt = -3 ∨ ¬ G ∧ h' = h ∧ r.toInt = -1) (hv : G → 0 ≤ v.toInt) (h0 : 0 ≤ t) : JR h' := by
  rcases f with ⟨g, l, u, x, hu, hx, e, _⟩ | ⟨_, _, e, _⟩ | ⟨_, e, _⟩
  · have cell : ∀ k' i' : Nat, k' < 12 ∨ 16 < k' → h'.1 k' i' = h.1 k' i' := fun k' i' a => by rw [e, pI_at, if_neg (by (first | decide +kernel | omega)), pI_at, if_neg (by (first | decide +kernel | omega)), pI_at, if_neg (by (first | decide +kernel | omega)), pI_at, if_neg (by (first | decide +kernel | omega)), pI_at, if_neg (by (first | decide +kernel | omega))]
    obtain ⟨r1, r2, r3, r4, r5, r6, r7⟩ := rr.1
    refine JR_rest ⟨fun j hj => ?_, fun j hj => ?_, fun j hj => ?_, ?_, ?_, fun j hj hc => ?_, fun j hj hc => ?_⟩ (fun k' i' w => cell k' i' (by (first | decide +kernel | omega))) rr
    · rw [cell _ _ (by (first | decide +kernel | omega))]; exact r1 j hj
    · rw [cell _ _ (by (first | decide +kernel | omega))]; exact r2 j hj
    · rw [cell _ _ (by (first | decide +kernel | omega))]; exact r3 j hj
    · rw [cell _ _ (by (first | decide +kernel | omega))]; exact r4
    · rw [cell _ _ (by (first | decide +kernel | omega))]; exact r5
    · rw [cell _ _ (by (first | decide +kernel | omega))] at hc ⊢; exact r6 j hj hc
    · rw [Nat.zero_add, e, pI_at, if_pos ⟨rfl, rfl⟩] at hc
      have e16 : h'.1 16 j = if j = t.toNat then x else h.1 16 j := by
        rw [e, pI_at, if_neg (by (first | decide +kernel | omega)), pI_at]
        by_cases q : j = t.toNat
        · rw [if_pos ⟨rfl, q⟩, if_pos q]
        · rw [if_neg (fun c => q c.2), if_neg q, pI_at, if_neg (by (first | decide +kernel | omega)), pI_at, if_neg (by (first | decide +kernel | omega)), pI_at, if_neg (by (first | decide +kernel | omega))]
      have e15 : h'.1 15 j = if j = t.toNat then v else h.1 15 j := by
        rw [e, pI_at, if_neg (by (first | decide +kernel | omega)), pI_at, if_neg (by (first | decide +kernel | omega)), pI_at]
        by_cases q : j = t.toNat
        · rw [if_pos ⟨rfl, q⟩, if_pos q]
        · rw [if_neg (fun c => q c.2), if_neg q, pI_at, if_neg (by (first | decide +kernel | omega)), pI_at, if_neg (by (first | decide +kernel | omega))]
      rw [Nat.zero_add, Nat.zero_add, e16, e15]
      by_cases q : j = t.toNat
      · rw [if_pos q, if_pos q]; exact ⟨by (first | decide +kernel | omega), hv g⟩
      · rw [if_neg q, if_neg q]
        have := r7 j hj (by rw [Nat.zero_add]; omega)
        rw [Nat.zero_add, Nat.zero_add] at this
        exact this
  · rw [e]; exact rr
  · rw [e]; exact rr
theorem bM_rg {b d : Int32} (hb : 0 ≤ b.toInt ∧ b.toInt ≤ 9) (hd : 1 ≤ d.toInt ∧ d.toInt ≤ 9) : 0 ≤ (bM b d).toInt ∧ (bM b d).toInt ≤ 9 := by
  unfold bM
  split
  · rw [ti_sub rfl rfl (by (first | decide +kernel | omega))]; omega
  · decide
theorem bD_rg {b d : Int32} (hb : 0 ≤ b.toInt ∧ b.toInt ≤ 9) (hd : 1 ≤ d.toInt ∧ d.toInt ≤ 9) : 0 ≤ (bD b d).toInt ∧ (bD b d).toInt ≤ 9 := by
  unfold bD
  split <;> omega
theorem mul9 {A B : Int} (ha : 1 ≤ A ∧ A ≤ 9) (hb : 0 ≤ B ∧ B ≤ 9) : 0 ≤ A * B ∧ A * B ≤ 81 := by
  rcases (by (first | decide +kernel | omega) : A = 1 ∨ A = 2 ∨ A = 3 ∨ A = 4 ∨ A = 5 ∨ A = 6 ∨ A = 7 ∨ A = 8 ∨ A = 9) with rfl | rfl | rfl | rfl | rfl | rfl | rfl | rfl | rfl <;> omega
theorem bx_rg {l o p b w c q d x : Int32} (hp : 0 ≤ p.toInt ∧ p.toInt ≤ 999) (hb : 0 ≤ b.toInt ∧ b.toInt ≤ 9) (hc : 1 ≤ c.toInt ∧ c.toInt ≤ 9) (hq : 1 ≤ q.toInt ∧ q.toInt ≤ 99) (hd : 1 ≤ d.toInt ∧ d.toInt ≤ 9) (f : bLf p b w c q d x) (g : ¬ bRf l o p b c d x) : 0 ≤ x.toInt ∧ x.toInt ≤ 999 := by
  have m := bM_rg hb hd
  have m9 := mul9 hc m
  have e1 : (c * bM b d).toInt = c.toInt * (bM b d).toInt := ti_mul rfl rfl (by (first | decide +kernel | omega))
  have e2 : (bPd p c b d).toInt = p.toInt - c.toInt * (bM b d).toInt := by unfold bPd; exact ti_sub rfl e1 (by (first | decide +kernel | omega))
  unfold bRf at g
  have g1 : ¬ (bPd p c b d).toInt < 0 := fun z => g (Or.inr (Or.inl z))
  have g2 : ¬ 999 < x.toInt := fun z => g (Or.inr (Or.inr z))
  rcases f with ⟨_, f⟩ | ⟨_, f⟩
  · have e3 : x.toInt = (bPd p c b d).toInt + q.toInt := by rw [f]; exact ti_add rfl rfl (by (first | decide +kernel | omega))
    omega
  · rw [f] at g2 ⊢; omega
theorem JR_bore {h h' : Hp} {o c : Int} {G : Prop} {l ow w d r : Int32} (rr : JR h) (f : BE h h' 8 o.toNat 6 c.toNat G l ow (h.1 8 o.toNat) (h.1 6 c.toNat) w (h.1 1 2) (h.1 1 3) d r) (hc : G → 0 ≤ o ∧ o ≤ 3 ∧ 0 ≤ c ∧ c < 16 ∧ 1 ≤ d.toInt ∧ d.toInt ≤ 9) : JR h' := by
  rcases f with ⟨_, e, _⟩ | ⟨g, x, b, k⟩
  · rw [e]; exact rr
  · rcases k with ⟨_, e, _⟩ | ⟨nr, e, _⟩
    · rw [e]; exact rr
    · have hh := hc g
      obtain ⟨r1, r2, r3, r4, r5, r6, r7⟩ := rr.1
      have r2' := r2 c.toNat (by (first | decide +kernel | omega))
      have r3' := r3 o.toNat (by (first | decide +kernel | omega))
      rw [Nat.zero_add] at r2' r3' r4 r5
      have hx := bx_rg r3' r2' r4 r5 hh.2.2.2.2 b nr
      have hy := bD_rg r2' hh.2.2.2.2
      exact JR_put (JR_put rr (Or.inr (Or.inr ⟨rfl, hx⟩)) rfl) (Or.inr (Or.inl ⟨rfl, hy⟩)) e
theorem ST1_rg {l w : Nat → Int32} {co q : Int32} {W : Int} {o c d : Int32} {p b p' b' : Nat → Int32} (hW : W ≤ 16) (hco : 1 ≤ co.toInt ∧ co.toInt ≤ 9) (hq : 1 ≤ q.toInt ∧ q.toInt ≤ 99) (hp : ∀ i : Nat, i < 4 → 0 ≤ (p i).toInt ∧ (p i).toInt ≤ 999) (hb : ∀ i : Nat, i < 16 → 0 ≤ (b i).toInt ∧ (b i).toInt ≤ 9) (h : ST1 l w co q W o c d p b p' b') : (∀ i : Nat, i < 4 → 0 ≤ (p' i).toInt ∧ (p' i).toInt ≤ 999) ∧ ∀ i : Nat, i < 16 → 0 ≤ (b' i).toInt ∧ (b' i).toInt ≤ 9 := by
  obtain ⟨g, x, h1, h2, h3, h4⟩ := h
  unfold G9 at g
  have b1 := hb c.toInt.toNat (by (first | decide +kernel | omega))
  refine ⟨fun i hi => ?_, fun i hi => ?_⟩
  · rw [h3 i hi]
    split
    · exact bx_rg (hp _ (by (first | decide +kernel | omega))) b1 hco hq (by (first | decide +kernel | omega)) h1 h2
    · exact hp i hi
  · rw [h4 i hi]
    split
    · exact bD_rg b1 (by (first | decide +kernel | omega))
    · exact hb i hi
theorem RN_rg {l w : Nat → Int32} {co q : Int32} {W : Int} {s : Nat → Int32} {f : Nat} {p b : Nat → Int32} (hW : W ≤ 16) (hco : 1 ≤ co.toInt ∧ co.toInt ≤ 9) (hq : 1 ≤ q.toInt ∧ q.toInt ≤ 99) (hp : ∀ i : Nat, i < 4 → 0 ≤ (p i).toInt ∧ (p i).toInt ≤ 999) (hb : ∀ i : Nat, i < 16 → 0 ≤ (b i).toInt ∧ (b i).toInt ≤ 9) : ∀ (n : Nat) (p' b' : Nat → Int32), RN l w co q W s f p b n p' b' → (∀ i : Nat, i < 4 → 0 ≤ (p' i).toInt ∧ (p' i).toInt ≤ 999) ∧ ∀ i : Nat, i < 16 → 0 ≤ (b' i).toInt ∧ (b' i).toInt ≤ 9 := by
  intro n
  induction n with
  | zero => intro p' b' h; exact ⟨fun i hi => by rw [← h.1 i hi]; exact hp i hi, fun i hi => by rw [← h.2 i hi]; exact hb i hi⟩
  | succ n ih =>
    intro p' b' h
    obtain ⟨p1, b1, h1, h2⟩ := h
    obtain ⟨i1, i2⟩ := ih p1 b1 h1
    exact ST1_rg hW hco hq i1 i2 h2
theorem JR_read {S : List (Nat × Option Nat)} {h h' : Hp} {RB : Prop} {k : Nat} {l f n W : Int} {r : Int32} (rr : JR h) (fm : fr S h h') (s1 : ckS S 34 84 = true) (s2 : ckS S 86 131 = true) (hW : W ≤ 16) (E : RB ∧ h' = h ∧ r.toInt = -1 ∨ ¬ RB ∧ RDc h h' k l f n W r) : JR h' := by
  rcases E with ⟨_, e, _⟩ | ⟨_, ⟨m, _, ro⟩, c⟩
  · rw [e]; exact rr
  · obtain ⟨r1, r2, r3, r4, r5, r6, r7⟩ := rr.1
    have z3 : ∀ i : Nat, i < 4 → 0 ≤ (h.1 8 i).toInt ∧ (h.1 8 i).toInt ≤ 999 := fun i hi => by have := r3 i hi; rw [Nat.zero_add] at this; exact this
    have z2 : ∀ i : Nat, i < 16 → 0 ≤ (h.1 6 i).toInt ∧ (h.1 6 i).toInt ≤ 9 := fun i hi => by have := r2 i hi; rw [Nat.zero_add] at this; exact this
    have key : (∀ i : Nat, i < 4 → 0 ≤ (h'.1 8 i).toInt ∧ (h'.1 8 i).toInt ≤ 999) ∧ ∀ i : Nat, i < 16 → 0 ≤ (h'.1 6 i).toInt ∧ (h'.1 6 i).toInt ≤ 9 := by
      rcases ro with ⟨_, rn⟩ | ⟨_, e1, e2⟩
      · exact RN_rg hW r4 r5 z3 z2 m _ _ rn
      · exact ⟨fun i hi => by rw [← e1 i hi]; exact z3 i hi, fun i hi => by rw [← e2 i hi]; exact z2 i hi⟩
    have cc : ∀ k' i' : Nat, rrC k' i' → k' ≠ 6 ∧ k' ≠ 8 → h'.1 k' i' = h.1 k' i' := fun k' i' w g => c k' i' (rrC_c w) g
    refine JR_rest ⟨fun j hj => ?_, fun j hj => ?_, fun j hj => ?_, ?_, ?_, fun j hj hc => ?_, fun j hj hc => ?_⟩ (fun k' i' w => ?_) rr
    · rw [Nat.zero_add, cc 3 j (by unfold rrC; omega) (by (first | decide +kernel | omega))]; have := r1 j hj; rw [Nat.zero_add] at this; exact this
    · rw [Nat.zero_add]; exact key.2 j hj
    · rw [Nat.zero_add]; exact key.1 j hj
    · rw [Nat.zero_add, cc 1 2 (by unfold rrC; omega) (by (first | decide +kernel | omega))]; exact r4
    · rw [Nat.zero_add, cc 1 3 (by unfold rrC; omega) (by (first | decide +kernel | omega))]; exact r5
    · rw [Nat.zero_add, cc 7 4 (by unfold rrC; omega) (by (first | decide +kernel | omega))] at hc
      rw [Nat.zero_add, cc 11 j (by unfold rrC; omega) (by (first | decide +kernel | omega))]
      have := r6 j hj (by rw [Nat.zero_add]; exact hc)
      rw [Nat.zero_add] at this; exact this
    · rw [Nat.zero_add, cc 12 4 (by unfold rrC; omega) (by (first | decide +kernel | omega))] at hc
      rw [Nat.zero_add, Nat.zero_add, cc 16 j (by unfold rrC; omega) (by (first | decide +kernel | omega)), cc 15 j (by unfold rrC; omega) (by (first | decide +kernel | omega))]
      have := r7 j hj (by rw [Nat.zero_add]; exact hc)
      rw [Nat.zero_add, Nat.zero_add] at this; exact this
    · rcases w with w | w
      · exact fm.1 _ _ (ckS_no s1 (by (first | decide +kernel | omega)) (by (first | decide +kernel | omega)))
      · exact fm.1 _ _ (ckS_no s2 (by (first | decide +kernel | omega)) (by (first | decide +kernel | omega)))
theorem JR_keep {S : List (Nat × Option Nat)} {h h1 : Hp} {k : Int} {r1 : Int32} (r : JR h) (f1 : fr S h h1) (s1 : ckS S 0 16 = true)
    (E1 : k = 0 ∧ KP h h1 34 51 0 ∧ FQ (h.1 87 0) r1 ∨ k = 1 ∧ KP h h1 51 34 1 ∧ FQ (h.1 87 1) r1 ∨ (k < 0 ∨ 1 < k) ∧ h1 = h ∧ r1.toInt = -1) : JR h1 := by
  have c0 : ∀ k i : Nat, k ≤ 16 → h1.1 k i = h.1 k i := fun k i hk => f1.1 _ _ (ckS_no s1 (by (first | decide +kernel | omega)) hk)
  obtain ⟨q1, q2, q3⟩ := r
  have q1' : RR h1 0 := RR_cp (fun k i w => by rw [Nat.zero_add]; exact c0 _ _ (cpl_k (rrC_c w))) q1
  rcases E1 with ⟨_, ⟨a1, a2, a3, a4⟩, _⟩ | ⟨_, ⟨a1, a2, a3, a4⟩, _⟩ | ⟨_, e, _⟩
  · refine ⟨q1', fun _ => RR_cp (fun k i w => a1 k i (rrC_c w)) q1, fun q => ?_⟩
    rw [a4 1 (by (first | decide +kernel | omega))] at q
    exact RR_cp (fun k i w => a2 _ i (by (first | decide +kernel | omega)) (by have := cpl_k (rrC_c w); omega)) (q3 q)
  · refine ⟨q1', fun q => ?_, fun _ => RR_cp (fun k i w => a1 k i (rrC_c w)) q1⟩
    rw [a4 0 (by (first | decide +kernel | omega))] at q
    exact RR_cp (fun k i w => a2 _ i (by (first | decide +kernel | omega)) (by have := cpl_k (rrC_c w); omega)) (q2 q)
  · rw [e]; exact ⟨q1, q2, q3⟩
theorem JR_back {S : List (Nat × Option Nat)} {h h1 : Hp} {k : Int} (r : JR h) (f1 : fr S h h1) (s1 : ckS S 34 67 = true) (s2 : ckS S 87 118 = true)
    (E1 : k = 0 ∧ (h.1 87 0).toInt ≠ 0 ∧ cpy h h1 0 34 ∨ k = 1 ∧ (h.1 87 1).toInt ≠ 0 ∧ cpy h h1 0 51 ∨ (k = 0 ∧ (h.1 87 0).toInt = 0 ∨ k = 1 ∧ (h.1 87 1).toInt = 0 ∨ k < 0 ∨ 1 < k) ∧ h1 = h) : JR h1 := by
  have rest : ∀ k i : Nat, (34 ≤ k ∧ k ≤ 67) ∨ k = 87 → h1.1 k i = h.1 k i := fun k i w => by
    rcases w with w | w
    · exact f1.1 _ _ (ckS_no s1 w.1 w.2)
    · exact f1.1 _ _ (ckS_no s2 (by (first | decide +kernel | omega)) (by (first | decide +kernel | omega)))
  rcases E1 with ⟨_, p2, p3⟩ | ⟨_, p2, p3⟩ | ⟨_, e⟩
  · exact JR_rest (RR_cp (fun k i w => p3 k i (rrC_c w)) (r.2.1 (toInt_ne p2))) rest r
  · exact JR_rest (RR_cp (fun k i w => p3 k i (rrC_c w)) (r.2.2 (toInt_ne p2))) rest r
  · rw [e]; exact r
theorem dof_11 : dof (68 + 12) 4 = some 111 := by decide
theorem JR_text {S : List (Nat × Option Nat)} {h h1 : Hp} {b : Int → Int} {s e1 : Int} {r1 : Int32} {n1 : Nat} (r : JR h) (f1 : fr S h h1) (X1 : x_tx b s r1 e1 n1) (t : TK h h1 e1 (x_st b n1).2.1) (s1 : ckS S 34 67 = true) : JR h1 := by
  have xr := x_RK n1 X1.1.1
  have h111 : (x_st b n1).2.1 111 = 0 := by
    have := xr 111 (by unfold xP; omega)
    have e1 : xL 111 = 0 := by decide
    have e2 : xH 111 = 0 := by decide
    omega
  rcases t with ⟨_, t1, t2, t3⟩ | ⟨_, t1⟩
  · refine ⟨⟨fun i hi => ?_, fun i hi => ?_, fun i hi => ?_, ?_, ?_, fun i hi hc => ?_, fun i hi hc => ?_⟩, fun q => absurd t2 q, fun q => absurd t3 q⟩
    · rw [Nat.zero_add, t1.1 3 i _ (dof_3 hi)]
      have := xr (16 + i) (by unfold xP; omega)
      unfold xL xH at this
      rw [if_neg (by (first | decide +kernel | omega)), if_pos (by (first | decide +kernel | omega))] at this
      exact this
    · rw [Nat.zero_add, t1.1 6 i _ (dof_6 hi)]
      have := xr (64 + i) (by unfold xP; omega)
      unfold xL xH at this
      rw [if_neg (by (first | decide +kernel | omega)), if_neg (by (first | decide +kernel | omega)), if_pos (by (first | decide +kernel | omega))] at this
      omega
    · rw [Nat.zero_add, t1.1 8 i _ (dof_8 hi)]
      have := xr (80 + i) (by unfold xP; omega)
      unfold xL xH at this
      rw [if_neg (by (first | decide +kernel | omega)), if_neg (by (first | decide +kernel | omega)), if_neg (by (first | decide +kernel | omega)), if_pos (by (first | decide +kernel | omega))] at this
      omega
    · rw [Nat.zero_add, t1.1 1 2 146 (by decide)]
      exact xr 146 (by unfold xP; omega)
    · rw [Nat.zero_add, t1.1 1 3 147 (by decide)]
      exact xr 147 (by unfold xP; omega)
    · rw [Nat.zero_add, t1.1 7 4 86 (by decide)] at hc
      rw [Nat.zero_add, (t1.2 i hi hc).2.2]
      have := xr (89 + 3 * i) (by unfold xP; omega)
      unfold xL xH at this
      rw [if_neg (by (first | decide +kernel | omega)), if_neg (by (first | decide +kernel | omega)), if_neg (by (first | decide +kernel | omega)), if_pos (by (first | decide +kernel | omega))] at this
      exact this
    · rw [Nat.zero_add, t1.1 12 4 111 dof_11, h111] at hc
      omega
  · exact JR_at (fun k i hk => by
      rcases hk with hk | hk | hk
      · exact t1 k i (Or.inl (cpl_k (rrC_c hk)))
      · exact f1.1 _ _ (ckS_no s1 hk.1 hk.2)
      · exact t1 k i (Or.inr hk)) r
end
section
def tw (n rc w i l o s : Int) : Prop := n = 0 ∧ 0 < w ∧ w ≤ rc ∨ n = 1 ∧ i = 1 ∨ n = 2 ∧ s % 2 = 1 ∨ n = 3 ∧ l = o ∨ (n < 0 ∨ 3 < n) ∧ (0 < w ∧ w ≤ rc ∨ i = 1)
theorem uN_nn {x : Int32} {X : Int} (e : x.toInt = X) (h : 0 ≤ X) : (uN x : Int) = X := by
  rw [← e, ← Int32.toInt_toBitVec] at h ⊢
  rw [BitVec.toInt_eq_toNat_cond] at h ⊢
  have l : x.toBitVec.toNat < 2 ^ 32 := uN_lt x
  unfold uN
  split at h
  · next q => rw [if_pos q]
  · omega
theorem odd_and {s z : Int32} {S Z : Int} (sE : s.toInt = S) (h : 0 ≤ S) (e : z = s &&& 1) (zE : z.toInt = Z) : Z = S % 2 := by
  have h1 : uN z = uN s % 2 := by rw [e, uN_and, show uN 1 = 1 by decide, and_1]
  have h2 := uN_nn sE h
  rw [← zE, uN_ti (by (first | decide +kernel | omega)), h1]
  omega
def twR (r : Int32) (P : Prop) : Prop := r.toInt = 1 ∧ P ∨ r.toInt = 0 ∧ ¬ P
theorem twR_01 {r : Int32} {P : Prop} (h : twR r P) : r.toInt = 0 ∨ r.toInt = 1 := by
  rcases h with h | h
  · exact Or.inr h.1
  · exact Or.inl h.1
theorem twR_cg {r : Int32} {P Q : Prop} (h : twR r P) (e : P ↔ Q) : twR r Q := by
  rcases h with ⟨a, b⟩ | ⟨a, b⟩
  · exact Or.inl ⟨a, e.mp b⟩
  · exact Or.inr ⟨a, fun c => b (e.mpr c)⟩
theorem twR_fl {r z : Int32} {R : Int} {P : Prop} (h : twR r P) (rE : r.toInt = R) (f : R ≠ 0 ∧ z.toInt = 1 ∨ R = 0 ∧ z.toInt = 0) : twR z P := by
  rcases h with ⟨a, b⟩ | ⟨a, b⟩
  · exact Or.inl ⟨by (first | decide +kernel | omega), b⟩
  · exact Or.inr ⟨by (first | decide +kernel | omega), b⟩
def TWa (G : Prop) (r : Int32) (P : Prop) : Prop := G ∧ twR r P ∨ ¬ G ∧ r.toInt = -1
/-- the numbers by which a rod twitches in a CELL: the class's, the reference's -/
def twC (h : Hp) (n rc : Int) (c : Nat) (o s : Int) : Prop := tw n rc (h.1 2 c).toInt (h.1 3 c).toInt (h.1 5 c).toInt o s
def twM (h : Hp) (n rc : Int) (c : Nat) (o s : Int) : Prop := tw n rc (h.1 117 c).toInt (h.1 117 (16 + c)).toInt (h.1 117 (48 + c)).toInt o s
end
section
abbrev q_Land_twitchesX_0 (h : Hp) (n : Int32) (nZ : Int) (m : Int32) (mZ : Int) (c : Int32) (cZ : Int) (o : Int32) (oZ : Int) (s : Int32) (sZ : Int) : Option Value → Hp → Prop := pInt (fun r h' => h = h' ∧ (twR r (twC h nZ mZ cZ.toNat oZ sZ)))
set_option maxRecDepth 100000 in
theorem c_Land_twitchesX_0 (h : Hp) (hI : Inv h) (n : Int32) (nZ : Int) (nE : n.toInt = nZ) (m : Int32) (mZ : Int) (mE : m.toInt = mZ) (c : Int32) (cZ : Int) (cE : c.toInt = cZ) (o : Int32) (oZ : Int) (oE : o.toInt = oZ) (s : Int32) (sZ : Int) (sE : s.toInt = sZ) (hy0 : 0 ≤ cZ ∧ cZ ≤ 15) (hy1 : 0 ≤ sZ) (hy2 : 0 ≤ (h.1 3 cZ.toNat).toInt ∧ (h.1 3 cZ.toNat).toInt ≤ 1) : Ct y_Land_twitches b_Land_twitches 8 (some .boolean) 0 0 [.ref 1, .int n, .int m, .int c, .int o, .int s] h (q_Land_twitchesX_0 h n nZ m mZ c cZ o oZ s sZ) := by
  refine ct_ow R_Land [some (.ref 1), some (.int n), some (.int m), some (.int c), some (.int o), some (.int s), none, none] rfl (by decide) rfl (Nat.le_of_ble_eq_true rfl) ?_
  have f0 : fr [] h h := fr_rf
  obtain ⟨uv, uvZ, uvE, uvK⟩ : ∃ (y : Int32) (Y : Int), y.toInt = Y ∧ h.1 2 (cZ).toNat = y := ⟨_, _, rfl, rfl⟩
  obtain ⟨iv, ivZ, ivE, ivK⟩ : ∃ (y : Int32) (Y : Int), y.toInt = Y ∧ h.1 3 (cZ).toNat = y := ⟨_, _, rfl, rfl⟩
  obtain ⟨lv, lvZ, lvE, lvK⟩ : ∃ (y : Int32) (Y : Int), y.toInt = Y ∧ h.1 5 (cZ).toNat = y := ⟨_, _, rfl, rfl⟩
  rw [ivK, ivE] at hy2
  refine V_aload_n 0 d_Land_twitches_0 rfl rfl ?_
  refine V_getR fa_Land_9 sk_1 rfl d_Land_twitches_1 ?_
  refine V_iload_n 3 d_Land_twitches_4 rfl rfl ?_
  refine N_ialdK sk_2 cE (by (first | decide +kernel | omega)) d_Land_twitches_5 uvK ?_
  refine V_if_le 23 uvE d_Land_twitches_6 (by decide) (fun c2 => ?_) (fun c2 => ?_)
  ·
    refine V_iconst 0 d_Land_twitches_23 (by decide) ?_
    refine V_istore 6 [some (.ref 1), some (.int n), some (.int m), some (.int c), some (.int o), some (.int s), some (.int 0), none] d_Land_twitches_24 (by decide) rfl rfl ?_
    refine V_aload_n 0 d_Land_twitches_26 rfl rfl ?_
    refine V_getR fa_Land_15 sk_1 rfl d_Land_twitches_27 ?_
    refine V_iload_n 3 d_Land_twitches_30 rfl rfl ?_
    refine N_ialdK sk_3 cE (by (first | decide +kernel | omega)) d_Land_twitches_31 ivK ?_
    refine V_if_eq 39 ivE d_Land_twitches_32 (by decide) (fun c4 => ?_) (fun c4 => ?_)
    ·
      refine V_iconst 0 d_Land_twitches_39 (by decide) ?_
      refine V_istore 7 [some (.ref 1), some (.int n), some (.int m), some (.int c), some (.int o), some (.int s), some (.int 0), some (.int 0)] d_Land_twitches_40 (by decide) rfl rfl ?_
      refine V_iload_n 1 d_Land_twitches_42 rfl rfl ?_
      rcases (by (first | decide +kernel | omega) : (nZ < 0 ∨ 3 < nZ) ∨ nZ = 0 ∨ nZ = 1 ∨ nZ = 2 ∨ nZ = 3) with c5 | c5 | c5 | c5 | c5
      ·
        refine V_tabOut 108 nE d_Land_twitches_43 c5 (by decide) ?_
        refine V_iload d_Land_twitches_108 rfl ?_
        refine V_if_ne 118 tc_0 d_Land_twitches_110 (by decide) (fun c6 => ?_) (fun c6 => ?_)
        ·
          exact absurd c6 (by decide)
        ·
          refine V_iload d_Land_twitches_113 rfl ?_
          refine V_if_eq 122 tc_0 d_Land_twitches_115 (by decide) (fun c7 => ?_) (fun c7 => ?_)
          ·
            refine V_iconst 0 d_Land_twitches_122 (by decide) ?_
            exact V_zret rfl (by decide) d_Land_twitches_123 ⟨0, rfl, ⟨rfl, (by unfold twR; rw [show Int32.toInt 0 = 0 from rfl]; unfold twC tw; skip; rw [uvK, ivK, lvK, uvE, ivE, lvE]; omega)⟩⟩
          ·
            exact absurd c7 (by decide)
      ·
        refine V_tabIn 72 nE d_Land_twitches_43 (by (first | decide +kernel | omega)) (by (first | decide +kernel | omega)) (by rw [c5]; rfl) (by decide) ?_
        refine V_iload d_Land_twitches_72 rfl ?_
        exact V_zret rfl (by decide) d_Land_twitches_74 ⟨0, rfl, ⟨rfl, (by unfold twR; rw [show Int32.toInt 0 = 0 from rfl]; unfold twC tw; skip; rw [uvK, ivK, lvK, uvE, ivE, lvE]; omega)⟩⟩
      ·
        refine V_tabIn 75 nE d_Land_twitches_43 (by (first | decide +kernel | omega)) (by (first | decide +kernel | omega)) (by rw [c5]; rfl) (by decide) ?_
        refine V_iload d_Land_twitches_75 rfl ?_
        exact V_zret rfl (by decide) d_Land_twitches_77 ⟨0, rfl, ⟨rfl, (by unfold twR; rw [show Int32.toInt 0 = 0 from rfl]; unfold twC tw; skip; rw [uvK, ivK, lvK, uvE, ivE, lvE]; omega)⟩⟩
      ·
        refine V_tabIn 78 nE d_Land_twitches_43 (by (first | decide +kernel | omega)) (by (first | decide +kernel | omega)) (by rw [c5]; rfl) (by decide) ?_
        refine V_iload d_Land_twitches_78 rfl ?_
        refine V_iconst 1 d_Land_twitches_80 (by decide) ?_
        refine N_iand d_Land_twitches_81 (fun z8 z8Z z8E z8e => ?_)
        have hod := odd_and sE (by (first | decide +kernel | omega)) z8e z8E
        refine V_if_eq 89 z8E d_Land_twitches_82 (by decide) (fun c9 => ?_) (fun c9 => ?_)
        ·
          refine V_iconst 0 d_Land_twitches_89 (by decide) ?_
          exact V_zret rfl (by decide) d_Land_twitches_90 ⟨0, rfl, ⟨rfl, (by unfold twR; rw [show Int32.toInt 0 = 0 from rfl]; unfold twC tw; skip; rw [uvK, ivK, lvK, uvE, ivE, lvE]; omega)⟩⟩
        ·
          refine V_iconst 1 d_Land_twitches_85 (by decide) ?_
          refine V_goto 90 d_Land_twitches_86 (by decide) ?_
          exact V_zret rfl (by decide) d_Land_twitches_90 ⟨1, rfl, ⟨rfl, (by unfold twR; rw [show Int32.toInt 1 = 1 from rfl]; unfold twC tw; skip; rw [uvK, ivK, lvK, uvE, ivE, lvE]; omega)⟩⟩
      ·
        refine V_tabIn 91 nE d_Land_twitches_43 (by (first | decide +kernel | omega)) (by (first | decide +kernel | omega)) (by rw [c5]; rfl) (by decide) ?_
        refine V_aload_n 0 d_Land_twitches_91 rfl rfl ?_
        refine V_getR fa_Land_21 sk_1 rfl d_Land_twitches_92 ?_
        refine V_iload_n 3 d_Land_twitches_95 rfl rfl ?_
        refine N_ialdK sk_5 cE (by (first | decide +kernel | omega)) d_Land_twitches_96 lvK ?_
        refine V_iload d_Land_twitches_97 rfl ?_
        refine V_icmp_ne 106 lvE oE d_Land_twitches_99 (by decide) (fun c11 => ?_) (fun c11 => ?_)
        ·
          refine V_iconst 0 d_Land_twitches_106 (by decide) ?_
          exact V_zret rfl (by decide) d_Land_twitches_107 ⟨0, rfl, ⟨rfl, (by unfold twR; rw [show Int32.toInt 0 = 0 from rfl]; unfold twC tw; skip; rw [uvK, ivK, lvK, uvE, ivE, lvE]; omega)⟩⟩
        ·
          refine V_iconst 1 d_Land_twitches_102 (by decide) ?_
          refine V_goto 107 d_Land_twitches_103 (by decide) ?_
          exact V_zret rfl (by decide) d_Land_twitches_107 ⟨1, rfl, ⟨rfl, (by unfold twR; rw [show Int32.toInt 1 = 1 from rfl]; unfold twC tw; skip; rw [uvK, ivK, lvK, uvE, ivE, lvE]; omega)⟩⟩
    ·
      refine V_iconst 1 d_Land_twitches_35 (by decide) ?_
      refine V_goto 40 d_Land_twitches_36 (by decide) ?_
      refine V_istore 7 [some (.ref 1), some (.int n), some (.int m), some (.int c), some (.int o), some (.int s), some (.int 0), some (.int 1)] d_Land_twitches_40 (by decide) rfl rfl ?_
      refine V_iload_n 1 d_Land_twitches_42 rfl rfl ?_
      rcases (by (first | decide +kernel | omega) : (nZ < 0 ∨ 3 < nZ) ∨ nZ = 0 ∨ nZ = 1 ∨ nZ = 2 ∨ nZ = 3) with c12 | c12 | c12 | c12 | c12
      ·
        refine V_tabOut 108 nE d_Land_twitches_43 c12 (by decide) ?_
        refine V_iload d_Land_twitches_108 rfl ?_
        refine V_if_ne 118 tc_0 d_Land_twitches_110 (by decide) (fun c13 => ?_) (fun c13 => ?_)
        ·
          exact absurd c13 (by decide)
        ·
          refine V_iload d_Land_twitches_113 rfl ?_
          refine V_if_eq 122 tc_1 d_Land_twitches_115 (by decide) (fun c14 => ?_) (fun c14 => ?_)
          ·
            exact absurd c14 (by decide)
          ·
            refine V_iconst 1 d_Land_twitches_118 (by decide) ?_
            refine V_goto 123 d_Land_twitches_119 (by decide) ?_
            exact V_zret rfl (by decide) d_Land_twitches_123 ⟨1, rfl, ⟨rfl, (by unfold twR; rw [show Int32.toInt 1 = 1 from rfl]; unfold twC tw; skip; rw [uvK, ivK, lvK, uvE, ivE, lvE]; omega)⟩⟩
      ·
        refine V_tabIn 72 nE d_Land_twitches_43 (by (first | decide +kernel | omega)) (by (first | decide +kernel | omega)) (by rw [c12]; rfl) (by decide) ?_
        refine V_iload d_Land_twitches_72 rfl ?_
        exact V_zret rfl (by decide) d_Land_twitches_74 ⟨0, rfl, ⟨rfl, (by unfold twR; rw [show Int32.toInt 0 = 0 from rfl]; unfold twC tw; skip; rw [uvK, ivK, lvK, uvE, ivE, lvE]; omega)⟩⟩
      ·
        refine V_tabIn 75 nE d_Land_twitches_43 (by (first | decide +kernel | omega)) (by (first | decide +kernel | omega)) (by rw [c12]; rfl) (by decide) ?_
        refine V_iload d_Land_twitches_75 rfl ?_
        exact V_zret rfl (by decide) d_Land_twitches_77 ⟨1, rfl, ⟨rfl, (by unfold twR; rw [show Int32.toInt 1 = 1 from rfl]; unfold twC tw; skip; rw [uvK, ivK, lvK, uvE, ivE, lvE]; omega)⟩⟩
      ·
        refine V_tabIn 78 nE d_Land_twitches_43 (by (first | decide +kernel | omega)) (by (first | decide +kernel | omega)) (by rw [c12]; rfl) (by decide) ?_
        refine V_iload d_Land_twitches_78 rfl ?_
        refine V_iconst 1 d_Land_twitches_80 (by decide) ?_
        refine N_iand d_Land_twitches_81 (fun z15 z15Z z15E z15e => ?_)
        have hod := odd_and sE (by (first | decide +kernel | omega)) z15e z15E
        refine V_if_eq 89 z15E d_Land_twitches_82 (by decide) (fun c16 => ?_) (fun c16 => ?_)
        ·
          refine V_iconst 0 d_Land_twitches_89 (by decide) ?_
          exact V_zret rfl (by decide) d_Land_twitches_90 ⟨0, rfl, ⟨rfl, (by unfold twR; rw [show Int32.toInt 0 = 0 from rfl]; unfold twC tw; skip; rw [uvK, ivK, lvK, uvE, ivE, lvE]; omega)⟩⟩
        ·
          refine V_iconst 1 d_Land_twitches_85 (by decide) ?_
          refine V_goto 90 d_Land_twitches_86 (by decide) ?_
          exact V_zret rfl (by decide) d_Land_twitches_90 ⟨1, rfl, ⟨rfl, (by unfold twR; rw [show Int32.toInt 1 = 1 from rfl]; unfold twC tw; skip; rw [uvK, ivK, lvK, uvE, ivE, lvE]; omega)⟩⟩
      ·
        refine V_tabIn 91 nE d_Land_twitches_43 (by (first | decide +kernel | omega)) (by (first | decide +kernel | omega)) (by rw [c12]; rfl) (by decide) ?_
        refine V_aload_n 0 d_Land_twitches_91 rfl rfl ?_
        refine V_getR fa_Land_21 sk_1 rfl d_Land_twitches_92 ?_
        refine V_iload_n 3 d_Land_twitches_95 rfl rfl ?_
        refine N_ialdK sk_5 cE (by (first | decide +kernel | omega)) d_Land_twitches_96 lvK ?_
        refine V_iload d_Land_twitches_97 rfl ?_
        refine V_icmp_ne 106 lvE oE d_Land_twitches_99 (by decide) (fun c18 => ?_) (fun c18 => ?_)
        ·
          refine V_iconst 0 d_Land_twitches_106 (by decide) ?_
          exact V_zret rfl (by decide) d_Land_twitches_107 ⟨0, rfl, ⟨rfl, (by unfold twR; rw [show Int32.toInt 0 = 0 from rfl]; unfold twC tw; skip; rw [uvK, ivK, lvK, uvE, ivE, lvE]; omega)⟩⟩
        ·
          refine V_iconst 1 d_Land_twitches_102 (by decide) ?_
          refine V_goto 107 d_Land_twitches_103 (by decide) ?_
          exact V_zret rfl (by decide) d_Land_twitches_107 ⟨1, rfl, ⟨rfl, (by unfold twR; rw [show Int32.toInt 1 = 1 from rfl]; unfold twC tw; skip; rw [uvK, ivK, lvK, uvE, ivE, lvE]; omega)⟩⟩
  ·
    refine V_aload_n 0 d_Land_twitches_9 rfl rfl ?_
    refine V_getR fa_Land_9 sk_1 rfl d_Land_twitches_10 ?_
    refine V_iload_n 3 d_Land_twitches_13 rfl rfl ?_
    refine N_ialdK sk_2 cE (by (first | decide +kernel | omega)) d_Land_twitches_14 uvK ?_
    refine V_iload_n 2 d_Land_twitches_15 rfl rfl ?_
    refine V_icmp_gt 23 uvE mE d_Land_twitches_16 (by decide) (fun c20 => ?_) (fun c20 => ?_)
    ·
      refine V_iconst 0 d_Land_twitches_23 (by decide) ?_
      refine V_istore 6 [some (.ref 1), some (.int n), some (.int m), some (.int c), some (.int o), some (.int s), some (.int 0), none] d_Land_twitches_24 (by decide) rfl rfl ?_
      refine V_aload_n 0 d_Land_twitches_26 rfl rfl ?_
      refine V_getR fa_Land_15 sk_1 rfl d_Land_twitches_27 ?_
      refine V_iload_n 3 d_Land_twitches_30 rfl rfl ?_
      refine N_ialdK sk_3 cE (by (first | decide +kernel | omega)) d_Land_twitches_31 ivK ?_
      refine V_if_eq 39 ivE d_Land_twitches_32 (by decide) (fun c22 => ?_) (fun c22 => ?_)
      ·
        refine V_iconst 0 d_Land_twitches_39 (by decide) ?_
        refine V_istore 7 [some (.ref 1), some (.int n), some (.int m), some (.int c), some (.int o), some (.int s), some (.int 0), some (.int 0)] d_Land_twitches_40 (by decide) rfl rfl ?_
        refine V_iload_n 1 d_Land_twitches_42 rfl rfl ?_
        rcases (by (first | decide +kernel | omega) : (nZ < 0 ∨ 3 < nZ) ∨ nZ = 0 ∨ nZ = 1 ∨ nZ = 2 ∨ nZ = 3) with c23 | c23 | c23 | c23 | c23
        ·
          refine V_tabOut 108 nE d_Land_twitches_43 c23 (by decide) ?_
          refine V_iload d_Land_twitches_108 rfl ?_
          refine V_if_ne 118 tc_0 d_Land_twitches_110 (by decide) (fun c24 => ?_) (fun c24 => ?_)
          ·
            exact absurd c24 (by decide)
          ·
            refine V_iload d_Land_twitches_113 rfl ?_
            refine V_if_eq 122 tc_0 d_Land_twitches_115 (by decide) (fun c25 => ?_) (fun c25 => ?_)
            ·
              refine V_iconst 0 d_Land_twitches_122 (by decide) ?_
              exact V_zret rfl (by decide) d_Land_twitches_123 ⟨0, rfl, ⟨rfl, (by unfold twR; rw [show Int32.toInt 0 = 0 from rfl]; unfold twC tw; skip; rw [uvK, ivK, lvK, uvE, ivE, lvE]; omega)⟩⟩
            ·
              exact absurd c25 (by decide)
        ·
          refine V_tabIn 72 nE d_Land_twitches_43 (by (first | decide +kernel | omega)) (by (first | decide +kernel | omega)) (by rw [c23]; rfl) (by decide) ?_
          refine V_iload d_Land_twitches_72 rfl ?_
          exact V_zret rfl (by decide) d_Land_twitches_74 ⟨0, rfl, ⟨rfl, (by unfold twR; rw [show Int32.toInt 0 = 0 from rfl]; unfold twC tw; skip; rw [uvK, ivK, lvK, uvE, ivE, lvE]; omega)⟩⟩
        ·
          refine V_tabIn 75 nE d_Land_twitches_43 (by (first | decide +kernel | omega)) (by (first | decide +kernel | omega)) (by rw [c23]; rfl) (by decide) ?_
          refine V_iload d_Land_twitches_75 rfl ?_
          exact V_zret rfl (by decide) d_Land_twitches_77 ⟨0, rfl, ⟨rfl, (by unfold twR; rw [show Int32.toInt 0 = 0 from rfl]; unfold twC tw; skip; rw [uvK, ivK, lvK, uvE, ivE, lvE]; omega)⟩⟩
        ·
          refine V_tabIn 78 nE d_Land_twitches_43 (by (first | decide +kernel | omega)) (by (first | decide +kernel | omega)) (by rw [c23]; rfl) (by decide) ?_
          refine V_iload d_Land_twitches_78 rfl ?_
          refine V_iconst 1 d_Land_twitches_80 (by decide) ?_
          refine N_iand d_Land_twitches_81 (fun z26 z26Z z26E z26e => ?_)
          have hod := odd_and sE (by (first | decide +kernel | omega)) z26e z26E
          refine V_if_eq 89 z26E d_Land_twitches_82 (by decide) (fun c27 => ?_) (fun c27 => ?_)
          ·
            refine V_iconst 0 d_Land_twitches_89 (by decide) ?_
            exact V_zret rfl (by decide) d_Land_twitches_90 ⟨0, rfl, ⟨rfl, (by unfold twR; rw [show Int32.toInt 0 = 0 from rfl]; unfold twC tw; skip; rw [uvK, ivK, lvK, uvE, ivE, lvE]; omega)⟩⟩
          ·
            refine V_iconst 1 d_Land_twitches_85 (by decide) ?_
            refine V_goto 90 d_Land_twitches_86 (by decide) ?_
            exact V_zret rfl (by decide) d_Land_twitches_90 ⟨1, rfl, ⟨rfl, (by unfold twR; rw [show Int32.toInt 1 = 1 from rfl]; unfold twC tw; skip; rw [uvK, ivK, lvK, uvE, ivE, lvE]; omega)⟩⟩
        ·
          refine V_tabIn 91 nE d_Land_twitches_43 (by (first | decide +kernel | omega)) (by (first | decide +kernel | omega)) (by rw [c23]; rfl) (by decide) ?_
          refine V_aload_n 0 d_Land_twitches_91 rfl rfl ?_
          refine V_getR fa_Land_21 sk_1 rfl d_Land_twitches_92 ?_
          refine V_iload_n 3 d_Land_twitches_95 rfl rfl ?_
          refine N_ialdK sk_5 cE (by (first | decide +kernel | omega)) d_Land_twitches_96 lvK ?_
          refine V_iload d_Land_twitches_97 rfl ?_
          refine V_icmp_ne 106 lvE oE d_Land_twitches_99 (by decide) (fun c29 => ?_) (fun c29 => ?_)
          ·
            refine V_iconst 0 d_Land_twitches_106 (by decide) ?_
            exact V_zret rfl (by decide) d_Land_twitches_107 ⟨0, rfl, ⟨rfl, (by unfold twR; rw [show Int32.toInt 0 = 0 from rfl]; unfold twC tw; skip; rw [uvK, ivK, lvK, uvE, ivE, lvE]; omega)⟩⟩
          ·
            refine V_iconst 1 d_Land_twitches_102 (by decide) ?_
            refine V_goto 107 d_Land_twitches_103 (by decide) ?_
            exact V_zret rfl (by decide) d_Land_twitches_107 ⟨1, rfl, ⟨rfl, (by unfold twR; rw [show Int32.toInt 1 = 1 from rfl]; unfold twC tw; skip; rw [uvK, ivK, lvK, uvE, ivE, lvE]; omega)⟩⟩
      ·
        refine V_iconst 1 d_Land_twitches_35 (by decide) ?_
        refine V_goto 40 d_Land_twitches_36 (by decide) ?_
        refine V_istore 7 [some (.ref 1), some (.int n), some (.int m), some (.int c), some (.int o), some (.int s), some (.int 0), some (.int 1)] d_Land_twitches_40 (by decide) rfl rfl ?_
        refine V_iload_n 1 d_Land_twitches_42 rfl rfl ?_
        rcases (by (first | decide +kernel | omega) : (nZ < 0 ∨ 3 < nZ) ∨ nZ = 0 ∨ nZ = 1 ∨ nZ = 2 ∨ nZ = 3) with c30 | c30 | c30 | c30 | c30
        ·
          refine V_tabOut 108 nE d_Land_twitches_43 c30 (by decide) ?_
          refine V_iload d_Land_twitches_108 rfl ?_
          refine V_if_ne 118 tc_0 d_Land_twitches_110 (by decide) (fun c31 => ?_) (fun c31 => ?_)
          ·
            exact absurd c31 (by decide)
          ·
            refine V_iload d_Land_twitches_113 rfl ?_
            refine V_if_eq 122 tc_1 d_Land_twitches_115 (by decide) (fun c32 => ?_) (fun c32 => ?_)
            ·
              exact absurd c32 (by decide)
            ·
              refine V_iconst 1 d_Land_twitches_118 (by decide) ?_
              refine V_goto 123 d_Land_twitches_119 (by decide) ?_
              exact V_zret rfl (by decide) d_Land_twitches_123 ⟨1, rfl, ⟨rfl, (by unfold twR; rw [show Int32.toInt 1 = 1 from rfl]; unfold twC tw; skip; rw [uvK, ivK, lvK, uvE, ivE, lvE]; omega)⟩⟩
        ·
          refine V_tabIn 72 nE d_Land_twitches_43 (by (first | decide +kernel | omega)) (by (first | decide +kernel | omega)) (by rw [c30]; rfl) (by decide) ?_
          refine V_iload d_Land_twitches_72 rfl ?_
          exact V_zret rfl (by decide) d_Land_twitches_74 ⟨0, rfl, ⟨rfl, (by unfold twR; rw [show Int32.toInt 0 = 0 from rfl]; unfold twC tw; skip; rw [uvK, ivK, lvK, uvE, ivE, lvE]; omega)⟩⟩
        ·
          refine V_tabIn 75 nE d_Land_twitches_43 (by (first | decide +kernel | omega)) (by (first | decide +kernel | omega)) (by rw [c30]; rfl) (by decide) ?_
          refine V_iload d_Land_twitches_75 rfl ?_
          exact V_zret rfl (by decide) d_Land_twitches_77 ⟨1, rfl, ⟨rfl, (by unfold twR; rw [show Int32.toInt 1 = 1 from rfl]; unfold twC tw; skip; rw [uvK, ivK, lvK, uvE, ivE, lvE]; omega)⟩⟩
        ·
          refine V_tabIn 78 nE d_Land_twitches_43 (by (first | decide +kernel | omega)) (by (first | decide +kernel | omega)) (by rw [c30]; rfl) (by decide) ?_
          refine V_iload d_Land_twitches_78 rfl ?_
          refine V_iconst 1 d_Land_twitches_80 (by decide) ?_
          refine N_iand d_Land_twitches_81 (fun z33 z33Z z33E z33e => ?_)
          have hod := odd_and sE (by (first | decide +kernel | omega)) z33e z33E
          refine V_if_eq 89 z33E d_Land_twitches_82 (by decide) (fun c34 => ?_) (fun c34 => ?_)
          ·
            refine V_iconst 0 d_Land_twitches_89 (by decide) ?_
            exact V_zret rfl (by decide) d_Land_twitches_90 ⟨0, rfl, ⟨rfl, (by unfold twR; rw [show Int32.toInt 0 = 0 from rfl]; unfold twC tw; skip; rw [uvK, ivK, lvK, uvE, ivE, lvE]; omega)⟩⟩
          ·
            refine V_iconst 1 d_Land_twitches_85 (by decide) ?_
            refine V_goto 90 d_Land_twitches_86 (by decide) ?_
            exact V_zret rfl (by decide) d_Land_twitches_90 ⟨1, rfl, ⟨rfl, (by unfold twR; rw [show Int32.toInt 1 = 1 from rfl]; unfold twC tw; skip; rw [uvK, ivK, lvK, uvE, ivE, lvE]; omega)⟩⟩
        ·
          refine V_tabIn 91 nE d_Land_twitches_43 (by (first | decide +kernel | omega)) (by (first | decide +kernel | omega)) (by rw [c30]; rfl) (by decide) ?_
          refine V_aload_n 0 d_Land_twitches_91 rfl rfl ?_
          refine V_getR fa_Land_21 sk_1 rfl d_Land_twitches_92 ?_
          refine V_iload_n 3 d_Land_twitches_95 rfl rfl ?_
          refine N_ialdK sk_5 cE (by (first | decide +kernel | omega)) d_Land_twitches_96 lvK ?_
          refine V_iload d_Land_twitches_97 rfl ?_
          refine V_icmp_ne 106 lvE oE d_Land_twitches_99 (by decide) (fun c36 => ?_) (fun c36 => ?_)
          ·
            refine V_iconst 0 d_Land_twitches_106 (by decide) ?_
            exact V_zret rfl (by decide) d_Land_twitches_107 ⟨0, rfl, ⟨rfl, (by unfold twR; rw [show Int32.toInt 0 = 0 from rfl]; unfold twC tw; skip; rw [uvK, ivK, lvK, uvE, ivE, lvE]; omega)⟩⟩
          ·
            refine V_iconst 1 d_Land_twitches_102 (by decide) ?_
            refine V_goto 107 d_Land_twitches_103 (by decide) ?_
            exact V_zret rfl (by decide) d_Land_twitches_107 ⟨1, rfl, ⟨rfl, (by unfold twR; rw [show Int32.toInt 1 = 1 from rfl]; unfold twC tw; skip; rw [uvK, ivK, lvK, uvE, ivE, lvE]; omega)⟩⟩
    ·
      refine V_iconst 1 d_Land_twitches_19 (by decide) ?_
      refine V_goto 24 d_Land_twitches_20 (by decide) ?_
      refine V_istore 6 [some (.ref 1), some (.int n), some (.int m), some (.int c), some (.int o), some (.int s), some (.int 1), none] d_Land_twitches_24 (by decide) rfl rfl ?_
      refine V_aload_n 0 d_Land_twitches_26 rfl rfl ?_
      refine V_getR fa_Land_15 sk_1 rfl d_Land_twitches_27 ?_
      refine V_iload_n 3 d_Land_twitches_30 rfl rfl ?_
      refine N_ialdK sk_3 cE (by (first | decide +kernel | omega)) d_Land_twitches_31 ivK ?_
      refine V_if_eq 39 ivE d_Land_twitches_32 (by decide) (fun c38 => ?_) (fun c38 => ?_)
      ·
        refine V_iconst 0 d_Land_twitches_39 (by decide) ?_
        refine V_istore 7 [some (.ref 1), some (.int n), some (.int m), some (.int c), some (.int o), some (.int s), some (.int 1), some (.int 0)] d_Land_twitches_40 (by decide) rfl rfl ?_
        refine V_iload_n 1 d_Land_twitches_42 rfl rfl ?_
        rcases (by (first | decide +kernel | omega) : (nZ < 0 ∨ 3 < nZ) ∨ nZ = 0 ∨ nZ = 1 ∨ nZ = 2 ∨ nZ = 3) with c39 | c39 | c39 | c39 | c39
        ·
          refine V_tabOut 108 nE d_Land_twitches_43 c39 (by decide) ?_
          refine V_iload d_Land_twitches_108 rfl ?_
          refine V_if_ne 118 tc_1 d_Land_twitches_110 (by decide) (fun c40 => ?_) (fun c40 => ?_)
          ·
            refine V_iconst 1 d_Land_twitches_118 (by decide) ?_
            refine V_goto 123 d_Land_twitches_119 (by decide) ?_
            exact V_zret rfl (by decide) d_Land_twitches_123 ⟨1, rfl, ⟨rfl, (by unfold twR; rw [show Int32.toInt 1 = 1 from rfl]; unfold twC tw; skip; rw [uvK, ivK, lvK, uvE, ivE, lvE]; omega)⟩⟩
          ·
            exact absurd c40 (by decide)
        ·
          refine V_tabIn 72 nE d_Land_twitches_43 (by (first | decide +kernel | omega)) (by (first | decide +kernel | omega)) (by rw [c39]; rfl) (by decide) ?_
          refine V_iload d_Land_twitches_72 rfl ?_
          exact V_zret rfl (by decide) d_Land_twitches_74 ⟨1, rfl, ⟨rfl, (by unfold twR; rw [show Int32.toInt 1 = 1 from rfl]; unfold twC tw; skip; rw [uvK, ivK, lvK, uvE, ivE, lvE]; omega)⟩⟩
        ·
          refine V_tabIn 75 nE d_Land_twitches_43 (by (first | decide +kernel | omega)) (by (first | decide +kernel | omega)) (by rw [c39]; rfl) (by decide) ?_
          refine V_iload d_Land_twitches_75 rfl ?_
          exact V_zret rfl (by decide) d_Land_twitches_77 ⟨0, rfl, ⟨rfl, (by unfold twR; rw [show Int32.toInt 0 = 0 from rfl]; unfold twC tw; skip; rw [uvK, ivK, lvK, uvE, ivE, lvE]; omega)⟩⟩
        ·
          refine V_tabIn 78 nE d_Land_twitches_43 (by (first | decide +kernel | omega)) (by (first | decide +kernel | omega)) (by rw [c39]; rfl) (by decide) ?_
          refine V_iload d_Land_twitches_78 rfl ?_
          refine V_iconst 1 d_Land_twitches_80 (by decide) ?_
          refine N_iand d_Land_twitches_81 (fun z41 z41Z z41E z41e => ?_)
          have hod := odd_and sE (by (first | decide +kernel | omega)) z41e z41E
          refine V_if_eq 89 z41E d_Land_twitches_82 (by decide) (fun c42 => ?_) (fun c42 => ?_)
          ·
            refine V_iconst 0 d_Land_twitches_89 (by decide) ?_
            exact V_zret rfl (by decide) d_Land_twitches_90 ⟨0, rfl, ⟨rfl, (by unfold twR; rw [show Int32.toInt 0 = 0 from rfl]; unfold twC tw; skip; rw [uvK, ivK, lvK, uvE, ivE, lvE]; omega)⟩⟩
          ·
            refine V_iconst 1 d_Land_twitches_85 (by decide) ?_
            refine V_goto 90 d_Land_twitches_86 (by decide) ?_
            exact V_zret rfl (by decide) d_Land_twitches_90 ⟨1, rfl, ⟨rfl, (by unfold twR; rw [show Int32.toInt 1 = 1 from rfl]; unfold twC tw; skip; rw [uvK, ivK, lvK, uvE, ivE, lvE]; omega)⟩⟩
        ·
          refine V_tabIn 91 nE d_Land_twitches_43 (by (first | decide +kernel | omega)) (by (first | decide +kernel | omega)) (by rw [c39]; rfl) (by decide) ?_
          refine V_aload_n 0 d_Land_twitches_91 rfl rfl ?_
          refine V_getR fa_Land_21 sk_1 rfl d_Land_twitches_92 ?_
          refine V_iload_n 3 d_Land_twitches_95 rfl rfl ?_
          refine N_ialdK sk_5 cE (by (first | decide +kernel | omega)) d_Land_twitches_96 lvK ?_
          refine V_iload d_Land_twitches_97 rfl ?_
          refine V_icmp_ne 106 lvE oE d_Land_twitches_99 (by decide) (fun c44 => ?_) (fun c44 => ?_)
          ·
            refine V_iconst 0 d_Land_twitches_106 (by decide) ?_
            exact V_zret rfl (by decide) d_Land_twitches_107 ⟨0, rfl, ⟨rfl, (by unfold twR; rw [show Int32.toInt 0 = 0 from rfl]; unfold twC tw; skip; rw [uvK, ivK, lvK, uvE, ivE, lvE]; omega)⟩⟩
          ·
            refine V_iconst 1 d_Land_twitches_102 (by decide) ?_
            refine V_goto 107 d_Land_twitches_103 (by decide) ?_
            exact V_zret rfl (by decide) d_Land_twitches_107 ⟨1, rfl, ⟨rfl, (by unfold twR; rw [show Int32.toInt 1 = 1 from rfl]; unfold twC tw; skip; rw [uvK, ivK, lvK, uvE, ivE, lvE]; omega)⟩⟩
      ·
        refine V_iconst 1 d_Land_twitches_35 (by decide) ?_
        refine V_goto 40 d_Land_twitches_36 (by decide) ?_
        refine V_istore 7 [some (.ref 1), some (.int n), some (.int m), some (.int c), some (.int o), some (.int s), some (.int 1), some (.int 1)] d_Land_twitches_40 (by decide) rfl rfl ?_
        refine V_iload_n 1 d_Land_twitches_42 rfl rfl ?_
        rcases (by (first | decide +kernel | omega) : (nZ < 0 ∨ 3 < nZ) ∨ nZ = 0 ∨ nZ = 1 ∨ nZ = 2 ∨ nZ = 3) with c45 | c45 | c45 | c45 | c45
        ·
          refine V_tabOut 108 nE d_Land_twitches_43 c45 (by decide) ?_
          refine V_iload d_Land_twitches_108 rfl ?_
          refine V_if_ne 118 tc_1 d_Land_twitches_110 (by decide) (fun c46 => ?_) (fun c46 => ?_)
          ·
            refine V_iconst 1 d_Land_twitches_118 (by decide) ?_
            refine V_goto 123 d_Land_twitches_119 (by decide) ?_
            exact V_zret rfl (by decide) d_Land_twitches_123 ⟨1, rfl, ⟨rfl, (by unfold twR; rw [show Int32.toInt 1 = 1 from rfl]; unfold twC tw; skip; rw [uvK, ivK, lvK, uvE, ivE, lvE]; omega)⟩⟩
          ·
            exact absurd c46 (by decide)
        ·
          refine V_tabIn 72 nE d_Land_twitches_43 (by (first | decide +kernel | omega)) (by (first | decide +kernel | omega)) (by rw [c45]; rfl) (by decide) ?_
          refine V_iload d_Land_twitches_72 rfl ?_
          exact V_zret rfl (by decide) d_Land_twitches_74 ⟨1, rfl, ⟨rfl, (by unfold twR; rw [show Int32.toInt 1 = 1 from rfl]; unfold twC tw; skip; rw [uvK, ivK, lvK, uvE, ivE, lvE]; omega)⟩⟩
        ·
          refine V_tabIn 75 nE d_Land_twitches_43 (by (first | decide +kernel | omega)) (by (first | decide +kernel | omega)) (by rw [c45]; rfl) (by decide) ?_
          refine V_iload d_Land_twitches_75 rfl ?_
          exact V_zret rfl (by decide) d_Land_twitches_77 ⟨1, rfl, ⟨rfl, (by unfold twR; rw [show Int32.toInt 1 = 1 from rfl]; unfold twC tw; skip; rw [uvK, ivK, lvK, uvE, ivE, lvE]; omega)⟩⟩
        ·
          refine V_tabIn 78 nE d_Land_twitches_43 (by (first | decide +kernel | omega)) (by (first | decide +kernel | omega)) (by rw [c45]; rfl) (by decide) ?_
          refine V_iload d_Land_twitches_78 rfl ?_
          refine V_iconst 1 d_Land_twitches_80 (by decide) ?_
          refine N_iand d_Land_twitches_81 (fun z47 z47Z z47E z47e => ?_)
          have hod := odd_and sE (by (first | decide +kernel | omega)) z47e z47E
          refine V_if_eq 89 z47E d_Land_twitches_82 (by decide) (fun c48 => ?_) (fun c48 => ?_)
          ·
            refine V_iconst 0 d_Land_twitches_89 (by decide) ?_
            exact V_zret rfl (by decide) d_Land_twitches_90 ⟨0, rfl, ⟨rfl, (by unfold twR; rw [show Int32.toInt 0 = 0 from rfl]; unfold twC tw; skip; rw [uvK, ivK, lvK, uvE, ivE, lvE]; omega)⟩⟩
          ·
            refine V_iconst 1 d_Land_twitches_85 (by decide) ?_
            refine V_goto 90 d_Land_twitches_86 (by decide) ?_
            exact V_zret rfl (by decide) d_Land_twitches_90 ⟨1, rfl, ⟨rfl, (by unfold twR; rw [show Int32.toInt 1 = 1 from rfl]; unfold twC tw; skip; rw [uvK, ivK, lvK, uvE, ivE, lvE]; omega)⟩⟩
        ·
          refine V_tabIn 91 nE d_Land_twitches_43 (by (first | decide +kernel | omega)) (by (first | decide +kernel | omega)) (by rw [c45]; rfl) (by decide) ?_
          refine V_aload_n 0 d_Land_twitches_91 rfl rfl ?_
          refine V_getR fa_Land_21 sk_1 rfl d_Land_twitches_92 ?_
          refine V_iload_n 3 d_Land_twitches_95 rfl rfl ?_
          refine N_ialdK sk_5 cE (by (first | decide +kernel | omega)) d_Land_twitches_96 lvK ?_
          refine V_iload d_Land_twitches_97 rfl ?_
          refine V_icmp_ne 106 lvE oE d_Land_twitches_99 (by decide) (fun c50 => ?_) (fun c50 => ?_)
          ·
            refine V_iconst 0 d_Land_twitches_106 (by decide) ?_
            exact V_zret rfl (by decide) d_Land_twitches_107 ⟨0, rfl, ⟨rfl, (by unfold twR; rw [show Int32.toInt 0 = 0 from rfl]; unfold twC tw; skip; rw [uvK, ivK, lvK, uvE, ivE, lvE]; omega)⟩⟩
          ·
            refine V_iconst 1 d_Land_twitches_102 (by decide) ?_
            refine V_goto 107 d_Land_twitches_103 (by decide) ?_
            exact V_zret rfl (by decide) d_Land_twitches_107 ⟨1, rfl, ⟨rfl, (by unfold twR; rw [show Int32.toInt 1 = 1 from rfl]; unfold twC tw; skip; rw [uvK, ivK, lvK, uvE, ivE, lvE]; omega)⟩⟩
abbrev q_Mod_doesTwitchX (h : Hp) (n : Int32) (nZ : Int) (m : Int32) (mZ : Int) (c : Int32) (cZ : Int) (o : Int32) (oZ : Int) (s : Int32) (sZ : Int) : Option Value → Hp → Prop := pInt (fun r h' => h = h' ∧ (twR r (twM h nZ mZ cZ.toNat oZ sZ)))
set_option maxRecDepth 100000 in
theorem c_Mod_doesTwitchX (h : Hp) (hI : Inv h) (n : Int32) (nZ : Int) (nE : n.toInt = nZ) (m : Int32) (mZ : Int) (mE : m.toInt = mZ) (c : Int32) (cZ : Int) (cE : c.toInt = cZ) (o : Int32) (oZ : Int) (oE : o.toInt = oZ) (s : Int32) (sZ : Int) (sE : s.toInt = sZ) (hy0 : 0 ≤ cZ ∧ cZ ≤ 15) (hy1 : 0 ≤ sZ) : Ct y_Mod_doesTwitch b_Mod_doesTwitch 8 (some .boolean) 0 0 [.ref 116, .int n, .int m, .int c, .int o, .int s] h (q_Mod_doesTwitchX h n nZ m mZ c cZ o oZ s sZ) := by
  refine ct_ow R_Mod [some (.ref 116), some (.int n), some (.int m), some (.int c), some (.int o), some (.int s), none, none] rfl (by decide) rfl (Nat.le_of_ble_eq_true rfl) ?_
  have f0 : fr [] h h := fr_rf
  obtain ⟨uv, uvZ, uvE, uvK⟩ : ∃ (y : Int32) (Y : Int), y.toInt = Y ∧ h.1 117 ((0 + cZ)).toNat = y := ⟨_, _, rfl, rfl⟩
  obtain ⟨iv, ivZ, ivE, ivK⟩ : ∃ (y : Int32) (Y : Int), y.toInt = Y ∧ h.1 117 ((16 + cZ)).toNat = y := ⟨_, _, rfl, rfl⟩
  obtain ⟨lv, lvZ, lvE, lvK⟩ : ∃ (y : Int32) (Y : Int), y.toInt = Y ∧ h.1 117 ((48 + cZ)).toNat = y := ⟨_, _, rfl, rfl⟩
  refine V_aload_n 0 d_Mod_doesTwitch_0 rfl rfl ?_
  refine V_getR fa_Mod_7 sk_116 rfl d_Mod_doesTwitch_1 ?_
  refine V_iconst 0 d_Mod_doesTwitch_4 (by decide) ?_
  refine V_iload_n 3 d_Mod_doesTwitch_5 rfl rfl ?_
  refine V_iadd tc_0 cE (by (first | decide +kernel | omega)) d_Mod_doesTwitch_6 (fun z1 z1e z1E => ?_)
  refine N_ialdK sk_117 z1E (by (first | decide +kernel | omega)) d_Mod_doesTwitch_7 uvK ?_
  refine V_if_le 27 uvE d_Mod_doesTwitch_8 (by decide) (fun c3 => ?_) (fun c3 => ?_)
  ·
    refine V_iconst 0 d_Mod_doesTwitch_27 (by decide) ?_
    refine V_istore 6 [some (.ref 116), some (.int n), some (.int m), some (.int c), some (.int o), some (.int s), some (.int 0), none] d_Mod_doesTwitch_28 (by decide) rfl rfl ?_
    refine V_aload_n 0 d_Mod_doesTwitch_30 rfl rfl ?_
    refine V_getR fa_Mod_7 sk_116 rfl d_Mod_doesTwitch_31 ?_
    refine V_bipush 16 d_Mod_doesTwitch_34 (by decide) ?_
    refine V_iload_n 3 d_Mod_doesTwitch_36 rfl rfl ?_
    refine V_iadd tc_16 cE (by (first | decide +kernel | omega)) d_Mod_doesTwitch_37 (fun z4 z4e z4E => ?_)
    refine N_ialdK sk_117 z4E (by (first | decide +kernel | omega)) d_Mod_doesTwitch_38 ivK ?_
    refine V_iconst 1 d_Mod_doesTwitch_39 (by decide) ?_
    refine V_icmp_ne 47 ivE tc_1 d_Mod_doesTwitch_40 (by decide) (fun c6 => ?_) (fun c6 => ?_)
    ·
      refine V_iconst 0 d_Mod_doesTwitch_47 (by decide) ?_
      refine V_istore 7 [some (.ref 116), some (.int n), some (.int m), some (.int c), some (.int o), some (.int s), some (.int 0), some (.int 0)] d_Mod_doesTwitch_48 (by decide) rfl rfl ?_
      refine V_iload_n 1 d_Mod_doesTwitch_50 rfl rfl ?_
      rcases (by (first | decide +kernel | omega) : (nZ < 0 ∨ 3 < nZ) ∨ nZ = 0 ∨ nZ = 1 ∨ nZ = 2 ∨ nZ = 3) with c7 | c7 | c7 | c7 | c7
      ·
        refine V_tabOut 120 nE d_Mod_doesTwitch_51 c7 (by decide) ?_
        refine V_iload d_Mod_doesTwitch_120 rfl ?_
        refine V_if_ne 130 tc_0 d_Mod_doesTwitch_122 (by decide) (fun c8 => ?_) (fun c8 => ?_)
        ·
          exact absurd c8 (by decide)
        ·
          refine V_iload d_Mod_doesTwitch_125 rfl ?_
          refine V_if_eq 134 tc_0 d_Mod_doesTwitch_127 (by decide) (fun c9 => ?_) (fun c9 => ?_)
          ·
            refine V_iconst 0 d_Mod_doesTwitch_134 (by decide) ?_
            exact V_zret rfl (by decide) d_Mod_doesTwitch_135 ⟨0, rfl, ⟨rfl, (by unfold twR; rw [show Int32.toInt 0 = 0 from rfl]; unfold twM tw; rw [show 16 + cZ.toNat = (16 + cZ).toNat by (first | decide +kernel | omega), show 48 + cZ.toNat = (48 + cZ).toNat by (first | decide +kernel | omega), show cZ.toNat = (0 + cZ).toNat by (first | decide +kernel | omega)]; rw [uvK, ivK, lvK, uvE, ivE, lvE]; omega)⟩⟩
          ·
            exact absurd c9 (by decide)
      ·
        refine V_tabIn 80 nE d_Mod_doesTwitch_51 (by (first | decide +kernel | omega)) (by (first | decide +kernel | omega)) (by rw [c7]; rfl) (by decide) ?_
        refine V_iload d_Mod_doesTwitch_80 rfl ?_
        exact V_zret rfl (by decide) d_Mod_doesTwitch_82 ⟨0, rfl, ⟨rfl, (by unfold twR; rw [show Int32.toInt 0 = 0 from rfl]; unfold twM tw; rw [show 16 + cZ.toNat = (16 + cZ).toNat by (first | decide +kernel | omega), show 48 + cZ.toNat = (48 + cZ).toNat by (first | decide +kernel | omega), show cZ.toNat = (0 + cZ).toNat by (first | decide +kernel | omega)]; rw [uvK, ivK, lvK, uvE, ivE, lvE]; omega)⟩⟩
      ·
        refine V_tabIn 83 nE d_Mod_doesTwitch_51 (by (first | decide +kernel | omega)) (by (first | decide +kernel | omega)) (by rw [c7]; rfl) (by decide) ?_
        refine V_iload d_Mod_doesTwitch_83 rfl ?_
        exact V_zret rfl (by decide) d_Mod_doesTwitch_85 ⟨0, rfl, ⟨rfl, (by unfold twR; rw [show Int32.toInt 0 = 0 from rfl]; unfold twM tw; rw [show 16 + cZ.toNat = (16 + cZ).toNat by (first | decide +kernel | omega), show 48 + cZ.toNat = (48 + cZ).toNat by (first | decide +kernel | omega), show cZ.toNat = (0 + cZ).toNat by (first | decide +kernel | omega)]; rw [uvK, ivK, lvK, uvE, ivE, lvE]; omega)⟩⟩
      ·
        refine V_tabIn 86 nE d_Mod_doesTwitch_51 (by (first | decide +kernel | omega)) (by (first | decide +kernel | omega)) (by rw [c7]; rfl) (by decide) ?_
        refine V_iload d_Mod_doesTwitch_86 rfl ?_
        refine V_iconst 2 d_Mod_doesTwitch_88 (by decide) ?_
        refine N_irem sE tc_2 (by (first | decide +kernel | omega)) d_Mod_doesTwitch_89 (fun z10 z10e z10E => ?_)
        refine V_iconst 1 d_Mod_doesTwitch_90 (by decide) ?_
        refine V_icmp_ne 98 z10E tc_1 d_Mod_doesTwitch_91 (by decide) (fun c11 => ?_) (fun c11 => ?_)
        ·
          refine V_iconst 0 d_Mod_doesTwitch_98 (by decide) ?_
          exact V_zret rfl (by decide) d_Mod_doesTwitch_99 ⟨0, rfl, ⟨rfl, (by unfold twR; rw [show Int32.toInt 0 = 0 from rfl]; unfold twM tw; rw [show 16 + cZ.toNat = (16 + cZ).toNat by (first | decide +kernel | omega), show 48 + cZ.toNat = (48 + cZ).toNat by (first | decide +kernel | omega), show cZ.toNat = (0 + cZ).toNat by (first | decide +kernel | omega)]; rw [uvK, ivK, lvK, uvE, ivE, lvE]; omega)⟩⟩
        ·
          refine V_iconst 1 d_Mod_doesTwitch_94 (by decide) ?_
          refine V_goto 99 d_Mod_doesTwitch_95 (by decide) ?_
          exact V_zret rfl (by decide) d_Mod_doesTwitch_99 ⟨1, rfl, ⟨rfl, (by unfold twR; rw [show Int32.toInt 1 = 1 from rfl]; unfold twM tw; rw [show 16 + cZ.toNat = (16 + cZ).toNat by (first | decide +kernel | omega), show 48 + cZ.toNat = (48 + cZ).toNat by (first | decide +kernel | omega), show cZ.toNat = (0 + cZ).toNat by (first | decide +kernel | omega)]; rw [uvK, ivK, lvK, uvE, ivE, lvE]; omega)⟩⟩
      ·
        refine V_tabIn 100 nE d_Mod_doesTwitch_51 (by (first | decide +kernel | omega)) (by (first | decide +kernel | omega)) (by rw [c7]; rfl) (by decide) ?_
        refine V_aload_n 0 d_Mod_doesTwitch_100 rfl rfl ?_
        refine V_getR fa_Mod_7 sk_116 rfl d_Mod_doesTwitch_101 ?_
        refine V_bipush 48 d_Mod_doesTwitch_104 (by decide) ?_
        refine V_iload_n 3 d_Mod_doesTwitch_106 rfl rfl ?_
        refine V_iadd tc_48 cE (by (first | decide +kernel | omega)) d_Mod_doesTwitch_107 (fun z12 z12e z12E => ?_)
        refine N_ialdK sk_117 z12E (by (first | decide +kernel | omega)) d_Mod_doesTwitch_108 lvK ?_
        refine V_iload d_Mod_doesTwitch_109 rfl ?_
        refine V_icmp_ne 118 lvE oE d_Mod_doesTwitch_111 (by decide) (fun c14 => ?_) (fun c14 => ?_)
        ·
          refine V_iconst 0 d_Mod_doesTwitch_118 (by decide) ?_
          exact V_zret rfl (by decide) d_Mod_doesTwitch_119 ⟨0, rfl, ⟨rfl, (by unfold twR; rw [show Int32.toInt 0 = 0 from rfl]; unfold twM tw; rw [show 16 + cZ.toNat = (16 + cZ).toNat by (first | decide +kernel | omega), show 48 + cZ.toNat = (48 + cZ).toNat by (first | decide +kernel | omega), show cZ.toNat = (0 + cZ).toNat by (first | decide +kernel | omega)]; rw [uvK, ivK, lvK, uvE, ivE, lvE]; omega)⟩⟩
        ·
          refine V_iconst 1 d_Mod_doesTwitch_114 (by decide) ?_
          refine V_goto 119 d_Mod_doesTwitch_115 (by decide) ?_
          exact V_zret rfl (by decide) d_Mod_doesTwitch_119 ⟨1, rfl, ⟨rfl, (by unfold twR; rw [show Int32.toInt 1 = 1 from rfl]; unfold twM tw; rw [show 16 + cZ.toNat = (16 + cZ).toNat by (first | decide +kernel | omega), show 48 + cZ.toNat = (48 + cZ).toNat by (first | decide +kernel | omega), show cZ.toNat = (0 + cZ).toNat by (first | decide +kernel | omega)]; rw [uvK, ivK, lvK, uvE, ivE, lvE]; omega)⟩⟩
    ·
      refine V_iconst 1 d_Mod_doesTwitch_43 (by decide) ?_
      refine V_goto 48 d_Mod_doesTwitch_44 (by decide) ?_
      refine V_istore 7 [some (.ref 116), some (.int n), some (.int m), some (.int c), some (.int o), some (.int s), some (.int 0), some (.int 1)] d_Mod_doesTwitch_48 (by decide) rfl rfl ?_
      refine V_iload_n 1 d_Mod_doesTwitch_50 rfl rfl ?_
      rcases (by (first | decide +kernel | omega) : (nZ < 0 ∨ 3 < nZ) ∨ nZ = 0 ∨ nZ = 1 ∨ nZ = 2 ∨ nZ = 3) with c15 | c15 | c15 | c15 | c15
      ·
        refine V_tabOut 120 nE d_Mod_doesTwitch_51 c15 (by decide) ?_
        refine V_iload d_Mod_doesTwitch_120 rfl ?_
        refine V_if_ne 130 tc_0 d_Mod_doesTwitch_122 (by decide) (fun c16 => ?_) (fun c16 => ?_)
        ·
          exact absurd c16 (by decide)
        ·
          refine V_iload d_Mod_doesTwitch_125 rfl ?_
          refine V_if_eq 134 tc_1 d_Mod_doesTwitch_127 (by decide) (fun c17 => ?_) (fun c17 => ?_)
          ·
            exact absurd c17 (by decide)
          ·
            refine V_iconst 1 d_Mod_doesTwitch_130 (by decide) ?_
            refine V_goto 135 d_Mod_doesTwitch_131 (by decide) ?_
            exact V_zret rfl (by decide) d_Mod_doesTwitch_135 ⟨1, rfl, ⟨rfl, (by unfold twR; rw [show Int32.toInt 1 = 1 from rfl]; unfold twM tw; rw [show 16 + cZ.toNat = (16 + cZ).toNat by (first | decide +kernel | omega), show 48 + cZ.toNat = (48 + cZ).toNat by (first | decide +kernel | omega), show cZ.toNat = (0 + cZ).toNat by (first | decide +kernel | omega)]; rw [uvK, ivK, lvK, uvE, ivE, lvE]; omega)⟩⟩
      ·
        refine V_tabIn 80 nE d_Mod_doesTwitch_51 (by (first | decide +kernel | omega)) (by (first | decide +kernel | omega)) (by rw [c15]; rfl) (by decide) ?_
        refine V_iload d_Mod_doesTwitch_80 rfl ?_
        exact V_zret rfl (by decide) d_Mod_doesTwitch_82 ⟨0, rfl, ⟨rfl, (by unfold twR; rw [show Int32.toInt 0 = 0 from rfl]; unfold twM tw; rw [show 16 + cZ.toNat = (16 + cZ).toNat by (first | decide +kernel | omega), show 48 + cZ.toNat = (48 + cZ).toNat by (first | decide +kernel | omega), show cZ.toNat = (0 + cZ).toNat by (first | decide +kernel | omega)]; rw [uvK, ivK, lvK, uvE, ivE, lvE]; omega)⟩⟩
      ·
        refine V_tabIn 83 nE d_Mod_doesTwitch_51 (by (first | decide +kernel | omega)) (by (first | decide +kernel | omega)) (by rw [c15]; rfl) (by decide) ?_
        refine V_iload d_Mod_doesTwitch_83 rfl ?_
        exact V_zret rfl (by decide) d_Mod_doesTwitch_85 ⟨1, rfl, ⟨rfl, (by unfold twR; rw [show Int32.toInt 1 = 1 from rfl]; unfold twM tw; rw [show 16 + cZ.toNat = (16 + cZ).toNat by (first | decide +kernel | omega), show 48 + cZ.toNat = (48 + cZ).toNat by (first | decide +kernel | omega), show cZ.toNat = (0 + cZ).toNat by (first | decide +kernel | omega)]; rw [uvK, ivK, lvK, uvE, ivE, lvE]; omega)⟩⟩
      ·
        refine V_tabIn 86 nE d_Mod_doesTwitch_51 (by (first | decide +kernel | omega)) (by (first | decide +kernel | omega)) (by rw [c15]; rfl) (by decide) ?_
        refine V_iload d_Mod_doesTwitch_86 rfl ?_
        refine V_iconst 2 d_Mod_doesTwitch_88 (by decide) ?_
        refine N_irem sE tc_2 (by (first | decide +kernel | omega)) d_Mod_doesTwitch_89 (fun z18 z18e z18E => ?_)
        refine V_iconst 1 d_Mod_doesTwitch_90 (by decide) ?_
        refine V_icmp_ne 98 z18E tc_1 d_Mod_doesTwitch_91 (by decide) (fun c19 => ?_) (fun c19 => ?_)
        ·
          refine V_iconst 0 d_Mod_doesTwitch_98 (by decide) ?_
          exact V_zret rfl (by decide) d_Mod_doesTwitch_99 ⟨0, rfl, ⟨rfl, (by unfold twR; rw [show Int32.toInt 0 = 0 from rfl]; unfold twM tw; rw [show 16 + cZ.toNat = (16 + cZ).toNat by (first | decide +kernel | omega), show 48 + cZ.toNat = (48 + cZ).toNat by (first | decide +kernel | omega), show cZ.toNat = (0 + cZ).toNat by (first | decide +kernel | omega)]; rw [uvK, ivK, lvK, uvE, ivE, lvE]; omega)⟩⟩
        ·
          refine V_iconst 1 d_Mod_doesTwitch_94 (by decide) ?_
          refine V_goto 99 d_Mod_doesTwitch_95 (by decide) ?_
          exact V_zret rfl (by decide) d_Mod_doesTwitch_99 ⟨1, rfl, ⟨rfl, (by unfold twR; rw [show Int32.toInt 1 = 1 from rfl]; unfold twM tw; rw [show 16 + cZ.toNat = (16 + cZ).toNat by (first | decide +kernel | omega), show 48 + cZ.toNat = (48 + cZ).toNat by (first | decide +kernel | omega), show cZ.toNat = (0 + cZ).toNat by (first | decide +kernel | omega)]; rw [uvK, ivK, lvK, uvE, ivE, lvE]; omega)⟩⟩
      ·
        refine V_tabIn 100 nE d_Mod_doesTwitch_51 (by (first | decide +kernel | omega)) (by (first | decide +kernel | omega)) (by rw [c15]; rfl) (by decide) ?_
        refine V_aload_n 0 d_Mod_doesTwitch_100 rfl rfl ?_
        refine V_getR fa_Mod_7 sk_116 rfl d_Mod_doesTwitch_101 ?_
        refine V_bipush 48 d_Mod_doesTwitch_104 (by decide) ?_
        refine V_iload_n 3 d_Mod_doesTwitch_106 rfl rfl ?_
        refine V_iadd tc_48 cE (by (first | decide +kernel | omega)) d_Mod_doesTwitch_107 (fun z20 z20e z20E => ?_)
        refine N_ialdK sk_117 z20E (by (first | decide +kernel | omega)) d_Mod_doesTwitch_108 lvK ?_
        refine V_iload d_Mod_doesTwitch_109 rfl ?_
        refine V_icmp_ne 118 lvE oE d_Mod_doesTwitch_111 (by decide) (fun c22 => ?_) (fun c22 => ?_)
        ·
          refine V_iconst 0 d_Mod_doesTwitch_118 (by decide) ?_
          exact V_zret rfl (by decide) d_Mod_doesTwitch_119 ⟨0, rfl, ⟨rfl, (by unfold twR; rw [show Int32.toInt 0 = 0 from rfl]; unfold twM tw; rw [show 16 + cZ.toNat = (16 + cZ).toNat by (first | decide +kernel | omega), show 48 + cZ.toNat = (48 + cZ).toNat by (first | decide +kernel | omega), show cZ.toNat = (0 + cZ).toNat by (first | decide +kernel | omega)]; rw [uvK, ivK, lvK, uvE, ivE, lvE]; omega)⟩⟩
        ·
          refine V_iconst 1 d_Mod_doesTwitch_114 (by decide) ?_
          refine V_goto 119 d_Mod_doesTwitch_115 (by decide) ?_
          exact V_zret rfl (by decide) d_Mod_doesTwitch_119 ⟨1, rfl, ⟨rfl, (by unfold twR; rw [show Int32.toInt 1 = 1 from rfl]; unfold twM tw; rw [show 16 + cZ.toNat = (16 + cZ).toNat by (first | decide +kernel | omega), show 48 + cZ.toNat = (48 + cZ).toNat by (first | decide +kernel | omega), show cZ.toNat = (0 + cZ).toNat by (first | decide +kernel | omega)]; rw [uvK, ivK, lvK, uvE, ivE, lvE]; omega)⟩⟩
  ·
    refine V_aload_n 0 d_Mod_doesTwitch_11 rfl rfl ?_
    refine V_getR fa_Mod_7 sk_116 rfl d_Mod_doesTwitch_12 ?_
    refine V_iconst 0 d_Mod_doesTwitch_15 (by decide) ?_
    refine V_iload_n 3 d_Mod_doesTwitch_16 rfl rfl ?_
    refine V_iadd tc_0 cE (by (first | decide +kernel | omega)) d_Mod_doesTwitch_17 (fun z23 z23e z23E => ?_)
    refine N_ialdK sk_117 z23E (by (first | decide +kernel | omega)) d_Mod_doesTwitch_18 uvK ?_
    refine V_iload_n 2 d_Mod_doesTwitch_19 rfl rfl ?_
    refine V_icmp_gt 27 uvE mE d_Mod_doesTwitch_20 (by decide) (fun c25 => ?_) (fun c25 => ?_)
    ·
      refine V_iconst 0 d_Mod_doesTwitch_27 (by decide) ?_
      refine V_istore 6 [some (.ref 116), some (.int n), some (.int m), some (.int c), some (.int o), some (.int s), some (.int 0), none] d_Mod_doesTwitch_28 (by decide) rfl rfl ?_
      refine V_aload_n 0 d_Mod_doesTwitch_30 rfl rfl ?_
      refine V_getR fa_Mod_7 sk_116 rfl d_Mod_doesTwitch_31 ?_
      refine V_bipush 16 d_Mod_doesTwitch_34 (by decide) ?_
      refine V_iload_n 3 d_Mod_doesTwitch_36 rfl rfl ?_
      refine V_iadd tc_16 cE (by (first | decide +kernel | omega)) d_Mod_doesTwitch_37 (fun z26 z26e z26E => ?_)
      refine N_ialdK sk_117 z26E (by (first | decide +kernel | omega)) d_Mod_doesTwitch_38 ivK ?_
      refine V_iconst 1 d_Mod_doesTwitch_39 (by decide) ?_
      refine V_icmp_ne 47 ivE tc_1 d_Mod_doesTwitch_40 (by decide) (fun c28 => ?_) (fun c28 => ?_)
      ·
        refine V_iconst 0 d_Mod_doesTwitch_47 (by decide) ?_
        refine V_istore 7 [some (.ref 116), some (.int n), some (.int m), some (.int c), some (.int o), some (.int s), some (.int 0), some (.int 0)] d_Mod_doesTwitch_48 (by decide) rfl rfl ?_
        refine V_iload_n 1 d_Mod_doesTwitch_50 rfl rfl ?_
        rcases (by (first | decide +kernel | omega) : (nZ < 0 ∨ 3 < nZ) ∨ nZ = 0 ∨ nZ = 1 ∨ nZ = 2 ∨ nZ = 3) with c29 | c29 | c29 | c29 | c29
        ·
          refine V_tabOut 120 nE d_Mod_doesTwitch_51 c29 (by decide) ?_
          refine V_iload d_Mod_doesTwitch_120 rfl ?_
          refine V_if_ne 130 tc_0 d_Mod_doesTwitch_122 (by decide) (fun c30 => ?_) (fun c30 => ?_)
          ·
            exact absurd c30 (by decide)
          ·
            refine V_iload d_Mod_doesTwitch_125 rfl ?_
            refine V_if_eq 134 tc_0 d_Mod_doesTwitch_127 (by decide) (fun c31 => ?_) (fun c31 => ?_)
            ·
              refine V_iconst 0 d_Mod_doesTwitch_134 (by decide) ?_
              exact V_zret rfl (by decide) d_Mod_doesTwitch_135 ⟨0, rfl, ⟨rfl, (by unfold twR; rw [show Int32.toInt 0 = 0 from rfl]; unfold twM tw; rw [show 16 + cZ.toNat = (16 + cZ).toNat by (first | decide +kernel | omega), show 48 + cZ.toNat = (48 + cZ).toNat by (first | decide +kernel | omega), show cZ.toNat = (0 + cZ).toNat by (first | decide +kernel | omega)]; rw [uvK, ivK, lvK, uvE, ivE, lvE]; omega)⟩⟩
            ·
              exact absurd c31 (by decide)
        ·
          refine V_tabIn 80 nE d_Mod_doesTwitch_51 (by (first | decide +kernel | omega)) (by (first | decide +kernel | omega)) (by rw [c29]; rfl) (by decide) ?_
          refine V_iload d_Mod_doesTwitch_80 rfl ?_
          exact V_zret rfl (by decide) d_Mod_doesTwitch_82 ⟨0, rfl, ⟨rfl, (by unfold twR; rw [show Int32.toInt 0 = 0 from rfl]; unfold twM tw; rw [show 16 + cZ.toNat = (16 + cZ).toNat by (first | decide +kernel | omega), show 48 + cZ.toNat = (48 + cZ).toNat by (first | decide +kernel | omega), show cZ.toNat = (0 + cZ).toNat by (first | decide +kernel | omega)]; rw [uvK, ivK, lvK, uvE, ivE, lvE]; omega)⟩⟩
        ·
          refine V_tabIn 83 nE d_Mod_doesTwitch_51 (by (first | decide +kernel | omega)) (by (first | decide +kernel | omega)) (by rw [c29]; rfl) (by decide) ?_
          refine V_iload d_Mod_doesTwitch_83 rfl ?_
          exact V_zret rfl (by decide) d_Mod_doesTwitch_85 ⟨0, rfl, ⟨rfl, (by unfold twR; rw [show Int32.toInt 0 = 0 from rfl]; unfold twM tw; rw [show 16 + cZ.toNat = (16 + cZ).toNat by (first | decide +kernel | omega), show 48 + cZ.toNat = (48 + cZ).toNat by (first | decide +kernel | omega), show cZ.toNat = (0 + cZ).toNat by (first | decide +kernel | omega)]; rw [uvK, ivK, lvK, uvE, ivE, lvE]; omega)⟩⟩
        ·
          refine V_tabIn 86 nE d_Mod_doesTwitch_51 (by (first | decide +kernel | omega)) (by (first | decide +kernel | omega)) (by rw [c29]; rfl) (by decide) ?_
          refine V_iload d_Mod_doesTwitch_86 rfl ?_
          refine V_iconst 2 d_Mod_doesTwitch_88 (by decide) ?_
          refine N_irem sE tc_2 (by (first | decide +kernel | omega)) d_Mod_doesTwitch_89 (fun z32 z32e z32E => ?_)
          refine V_iconst 1 d_Mod_doesTwitch_90 (by decide) ?_
          refine V_icmp_ne 98 z32E tc_1 d_Mod_doesTwitch_91 (by decide) (fun c33 => ?_) (fun c33 => ?_)
          ·
            refine V_iconst 0 d_Mod_doesTwitch_98 (by decide) ?_
            exact V_zret rfl (by decide) d_Mod_doesTwitch_99 ⟨0, rfl, ⟨rfl, (by unfold twR; rw [show Int32.toInt 0 = 0 from rfl]; unfold twM tw; rw [show 16 + cZ.toNat = (16 + cZ).toNat by (first | decide +kernel | omega), show 48 + cZ.toNat = (48 + cZ).toNat by (first | decide +kernel | omega), show cZ.toNat = (0 + cZ).toNat by (first | decide +kernel | omega)]; rw [uvK, ivK, lvK, uvE, ivE, lvE]; omega)⟩⟩
          ·
            refine V_iconst 1 d_Mod_doesTwitch_94 (by decide) ?_
            refine V_goto 99 d_Mod_doesTwitch_95 (by decide) ?_
            exact V_zret rfl (by decide) d_Mod_doesTwitch_99 ⟨1, rfl, ⟨rfl, (by unfold twR; rw [show Int32.toInt 1 = 1 from rfl]; unfold twM tw; rw [show 16 + cZ.toNat = (16 + cZ).toNat by (first | decide +kernel | omega), show 48 + cZ.toNat = (48 + cZ).toNat by (first | decide +kernel | omega), show cZ.toNat = (0 + cZ).toNat by (first | decide +kernel | omega)]; rw [uvK, ivK, lvK, uvE, ivE, lvE]; omega)⟩⟩
        ·
          refine V_tabIn 100 nE d_Mod_doesTwitch_51 (by (first | decide +kernel | omega)) (by (first | decide +kernel | omega)) (by rw [c29]; rfl) (by decide) ?_
          refine V_aload_n 0 d_Mod_doesTwitch_100 rfl rfl ?_
          refine V_getR fa_Mod_7 sk_116 rfl d_Mod_doesTwitch_101 ?_
          refine V_bipush 48 d_Mod_doesTwitch_104 (by decide) ?_
          refine V_iload_n 3 d_Mod_doesTwitch_106 rfl rfl ?_
          refine V_iadd tc_48 cE (by (first | decide +kernel | omega)) d_Mod_doesTwitch_107 (fun z34 z34e z34E => ?_)
          refine N_ialdK sk_117 z34E (by (first | decide +kernel | omega)) d_Mod_doesTwitch_108 lvK ?_
          refine V_iload d_Mod_doesTwitch_109 rfl ?_
          refine V_icmp_ne 118 lvE oE d_Mod_doesTwitch_111 (by decide) (fun c36 => ?_) (fun c36 => ?_)
          ·
            refine V_iconst 0 d_Mod_doesTwitch_118 (by decide) ?_
            exact V_zret rfl (by decide) d_Mod_doesTwitch_119 ⟨0, rfl, ⟨rfl, (by unfold twR; rw [show Int32.toInt 0 = 0 from rfl]; unfold twM tw; rw [show 16 + cZ.toNat = (16 + cZ).toNat by (first | decide +kernel | omega), show 48 + cZ.toNat = (48 + cZ).toNat by (first | decide +kernel | omega), show cZ.toNat = (0 + cZ).toNat by (first | decide +kernel | omega)]; rw [uvK, ivK, lvK, uvE, ivE, lvE]; omega)⟩⟩
          ·
            refine V_iconst 1 d_Mod_doesTwitch_114 (by decide) ?_
            refine V_goto 119 d_Mod_doesTwitch_115 (by decide) ?_
            exact V_zret rfl (by decide) d_Mod_doesTwitch_119 ⟨1, rfl, ⟨rfl, (by unfold twR; rw [show Int32.toInt 1 = 1 from rfl]; unfold twM tw; rw [show 16 + cZ.toNat = (16 + cZ).toNat by (first | decide +kernel | omega), show 48 + cZ.toNat = (48 + cZ).toNat by (first | decide +kernel | omega), show cZ.toNat = (0 + cZ).toNat by (first | decide +kernel | omega)]; rw [uvK, ivK, lvK, uvE, ivE, lvE]; omega)⟩⟩
      ·
        refine V_iconst 1 d_Mod_doesTwitch_43 (by decide) ?_
        refine V_goto 48 d_Mod_doesTwitch_44 (by decide) ?_
        refine V_istore 7 [some (.ref 116), some (.int n), some (.int m), some (.int c), some (.int o), some (.int s), some (.int 0), some (.int 1)] d_Mod_doesTwitch_48 (by decide) rfl rfl ?_
        refine V_iload_n 1 d_Mod_doesTwitch_50 rfl rfl ?_
        rcases (by (first | decide +kernel | omega) : (nZ < 0 ∨ 3 < nZ) ∨ nZ = 0 ∨ nZ = 1 ∨ nZ = 2 ∨ nZ = 3) with c37 | c37 | c37 | c37 | c37
        ·
          refine V_tabOut 120 nE d_Mod_doesTwitch_51 c37 (by decide) ?_
          refine V_iload d_Mod_doesTwitch_120 rfl ?_
          refine V_if_ne 130 tc_0 d_Mod_doesTwitch_122 (by decide) (fun c38 => ?_) (fun c38 => ?_)
          ·
            exact absurd c38 (by decide)
          ·
            refine V_iload d_Mod_doesTwitch_125 rfl ?_
            refine V_if_eq 134 tc_1 d_Mod_doesTwitch_127 (by decide) (fun c39 => ?_) (fun c39 => ?_)
            ·
              exact absurd c39 (by decide)
            ·
              refine V_iconst 1 d_Mod_doesTwitch_130 (by decide) ?_
              refine V_goto 135 d_Mod_doesTwitch_131 (by decide) ?_
              exact V_zret rfl (by decide) d_Mod_doesTwitch_135 ⟨1, rfl, ⟨rfl, (by unfold twR; rw [show Int32.toInt 1 = 1 from rfl]; unfold twM tw; rw [show 16 + cZ.toNat = (16 + cZ).toNat by (first | decide +kernel | omega), show 48 + cZ.toNat = (48 + cZ).toNat by (first | decide +kernel | omega), show cZ.toNat = (0 + cZ).toNat by (first | decide +kernel | omega)]; rw [uvK, ivK, lvK, uvE, ivE, lvE]; omega)⟩⟩
        ·
          refine V_tabIn 80 nE d_Mod_doesTwitch_51 (by (first | decide +kernel | omega)) (by (first | decide +kernel | omega)) (by rw [c37]; rfl) (by decide) ?_
          refine V_iload d_Mod_doesTwitch_80 rfl ?_
          exact V_zret rfl (by decide) d_Mod_doesTwitch_82 ⟨0, rfl, ⟨rfl, (by unfold twR; rw [show Int32.toInt 0 = 0 from rfl]; unfold twM tw; rw [show 16 + cZ.toNat = (16 + cZ).toNat by (first | decide +kernel | omega), show 48 + cZ.toNat = (48 + cZ).toNat by (first | decide +kernel | omega), show cZ.toNat = (0 + cZ).toNat by (first | decide +kernel | omega)]; rw [uvK, ivK, lvK, uvE, ivE, lvE]; omega)⟩⟩
        ·
          refine V_tabIn 83 nE d_Mod_doesTwitch_51 (by (first | decide +kernel | omega)) (by (first | decide +kernel | omega)) (by rw [c37]; rfl) (by decide) ?_
          refine V_iload d_Mod_doesTwitch_83 rfl ?_
          exact V_zret rfl (by decide) d_Mod_doesTwitch_85 ⟨1, rfl, ⟨rfl, (by unfold twR; rw [show Int32.toInt 1 = 1 from rfl]; unfold twM tw; rw [show 16 + cZ.toNat = (16 + cZ).toNat by (first | decide +kernel | omega), show 48 + cZ.toNat = (48 + cZ).toNat by (first | decide +kernel | omega), show cZ.toNat = (0 + cZ).toNat by (first | decide +kernel | omega)]; rw [uvK, ivK, lvK, uvE, ivE, lvE]; omega)⟩⟩
        ·
          refine V_tabIn 86 nE d_Mod_doesTwitch_51 (by (first | decide +kernel | omega)) (by (first | decide +kernel | omega)) (by rw [c37]; rfl) (by decide) ?_
          refine V_iload d_Mod_doesTwitch_86 rfl ?_
          refine V_iconst 2 d_Mod_doesTwitch_88 (by decide) ?_
          refine N_irem sE tc_2 (by (first | decide +kernel | omega)) d_Mod_doesTwitch_89 (fun z40 z40e z40E => ?_)
          refine V_iconst 1 d_Mod_doesTwitch_90 (by decide) ?_
          refine V_icmp_ne 98 z40E tc_1 d_Mod_doesTwitch_91 (by decide) (fun c41 => ?_) (fun c41 => ?_)
          ·
            refine V_iconst 0 d_Mod_doesTwitch_98 (by decide) ?_
            exact V_zret rfl (by decide) d_Mod_doesTwitch_99 ⟨0, rfl, ⟨rfl, (by unfold twR; rw [show Int32.toInt 0 = 0 from rfl]; unfold twM tw; rw [show 16 + cZ.toNat = (16 + cZ).toNat by (first | decide +kernel | omega), show 48 + cZ.toNat = (48 + cZ).toNat by (first | decide +kernel | omega), show cZ.toNat = (0 + cZ).toNat by (first | decide +kernel | omega)]; rw [uvK, ivK, lvK, uvE, ivE, lvE]; omega)⟩⟩
          ·
            refine V_iconst 1 d_Mod_doesTwitch_94 (by decide) ?_
            refine V_goto 99 d_Mod_doesTwitch_95 (by decide) ?_
            exact V_zret rfl (by decide) d_Mod_doesTwitch_99 ⟨1, rfl, ⟨rfl, (by unfold twR; rw [show Int32.toInt 1 = 1 from rfl]; unfold twM tw; rw [show 16 + cZ.toNat = (16 + cZ).toNat by (first | decide +kernel | omega), show 48 + cZ.toNat = (48 + cZ).toNat by (first | decide +kernel | omega), show cZ.toNat = (0 + cZ).toNat by (first | decide +kernel | omega)]; rw [uvK, ivK, lvK, uvE, ivE, lvE]; omega)⟩⟩
        ·
          refine V_tabIn 100 nE d_Mod_doesTwitch_51 (by (first | decide +kernel | omega)) (by (first | decide +kernel | omega)) (by rw [c37]; rfl) (by decide) ?_
          refine V_aload_n 0 d_Mod_doesTwitch_100 rfl rfl ?_
          refine V_getR fa_Mod_7 sk_116 rfl d_Mod_doesTwitch_101 ?_
          refine V_bipush 48 d_Mod_doesTwitch_104 (by decide) ?_
          refine V_iload_n 3 d_Mod_doesTwitch_106 rfl rfl ?_
          refine V_iadd tc_48 cE (by (first | decide +kernel | omega)) d_Mod_doesTwitch_107 (fun z42 z42e z42E => ?_)
          refine N_ialdK sk_117 z42E (by (first | decide +kernel | omega)) d_Mod_doesTwitch_108 lvK ?_
          refine V_iload d_Mod_doesTwitch_109 rfl ?_
          refine V_icmp_ne 118 lvE oE d_Mod_doesTwitch_111 (by decide) (fun c44 => ?_) (fun c44 => ?_)
          ·
            refine V_iconst 0 d_Mod_doesTwitch_118 (by decide) ?_
            exact V_zret rfl (by decide) d_Mod_doesTwitch_119 ⟨0, rfl, ⟨rfl, (by unfold twR; rw [show Int32.toInt 0 = 0 from rfl]; unfold twM tw; rw [show 16 + cZ.toNat = (16 + cZ).toNat by (first | decide +kernel | omega), show 48 + cZ.toNat = (48 + cZ).toNat by (first | decide +kernel | omega), show cZ.toNat = (0 + cZ).toNat by (first | decide +kernel | omega)]; rw [uvK, ivK, lvK, uvE, ivE, lvE]; omega)⟩⟩
          ·
            refine V_iconst 1 d_Mod_doesTwitch_114 (by decide) ?_
            refine V_goto 119 d_Mod_doesTwitch_115 (by decide) ?_
            exact V_zret rfl (by decide) d_Mod_doesTwitch_119 ⟨1, rfl, ⟨rfl, (by unfold twR; rw [show Int32.toInt 1 = 1 from rfl]; unfold twM tw; rw [show 16 + cZ.toNat = (16 + cZ).toNat by (first | decide +kernel | omega), show 48 + cZ.toNat = (48 + cZ).toNat by (first | decide +kernel | omega), show cZ.toNat = (0 + cZ).toNat by (first | decide +kernel | omega)]; rw [uvK, ivK, lvK, uvE, ivE, lvE]; omega)⟩⟩
    ·
      refine V_iconst 1 d_Mod_doesTwitch_23 (by decide) ?_
      refine V_goto 28 d_Mod_doesTwitch_24 (by decide) ?_
      refine V_istore 6 [some (.ref 116), some (.int n), some (.int m), some (.int c), some (.int o), some (.int s), some (.int 1), none] d_Mod_doesTwitch_28 (by decide) rfl rfl ?_
      refine V_aload_n 0 d_Mod_doesTwitch_30 rfl rfl ?_
      refine V_getR fa_Mod_7 sk_116 rfl d_Mod_doesTwitch_31 ?_
      refine V_bipush 16 d_Mod_doesTwitch_34 (by decide) ?_
      refine V_iload_n 3 d_Mod_doesTwitch_36 rfl rfl ?_
      refine V_iadd tc_16 cE (by (first | decide +kernel | omega)) d_Mod_doesTwitch_37 (fun z45 z45e z45E => ?_)
      refine N_ialdK sk_117 z45E (by (first | decide +kernel | omega)) d_Mod_doesTwitch_38 ivK ?_
      refine V_iconst 1 d_Mod_doesTwitch_39 (by decide) ?_
      refine V_icmp_ne 47 ivE tc_1 d_Mod_doesTwitch_40 (by decide) (fun c47 => ?_) (fun c47 => ?_)
      ·
        refine V_iconst 0 d_Mod_doesTwitch_47 (by decide) ?_
        refine V_istore 7 [some (.ref 116), some (.int n), some (.int m), some (.int c), some (.int o), some (.int s), some (.int 1), some (.int 0)] d_Mod_doesTwitch_48 (by decide) rfl rfl ?_
        refine V_iload_n 1 d_Mod_doesTwitch_50 rfl rfl ?_
        rcases (by (first | decide +kernel | omega) : (nZ < 0 ∨ 3 < nZ) ∨ nZ = 0 ∨ nZ = 1 ∨ nZ = 2 ∨ nZ = 3) with c48 | c48 | c48 | c48 | c48
        ·
          refine V_tabOut 120 nE d_Mod_doesTwitch_51 c48 (by decide) ?_
          refine V_iload d_Mod_doesTwitch_120 rfl ?_
          refine V_if_ne 130 tc_1 d_Mod_doesTwitch_122 (by decide) (fun c49 => ?_) (fun c49 => ?_)
          ·
            refine V_iconst 1 d_Mod_doesTwitch_130 (by decide) ?_
            refine V_goto 135 d_Mod_doesTwitch_131 (by decide) ?_
            exact V_zret rfl (by decide) d_Mod_doesTwitch_135 ⟨1, rfl, ⟨rfl, (by unfold twR; rw [show Int32.toInt 1 = 1 from rfl]; unfold twM tw; rw [show 16 + cZ.toNat = (16 + cZ).toNat by (first | decide +kernel | omega), show 48 + cZ.toNat = (48 + cZ).toNat by (first | decide +kernel | omega), show cZ.toNat = (0 + cZ).toNat by (first | decide +kernel | omega)]; rw [uvK, ivK, lvK, uvE, ivE, lvE]; omega)⟩⟩
          ·
            exact absurd c49 (by decide)
        ·
          refine V_tabIn 80 nE d_Mod_doesTwitch_51 (by (first | decide +kernel | omega)) (by (first | decide +kernel | omega)) (by rw [c48]; rfl) (by decide) ?_
          refine V_iload d_Mod_doesTwitch_80 rfl ?_
          exact V_zret rfl (by decide) d_Mod_doesTwitch_82 ⟨1, rfl, ⟨rfl, (by unfold twR; rw [show Int32.toInt 1 = 1 from rfl]; unfold twM tw; rw [show 16 + cZ.toNat = (16 + cZ).toNat by (first | decide +kernel | omega), show 48 + cZ.toNat = (48 + cZ).toNat by (first | decide +kernel | omega), show cZ.toNat = (0 + cZ).toNat by (first | decide +kernel | omega)]; rw [uvK, ivK, lvK, uvE, ivE, lvE]; omega)⟩⟩
        ·
          refine V_tabIn 83 nE d_Mod_doesTwitch_51 (by (first | decide +kernel | omega)) (by (first | decide +kernel | omega)) (by rw [c48]; rfl) (by decide) ?_
          refine V_iload d_Mod_doesTwitch_83 rfl ?_
          exact V_zret rfl (by decide) d_Mod_doesTwitch_85 ⟨0, rfl, ⟨rfl, (by unfold twR; rw [show Int32.toInt 0 = 0 from rfl]; unfold twM tw; rw [show 16 + cZ.toNat = (16 + cZ).toNat by (first | decide +kernel | omega), show 48 + cZ.toNat = (48 + cZ).toNat by (first | decide +kernel | omega), show cZ.toNat = (0 + cZ).toNat by (first | decide +kernel | omega)]; rw [uvK, ivK, lvK, uvE, ivE, lvE]; omega)⟩⟩
        ·
          refine V_tabIn 86 nE d_Mod_doesTwitch_51 (by (first | decide +kernel | omega)) (by (first | decide +kernel | omega)) (by rw [c48]; rfl) (by decide) ?_
          refine V_iload d_Mod_doesTwitch_86 rfl ?_
          refine V_iconst 2 d_Mod_doesTwitch_88 (by decide) ?_
          refine N_irem sE tc_2 (by (first | decide +kernel | omega)) d_Mod_doesTwitch_89 (fun z50 z50e z50E => ?_)
          refine V_iconst 1 d_Mod_doesTwitch_90 (by decide) ?_
          refine V_icmp_ne 98 z50E tc_1 d_Mod_doesTwitch_91 (by decide) (fun c51 => ?_) (fun c51 => ?_)
          ·
            refine V_iconst 0 d_Mod_doesTwitch_98 (by decide) ?_
            exact V_zret rfl (by decide) d_Mod_doesTwitch_99 ⟨0, rfl, ⟨rfl, (by unfold twR; rw [show Int32.toInt 0 = 0 from rfl]; unfold twM tw; rw [show 16 + cZ.toNat = (16 + cZ).toNat by (first | decide +kernel | omega), show 48 + cZ.toNat = (48 + cZ).toNat by (first | decide +kernel | omega), show cZ.toNat = (0 + cZ).toNat by (first | decide +kernel | omega)]; rw [uvK, ivK, lvK, uvE, ivE, lvE]; omega)⟩⟩
          ·
            refine V_iconst 1 d_Mod_doesTwitch_94 (by decide) ?_
            refine V_goto 99 d_Mod_doesTwitch_95 (by decide) ?_
            exact V_zret rfl (by decide) d_Mod_doesTwitch_99 ⟨1, rfl, ⟨rfl, (by unfold twR; rw [show Int32.toInt 1 = 1 from rfl]; unfold twM tw; rw [show 16 + cZ.toNat = (16 + cZ).toNat by (first | decide +kernel | omega), show 48 + cZ.toNat = (48 + cZ).toNat by (first | decide +kernel | omega), show cZ.toNat = (0 + cZ).toNat by (first | decide +kernel | omega)]; rw [uvK, ivK, lvK, uvE, ivE, lvE]; omega)⟩⟩
        ·
          refine V_tabIn 100 nE d_Mod_doesTwitch_51 (by (first | decide +kernel | omega)) (by (first | decide +kernel | omega)) (by rw [c48]; rfl) (by decide) ?_
          refine V_aload_n 0 d_Mod_doesTwitch_100 rfl rfl ?_
          refine V_getR fa_Mod_7 sk_116 rfl d_Mod_doesTwitch_101 ?_
          refine V_bipush 48 d_Mod_doesTwitch_104 (by decide) ?_
          refine V_iload_n 3 d_Mod_doesTwitch_106 rfl rfl ?_
          refine V_iadd tc_48 cE (by (first | decide +kernel | omega)) d_Mod_doesTwitch_107 (fun z52 z52e z52E => ?_)
          refine N_ialdK sk_117 z52E (by (first | decide +kernel | omega)) d_Mod_doesTwitch_108 lvK ?_
          refine V_iload d_Mod_doesTwitch_109 rfl ?_
          refine V_icmp_ne 118 lvE oE d_Mod_doesTwitch_111 (by decide) (fun c54 => ?_) (fun c54 => ?_)
          ·
            refine V_iconst 0 d_Mod_doesTwitch_118 (by decide) ?_
            exact V_zret rfl (by decide) d_Mod_doesTwitch_119 ⟨0, rfl, ⟨rfl, (by unfold twR; rw [show Int32.toInt 0 = 0 from rfl]; unfold twM tw; rw [show 16 + cZ.toNat = (16 + cZ).toNat by (first | decide +kernel | omega), show 48 + cZ.toNat = (48 + cZ).toNat by (first | decide +kernel | omega), show cZ.toNat = (0 + cZ).toNat by (first | decide +kernel | omega)]; rw [uvK, ivK, lvK, uvE, ivE, lvE]; omega)⟩⟩
          ·
            refine V_iconst 1 d_Mod_doesTwitch_114 (by decide) ?_
            refine V_goto 119 d_Mod_doesTwitch_115 (by decide) ?_
            exact V_zret rfl (by decide) d_Mod_doesTwitch_119 ⟨1, rfl, ⟨rfl, (by unfold twR; rw [show Int32.toInt 1 = 1 from rfl]; unfold twM tw; rw [show 16 + cZ.toNat = (16 + cZ).toNat by (first | decide +kernel | omega), show 48 + cZ.toNat = (48 + cZ).toNat by (first | decide +kernel | omega), show cZ.toNat = (0 + cZ).toNat by (first | decide +kernel | omega)]; rw [uvK, ivK, lvK, uvE, ivE, lvE]; omega)⟩⟩
      ·
        refine V_iconst 1 d_Mod_doesTwitch_43 (by decide) ?_
        refine V_goto 48 d_Mod_doesTwitch_44 (by decide) ?_
        refine V_istore 7 [some (.ref 116), some (.int n), some (.int m), some (.int c), some (.int o), some (.int s), some (.int 1), some (.int 1)] d_Mod_doesTwitch_48 (by decide) rfl rfl ?_
        refine V_iload_n 1 d_Mod_doesTwitch_50 rfl rfl ?_
        rcases (by (first | decide +kernel | omega) : (nZ < 0 ∨ 3 < nZ) ∨ nZ = 0 ∨ nZ = 1 ∨ nZ = 2 ∨ nZ = 3) with c55 | c55 | c55 | c55 | c55
        ·
          refine V_tabOut 120 nE d_Mod_doesTwitch_51 c55 (by decide) ?_
          refine V_iload d_Mod_doesTwitch_120 rfl ?_
          refine V_if_ne 130 tc_1 d_Mod_doesTwitch_122 (by decide) (fun c56 => ?_) (fun c56 => ?_)
          ·
            refine V_iconst 1 d_Mod_doesTwitch_130 (by decide) ?_
            refine V_goto 135 d_Mod_doesTwitch_131 (by decide) ?_
            exact V_zret rfl (by decide) d_Mod_doesTwitch_135 ⟨1, rfl, ⟨rfl, (by unfold twR; rw [show Int32.toInt 1 = 1 from rfl]; unfold twM tw; rw [show 16 + cZ.toNat = (16 + cZ).toNat by (first | decide +kernel | omega), show 48 + cZ.toNat = (48 + cZ).toNat by (first | decide +kernel | omega), show cZ.toNat = (0 + cZ).toNat by (first | decide +kernel | omega)]; rw [uvK, ivK, lvK, uvE, ivE, lvE]; omega)⟩⟩
          ·
            exact absurd c56 (by decide)
        ·
          refine V_tabIn 80 nE d_Mod_doesTwitch_51 (by (first | decide +kernel | omega)) (by (first | decide +kernel | omega)) (by rw [c55]; rfl) (by decide) ?_
          refine V_iload d_Mod_doesTwitch_80 rfl ?_
          exact V_zret rfl (by decide) d_Mod_doesTwitch_82 ⟨1, rfl, ⟨rfl, (by unfold twR; rw [show Int32.toInt 1 = 1 from rfl]; unfold twM tw; rw [show 16 + cZ.toNat = (16 + cZ).toNat by (first | decide +kernel | omega), show 48 + cZ.toNat = (48 + cZ).toNat by (first | decide +kernel | omega), show cZ.toNat = (0 + cZ).toNat by (first | decide +kernel | omega)]; rw [uvK, ivK, lvK, uvE, ivE, lvE]; omega)⟩⟩
        ·
          refine V_tabIn 83 nE d_Mod_doesTwitch_51 (by (first | decide +kernel | omega)) (by (first | decide +kernel | omega)) (by rw [c55]; rfl) (by decide) ?_
          refine V_iload d_Mod_doesTwitch_83 rfl ?_
          exact V_zret rfl (by decide) d_Mod_doesTwitch_85 ⟨1, rfl, ⟨rfl, (by unfold twR; rw [show Int32.toInt 1 = 1 from rfl]; unfold twM tw; rw [show 16 + cZ.toNat = (16 + cZ).toNat by (first | decide +kernel | omega), show 48 + cZ.toNat = (48 + cZ).toNat by (first | decide +kernel | omega), show cZ.toNat = (0 + cZ).toNat by (first | decide +kernel | omega)]; rw [uvK, ivK, lvK, uvE, ivE, lvE]; omega)⟩⟩
        ·
          refine V_tabIn 86 nE d_Mod_doesTwitch_51 (by (first | decide +kernel | omega)) (by (first | decide +kernel | omega)) (by rw [c55]; rfl) (by decide) ?_
          refine V_iload d_Mod_doesTwitch_86 rfl ?_
          refine V_iconst 2 d_Mod_doesTwitch_88 (by decide) ?_
          refine N_irem sE tc_2 (by (first | decide +kernel | omega)) d_Mod_doesTwitch_89 (fun z57 z57e z57E => ?_)
          refine V_iconst 1 d_Mod_doesTwitch_90 (by decide) ?_
          refine V_icmp_ne 98 z57E tc_1 d_Mod_doesTwitch_91 (by decide) (fun c58 => ?_) (fun c58 => ?_)
          ·
            refine V_iconst 0 d_Mod_doesTwitch_98 (by decide) ?_
            exact V_zret rfl (by decide) d_Mod_doesTwitch_99 ⟨0, rfl, ⟨rfl, (by unfold twR; rw [show Int32.toInt 0 = 0 from rfl]; unfold twM tw; rw [show 16 + cZ.toNat = (16 + cZ).toNat by (first | decide +kernel | omega), show 48 + cZ.toNat = (48 + cZ).toNat by (first | decide +kernel | omega), show cZ.toNat = (0 + cZ).toNat by (first | decide +kernel | omega)]; rw [uvK, ivK, lvK, uvE, ivE, lvE]; omega)⟩⟩
          ·
            refine V_iconst 1 d_Mod_doesTwitch_94 (by decide) ?_
            refine V_goto 99 d_Mod_doesTwitch_95 (by decide) ?_
            exact V_zret rfl (by decide) d_Mod_doesTwitch_99 ⟨1, rfl, ⟨rfl, (by unfold twR; rw [show Int32.toInt 1 = 1 from rfl]; unfold twM tw; rw [show 16 + cZ.toNat = (16 + cZ).toNat by (first | decide +kernel | omega), show 48 + cZ.toNat = (48 + cZ).toNat by (first | decide +kernel | omega), show cZ.toNat = (0 + cZ).toNat by (first | decide +kernel | omega)]; rw [uvK, ivK, lvK, uvE, ivE, lvE]; omega)⟩⟩
        ·
          refine V_tabIn 100 nE d_Mod_doesTwitch_51 (by (first | decide +kernel | omega)) (by (first | decide +kernel | omega)) (by rw [c55]; rfl) (by decide) ?_
          refine V_aload_n 0 d_Mod_doesTwitch_100 rfl rfl ?_
          refine V_getR fa_Mod_7 sk_116 rfl d_Mod_doesTwitch_101 ?_
          refine V_bipush 48 d_Mod_doesTwitch_104 (by decide) ?_
          refine V_iload_n 3 d_Mod_doesTwitch_106 rfl rfl ?_
          refine V_iadd tc_48 cE (by (first | decide +kernel | omega)) d_Mod_doesTwitch_107 (fun z59 z59e z59E => ?_)
          refine N_ialdK sk_117 z59E (by (first | decide +kernel | omega)) d_Mod_doesTwitch_108 lvK ?_
          refine V_iload d_Mod_doesTwitch_109 rfl ?_
          refine V_icmp_ne 118 lvE oE d_Mod_doesTwitch_111 (by decide) (fun c61 => ?_) (fun c61 => ?_)
          ·
            refine V_iconst 0 d_Mod_doesTwitch_118 (by decide) ?_
            exact V_zret rfl (by decide) d_Mod_doesTwitch_119 ⟨0, rfl, ⟨rfl, (by unfold twR; rw [show Int32.toInt 0 = 0 from rfl]; unfold twM tw; rw [show 16 + cZ.toNat = (16 + cZ).toNat by (first | decide +kernel | omega), show 48 + cZ.toNat = (48 + cZ).toNat by (first | decide +kernel | omega), show cZ.toNat = (0 + cZ).toNat by (first | decide +kernel | omega)]; rw [uvK, ivK, lvK, uvE, ivE, lvE]; omega)⟩⟩
          ·
            refine V_iconst 1 d_Mod_doesTwitch_114 (by decide) ?_
            refine V_goto 119 d_Mod_doesTwitch_115 (by decide) ?_
            exact V_zret rfl (by decide) d_Mod_doesTwitch_119 ⟨1, rfl, ⟨rfl, (by unfold twR; rw [show Int32.toInt 1 = 1 from rfl]; unfold twM tw; rw [show 16 + cZ.toNat = (16 + cZ).toNat by (first | decide +kernel | omega), show 48 + cZ.toNat = (48 + cZ).toNat by (first | decide +kernel | omega), show cZ.toNat = (0 + cZ).toNat by (first | decide +kernel | omega)]; rw [uvK, ivK, lvK, uvE, ivE, lvE]; omega)⟩⟩
abbrev q_County_twitchesX_0 (h : Hp) (c : Int32) (cZ : Int) (o : Int32) (oZ : Int) (s : Int32) (sZ : Int) (n : Int32) (nZ : Int) (m : Int32) (mZ : Int) : Option Value → Hp → Prop := pInt (fun r h' => h = h' ∧ (twR r (twC h nZ mZ cZ.toNat oZ sZ)))
set_option maxRecDepth 100000 in
theorem c_County_twitchesX_0 (h : Hp) (hI : Inv h) (c : Int32) (cZ : Int) (cE : c.toInt = cZ) (o : Int32) (oZ : Int) (oE : o.toInt = oZ) (s : Int32) (sZ : Int) (sE : s.toInt = sZ) (n : Int32) (nZ : Int) (nE : n.toInt = nZ) (nK : h.1 0 3 = n) (m : Int32) (mZ : Int) (mE : m.toInt = mZ) (mK : h.1 0 4 = m) (hy0 : 0 ≤ cZ ∧ cZ ≤ 15) (hy1 : 0 ≤ sZ) (hy2 : ∀ i : Nat, i < 16 → 0 ≤ (h.1 3 i).toInt ∧ (h.1 3 i).toInt ≤ 1) : Ct y_County_twitches b_County_twitches 4 (some .boolean) 1 27 [.ref 0, .int c, .int o, .int s] h (q_County_twitchesX_0 h c cZ o oZ s sZ n nZ m mZ) := by
  refine ct_ow R_County [some (.ref 0), some (.int c), some (.int o), some (.int s)] rfl (by decide) rfl (Nat.le_of_ble_eq_true rfl) ?_
  have f0 : fr [] h h := fr_rf
  refine V_aload_n 0 d_County_twitches_0 rfl rfl ?_
  refine V_getR fa_County_12 sk_0 rfl d_County_twitches_1 ?_
  refine V_aload_n 0 d_County_twitches_4 rfl rfl ?_
  refine N_getK fa_County_41 sk_0 rfl d_County_twitches_5 nK ?_
  refine V_aload_n 0 d_County_twitches_8 rfl rfl ?_
  refine N_getK fa_County_44 sk_0 rfl d_County_twitches_9 mK ?_
  refine V_iload_n 1 d_County_twitches_12 rfl rfl ?_
  refine V_iload_n 2 d_County_twitches_13 rfl rfl ?_
  refine V_iload_n 3 d_County_twitches_14 rfl rfl ?_
  refine N_callVI [.int n, .int m, .int c, .int o, .int s] [] cv_County_57 sk_1 rfl d_County_twitches_15 rfl (Nat.le_of_ble_eq_true rfl) (by decide) (by decide) (c_Land_twitchesX_0 h hI n nZ nE m mZ mE c cZ cE o oZ oE s sZ sE (by (first | decide +kernel | omega)) (by (first | decide +kernel | omega)) (hy2 _ (by (first | decide +kernel | omega)))) (fun z1 h2 z1Z z1E p3 => ?_)
  obtain ⟨eh2, p3⟩ := p3
  subst eh2
  have := twR_01 p3
  exact V_zret rfl (by rw [z1E]; omega) d_County_twitches_18 ⟨z1, rfl, ⟨rfl, p3⟩⟩
abbrev q_Rod_twitchX (h : Hp) (c : Int32) (cZ : Int) (o : Int32) (oZ : Int) (s : Int32) (sZ : Int) (w : Int32) (wZ : Int) (g : Int32) (gZ : Int) (n : Int32) (nZ : Int) (m : Int32) (mZ : Int) : Option Value → Hp → Prop := pInt (fun r h' => h = h' ∧ (TWa (0 ≤ cZ ∧ cZ < wZ * gZ ∧ 0 ≤ oZ ∧ oZ ≤ 3 ∧ 1 ≤ sZ ∧ sZ ≤ 9) r (twC h nZ mZ cZ.toNat oZ sZ)))
set_option maxRecDepth 100000 in
theorem c_Rod_twitchX (h : Hp) (hI : Inv h) (c : Int32) (cZ : Int) (cE : c.toInt = cZ) (o : Int32) (oZ : Int) (oE : o.toInt = oZ) (s : Int32) (sZ : Int) (sE : s.toInt = sZ) (w : Int32) (wZ : Int) (wE : w.toInt = wZ) (wK : h.1 1 0 = w) (g : Int32) (gZ : Int) (gE : g.toInt = gZ) (gK : h.1 1 1 = g) (n : Int32) (nZ : Int) (nE : n.toInt = nZ) (nK : h.1 0 3 = n) (m : Int32) (mZ : Int) (mE : m.toInt = mZ) (mK : h.1 0 4 = m) (hy0 : ∀ i : Nat, i < 16 → 0 ≤ (h.1 3 i).toInt ∧ (h.1 3 i).toInt ≤ 1) : Ct y_Rod_twitch b_Rod_twitch 4 (some .int) 3 64 [.ref 85, .int c, .int o, .int s] h (q_Rod_twitchX h c cZ o oZ s sZ w wZ g gZ n nZ m mZ) := by
  refine ct_ow R_Rod [some (.ref 85), some (.int c), some (.int o), some (.int s)] rfl (by decide) rfl (Nat.le_of_ble_eq_true rfl) ?_
  have f0 : fr [] h h := fr_rf
  have g1 : 2 ≤ wZ ∧ wZ ≤ 4 := inv_at hI wE wK.symm rfl
  have g2 : 2 ≤ gZ ∧ gZ ≤ 4 := inv_at hI gE gK.symm rfl
  refine V_aload_n 0 d_Rod_twitch_0 rfl rfl ?_
  refine V_iload_n 1 d_Rod_twitch_1 rfl rfl ?_
  refine V_iload_n 2 d_Rod_twitch_2 rfl rfl ?_
  refine V_iload_n 3 d_Rod_twitch_3 rfl rfl ?_
  refine N_callVI [.int c, .int o, .int s] [] cv_Rod_171 sk_85 rfl d_Rod_twitch_4 rfl (Nat.le_of_ble_eq_true rfl) (by decide) (by decide) (c_Rod_isSightX h hI c cZ cE o oZ oE s sZ sE w wZ wE wK g gZ gE gK) (fun z3 h4 z3Z z3E p5 => ?_)
  obtain ⟨eh4, p5⟩ := p5
  subst eh4
  refine V_if_ne 12 z3E d_Rod_twitch_7 (by decide) (fun c6 => ?_) (fun c6 => ?_)
  ·
    replace p5 := p5.resolve_right (fun q => by (first | decide +kernel | omega))
    refine V_aload_n 0 d_Rod_twitch_12 rfl rfl ?_
    refine V_getR fa_Rod_12 sk_85 rfl d_Rod_twitch_13 ?_
    refine V_iload_n 1 d_Rod_twitch_16 rfl rfl ?_
    refine V_iload_n 2 d_Rod_twitch_17 rfl rfl ?_
    refine V_iload_n 3 d_Rod_twitch_18 rfl rfl ?_
    refine N_callVI [.int c, .int o, .int s] [] cv_Rod_175 sk_0 rfl d_Rod_twitch_19 rfl (Nat.le_of_ble_eq_true rfl) (by decide) (by decide) (c_County_twitchesX_0 h hI c cZ cE o oZ oE s sZ sE n nZ nE nK m mZ mE mK (by (first | decide +kernel | omega)) (by (first | decide +kernel | omega)) hy0) (fun z7 h8 z7Z z7E p9 => ?_)
    obtain ⟨eh8, p9⟩ := p9
    subst eh8
    have := twR_01 p9
    refine N_callSI [.int z7] [] cs_Rod_147 d_Rod_twitch_22 rfl (Nat.le_of_ble_eq_true rfl) (by decide) (by decide) (c_Rod_oneIf h z7 z7Z z7E) (fun z10 h11 z10Z z10E p12 => ?_)
    obtain ⟨eh11, p12⟩ := p12
    subst eh11
    exact V_iret rfl d_Rod_twitch_25 ⟨z10, rfl, ⟨rfl, (Or.inl ⟨by (first | decide +kernel | omega), twR_fl p9 z7E p12⟩)⟩⟩
  ·
    replace p5 := p5.resolve_left (fun q => by (first | decide +kernel | omega))
    refine V_iconst (-1) d_Rod_twitch_10 (by decide) ?_
    exact V_iret rfl d_Rod_twitch_11 ⟨(-1), rfl, ⟨rfl, (Or.inr ⟨by (first | decide +kernel | omega), tc_m1⟩)⟩⟩
abbrev q_Mod_twitchX (h : Hp) (c : Int32) (cZ : Int) (o : Int32) (oZ : Int) (s : Int32) (sZ : Int) (w : Int32) (wZ : Int) (g : Int32) (gZ : Int) (n : Int32) (nZ : Int) (m : Int32) (mZ : Int) : Option Value → Hp → Prop := pInt (fun r h' => h = h' ∧ (TWa (0 ≤ cZ ∧ cZ < wZ * gZ ∧ 0 ≤ oZ ∧ oZ ≤ 3 ∧ 1 ≤ sZ ∧ sZ ≤ 9) r (twM h nZ mZ cZ.toNat oZ sZ)))
set_option maxRecDepth 100000 in
theorem c_Mod_twitchX (h : Hp) (hI : Inv h) (c : Int32) (cZ : Int) (cE : c.toInt = cZ) (o : Int32) (oZ : Int) (oE : o.toInt = oZ) (s : Int32) (sZ : Int) (sE : s.toInt = sZ) (w : Int32) (wZ : Int) (wE : w.toInt = wZ) (wK : h.1 116 2 = w) (g : Int32) (gZ : Int) (gE : g.toInt = gZ) (gK : h.1 116 3 = g) (n : Int32) (nZ : Int) (nE : n.toInt = nZ) (nK : h.1 117 84 = n) (m : Int32) (mZ : Int) (mE : m.toInt = mZ) (mK : h.1 117 85 = m) : Ct y_Mod_twitch b_Mod_twitch 4 (some .int) 3 69 [.ref 116, .int c, .int o, .int s] h (q_Mod_twitchX h c cZ o oZ s sZ w wZ g gZ n nZ m mZ) := by
  refine ct_ow R_Mod [some (.ref 116), some (.int c), some (.int o), some (.int s)] rfl (by decide) rfl (Nat.le_of_ble_eq_true rfl) ?_
  have f0 : fr [] h h := fr_rf
  have g1 : 2 ≤ wZ ∧ wZ ≤ 4 := inv_at hI wE wK.symm rfl
  have g2 : 2 ≤ gZ ∧ gZ ≤ 4 := inv_at hI gE gK.symm rfl
  refine V_aload_n 0 d_Mod_twitch_0 rfl rfl ?_
  refine V_iload_n 1 d_Mod_twitch_1 rfl rfl ?_
  refine V_iload_n 2 d_Mod_twitch_2 rfl rfl ?_
  refine V_iload_n 3 d_Mod_twitch_3 rfl rfl ?_
  refine N_callVI [.int c, .int o, .int s] [] cv_Mod_226 sk_116 rfl d_Mod_twitch_4 rfl (Nat.le_of_ble_eq_true rfl) (by decide) (by decide) (c_Mod_isSeenX h hI c cZ cE o oZ oE s sZ sE w wZ wE wK g gZ gE gK) (fun z3 h4 z3Z z3E p5 => ?_)
  obtain ⟨eh4, p5⟩ := p5
  subst eh4
  refine V_if_eq 37 z3E d_Mod_twitch_7 (by decide) (fun c6 => ?_) (fun c6 => ?_)
  ·
    replace p5 := p5.resolve_left (fun q => by (first | decide +kernel | omega))
    refine V_iconst (-1) d_Mod_twitch_37 (by decide) ?_
    exact V_iret rfl d_Mod_twitch_38 ⟨(-1), rfl, ⟨rfl, (Or.inr ⟨by (first | decide +kernel | omega), tc_m1⟩)⟩⟩
  ·
    replace p5 := p5.resolve_right (fun q => by (first | decide +kernel | omega))
    refine V_aload_n 0 d_Mod_twitch_10 rfl rfl ?_
    refine V_aload_n 0 d_Mod_twitch_11 rfl rfl ?_
    refine V_getR fa_Mod_7 sk_116 rfl d_Mod_twitch_12 ?_
    refine V_bipush 84 d_Mod_twitch_15 (by decide) ?_
    refine N_ialdK sk_117 tc_84 (by (first | decide +kernel | omega)) d_Mod_twitch_17 nK ?_
    refine V_aload_n 0 d_Mod_twitch_18 rfl rfl ?_
    refine V_getR fa_Mod_7 sk_116 rfl d_Mod_twitch_19 ?_
    refine V_bipush 85 d_Mod_twitch_22 (by decide) ?_
    refine N_ialdK sk_117 tc_85 (by (first | decide +kernel | omega)) d_Mod_twitch_24 mK ?_
    refine V_iload_n 1 d_Mod_twitch_25 rfl rfl ?_
    refine V_iload_n 2 d_Mod_twitch_26 rfl rfl ?_
    refine V_iload_n 3 d_Mod_twitch_27 rfl rfl ?_
    refine N_callVI [.int n, .int m, .int c, .int o, .int s] [] cv_Mod_229 sk_116 rfl d_Mod_twitch_28 rfl (Nat.le_of_ble_eq_true rfl) (by decide) (by decide) (c_Mod_doesTwitchX h hI n nZ nE m mZ mE c cZ cE o oZ oE s sZ sE (by (first | decide +kernel | omega)) (by (first | decide +kernel | omega))) (fun z9 h10 z9Z z9E p11 => ?_)
    obtain ⟨eh10, p11⟩ := p11
    subst eh10
    have := twR_01 p11
    refine N_callSI [.int z9] [] cs_Mod_196 d_Mod_twitch_31 rfl (Nat.le_of_ble_eq_true rfl) (by decide) (by decide) (c_Mod_flag h z9 z9Z z9E) (fun z12 h13 z12Z z12E p14 => ?_)
    obtain ⟨eh13, p14⟩ := p14
    subst eh13
    refine V_goto 38 d_Mod_twitch_34 (by decide) ?_
    exact V_iret rfl d_Mod_twitch_38 ⟨z12, rfl, ⟨rfl, (Or.inl ⟨by (first | decide +kernel | omega), twR_fl p11 z9E p14⟩)⟩⟩
end
