section
def S_fillX_109 : List (Nat × Option Nat) := [(109, none)]
abbrev q_fillX_109 (h : Hp) (v : Int32) (vZ : Int) : Option Value → Hp → Prop := pVd (fun h' => Inv h' ∧ fr S_fillX_109 h h' ∧ fll h' 109 v 40)
set_option maxRecDepth 100000 in
theorem c_fillX_109 (h : Hp) (hI : Inv h) (v : Int32) (vZ : Int) (vE : v.toInt = vZ) : Ct y_Arr_fill b_Arr_fill 4 none 0 0 [.ref 109, .int v] h (q_fillX_109 h v vZ) := by
  refine ct_ow R_Arr [some (.ref 109), some (.int v), none, none] rfl (by decide) rfl (Nat.le_of_ble_eq_true rfl) ?_
  have f0 : fr S_fillX_109 h h := fr_rf
  refine V_iconst 0 d_Arr_fill_0 (by decide) ?_
  refine V_istore_n 2 [some (.ref 109), some (.int v), some (.int 0), none] d_Arr_fill_1 rfl (by decide) rfl rfl ?_
  refine V_aload_n 0 d_Arr_fill_2 rfl rfl ?_
  refine V_alen sk_109 (by decide) (by decide : Int32.ofNat 40 = 40) d_Arr_fill_3 ?_
  refine V_istore_n 3 [some (.ref 109), some (.int v), some (.int 0), some (.int 40)] d_Arr_fill_4 rfl (by decide) rfl rfl ?_
  have L1 : ∀ (nn : Nat) (v3 : Int32) (v3Z : Int) (h4 : Hp), v3.toInt = v3Z → Inv h4 → fr S_fillX_109 h h4 → 0 ≤ v3Z ∧ v3Z ≤ 40 → fll h4 109 v v3Z → 40 - v3Z < (nn : Int) → V R_Arr b_Arr_fill 4 none 0 0 (q_fillX_109 h v vZ) h4 5 [some (.ref 109), some (.int v), some (.int v3), some (.int 40)] [] := by
    intro nn
    induction nn with
    | zero => intro v3 v3Z h4 v3E Ih4 Fh4 q5 q6 hm7; exact absurd hm7 (by (first | decide +kernel | omega))
    | succ nn ihL1 =>
      intro v3 v3Z h4 v3E Ih4 Fh4 q5 q6 hm7
      refine V_iload_n 2 d_Arr_fill_5 rfl rfl ?_
      refine V_iload_n 3 d_Arr_fill_6 rfl rfl ?_
      refine V_icmp_ge 20 v3E tc_40 d_Arr_fill_7 (by decide) (fun c8 => ?_) (fun c8 => ?_)
      ·
        exact V_vret rfl d_Arr_fill_20 ⟨rfl, ⟨Ih4, Fh4, (fll_le (by assumption) (by (first | decide +kernel | omega)))⟩⟩
      ·
        refine V_aload_n 0 d_Arr_fill_10 rfl rfl ?_
        refine V_iload_n 2 d_Arr_fill_11 rfl rfl ?_
        refine V_iload_n 1 d_Arr_fill_12 rfl rfl ?_
        refine N_iast sk_109 v3E (by (first | decide +kernel | omega)) d_Arr_fill_13 (fun h9 eh9 => ?_)
        have hI10 : Inv h9 := inv_full Ih4 eh9 rfl
        have f11 : fr S_fillX_109 h h9 := fr_put Fh4 eh9 rfl
        obtain ⟨z12, z12E, z12e⟩ : ∃ y : Int32, y.toInt = v3Z + 1 ∧ y = v3 + Int32.ofInt 1 := ⟨_, ti_add v3E (by decide) (by (first | decide +kernel | omega)), rfl⟩
        refine V_iinc 2 [some (.ref 109), some (.int v), some (.int z12), some (.int 40)] d_Arr_fill_14 rfl z12e.symm (by decide) rfl rfl ?_
        refine V_goto 5 d_Arr_fill_17 (by decide) ?_
        exact ihL1 z12 ((v3Z + 1)) h9 z12E hI10 f11 (by (first | decide +kernel | omega)) (fll_s (by assumption) (by (first | decide +kernel | omega)) eh9) (by (first | decide +kernel | omega))
  exact L1 (Int.toNat ((40 - 0 : Int) + 1)) 0 0 h tc_0 hI f0 (by (first | decide +kernel | omega)) fll_0 (by (first | decide +kernel | omega))
def S_Sheet_makeNewZ_0 : List (Nat × Option Nat) := [(108, some 1), (108, some 2), (109, none)]
abbrev q_Sheet_makeNewZ_0 (h : Hp) (l : Int32) (lZ : Int) (n : Int32) (nZ : Int) : Option Value → Hp → Prop := pVd (fun h' => Inv h' ∧ fr S_Sheet_makeNewZ_0 h h' ∧ (h'.1 108 1 = l ∧ h'.1 108 2 = n ∧ fll h' 109 0 40))
set_option maxRecDepth 100000 in
theorem c_Sheet_makeNewZ_0 (h : Hp) (hI : Inv h) (l : Int32) (lZ : Int) (lE : l.toInt = lZ) (n : Int32) (nZ : Int) (nE : n.toInt = nZ) (hy0 : 0 ≤ nZ ∧ nZ ≤ 40) : Ct y_Sheet_makeNew b_Sheet_makeNew 3 none 1 23 [.ref 108, .int l, .int n] h (q_Sheet_makeNewZ_0 h l lZ n nZ) := by
  refine ct_ow R_Sheet [some (.ref 108), some (.int l), some (.int n)] rfl (by decide) rfl (Nat.le_of_ble_eq_true rfl) ?_
  have f0 : fr S_Sheet_makeNewZ_0 h h := fr_rf
  refine V_aload_n 0 d_Sheet_makeNew_0 rfl rfl ?_
  refine V_getR fa_Sheet_9 sk_108 rfl d_Sheet_makeNew_1 ?_
  refine V_iconst 0 d_Sheet_makeNew_4 (by decide) ?_
  refine N_callSV [.ref 109, .int 0] [] cs_Sheet_19 d_Sheet_makeNew_5 rfl (Nat.le_of_ble_eq_true rfl) (by decide) (by decide) (c_fillX_109 h hI 0 0 tc_0) (fun h2 p3 => ?_)
  obtain ⟨hI4, fh2, p3⟩ := p3
  have f5 : fr S_Sheet_makeNewZ_0 h h2 := fr_call f0 fh2 rfl
  refine V_aload_n 0 d_Sheet_makeNew_8 rfl rfl ?_
  refine V_iload_n 1 d_Sheet_makeNew_9 rfl rfl ?_
  refine N_putI fp_Sheet_15 sk_108 rfl d_Sheet_makeNew_10 (fun h6 eh6 => ?_)
  have hI7 : Inv h6 := inv_full hI4 eh6 rfl
  have f8 : fr S_Sheet_makeNewZ_0 h h6 := fr_put f5 eh6 rfl
  refine V_aload_n 0 d_Sheet_makeNew_13 rfl rfl ?_
  refine V_iload_n 2 d_Sheet_makeNew_14 rfl rfl ?_
  refine N_putI fp_Sheet_25 sk_108 rfl d_Sheet_makeNew_15 (fun h9 eh9 => ?_)
  have hI10 : Inv h9 := inv_put (lo := 0) (hi := 40) hI7 eh9 rfl nE (by (first | decide +kernel | omega))
  have f11 : fr S_Sheet_makeNewZ_0 h h9 := fr_put f8 eh9 rfl
  exact V_vret rfl d_Sheet_makeNew_18 ⟨rfl, ⟨hI10, f11, ⟨(kn_nei eh9 (kn_put eh6) (by decide)), (kn_put eh9), fll_ne eh9 (by decide) (fll_ne eh6 (by decide) p3)⟩⟩⟩
def S_Sheet_putZ_0 : List (Nat × Option Nat) := [(109, none)]
abbrev q_Sheet_putZ_0 (h : Hp) (i : Int32) (iZ : Int) (v : Int32) (vZ : Int) (t : Int32) (tZ : Int) : Option Value → Hp → Prop := pVd (fun h' => Inv h' ∧ fr S_Sheet_putZ_0 h h' ∧ (∃ x : Int32, nrw tZ v x ∧ h' = pI h 109 iZ.toNat x))
set_option maxRecDepth 100000 in
theorem c_Sheet_putZ_0 (h : Hp) (hI : Inv h) (i : Int32) (iZ : Int) (iE : i.toInt = iZ) (v : Int32) (vZ : Int) (vE : v.toInt = vZ) (t : Int32) (tZ : Int) (tE : t.toInt = tZ) (tK : h.1 108 1 = t) (hy0 : 0 ≤ iZ ∧ iZ < 40) : Ct y_Sheet_put b_Sheet_put 3 none 0 0 [.ref 108, .int i, .int v] h (q_Sheet_putZ_0 h i iZ v vZ t tZ) := by
  refine ct_ow R_Sheet [some (.ref 108), some (.int i), some (.int v)] rfl (by decide) rfl (Nat.le_of_ble_eq_true rfl) ?_
  have f0 : fr S_Sheet_putZ_0 h h := fr_rf
  refine V_aload_n 0 d_Sheet_put_0 rfl rfl ?_
  refine N_getK fa_Sheet_15 sk_108 rfl d_Sheet_put_1 tK ?_
  refine V_if_ne 18 tE d_Sheet_put_4 (by decide) (fun c1 => ?_) (fun c1 => ?_)
  ·
    refine V_aload_n 0 d_Sheet_put_18 rfl rfl ?_
    refine N_getK fa_Sheet_15 sk_108 rfl d_Sheet_put_19 tK ?_
    refine V_iconst 1 d_Sheet_put_22 (by decide) ?_
    refine V_icmp_ne 37 tE tc_1 d_Sheet_put_23 (by decide) (fun c2 => ?_) (fun c2 => ?_)
    ·
      refine V_aload_n 0 d_Sheet_put_37 rfl rfl ?_
      refine V_getR fa_Sheet_9 sk_108 rfl d_Sheet_put_38 ?_
      refine V_iload_n 1 d_Sheet_put_41 rfl rfl ?_
      refine V_iload_n 2 d_Sheet_put_42 rfl rfl ?_
      refine N_iast sk_109 iE (by (first | decide +kernel | omega)) d_Sheet_put_43 (fun h3 eh3 => ?_)
      have hI4 : Inv h3 := inv_full hI eh3 rfl
      have f5 : fr S_Sheet_putZ_0 h h3 := fr_put f0 eh3 rfl
      exact V_vret rfl d_Sheet_put_44 ⟨rfl, ⟨hI4, f5, ⟨v, Or.inr (Or.inr ⟨by (first | decide +kernel | omega), rfl⟩), (by rw [eh3] <;> rfl)⟩⟩⟩
    ·
      refine V_aload_n 0 d_Sheet_put_26 rfl rfl ?_
      refine V_getR fa_Sheet_9 sk_108 rfl d_Sheet_put_27 ?_
      refine V_iload_n 1 d_Sheet_put_30 rfl rfl ?_
      refine V_iload_n 2 d_Sheet_put_31 rfl rfl ?_
      refine N_i2s d_Sheet_put_32 (fun z6 z6Z z6E z6e => ?_)
      refine N_iast sk_109 iE (by (first | decide +kernel | omega)) d_Sheet_put_33 (fun h7 eh7 => ?_)
      have hI8 : Inv h7 := inv_full hI eh7 rfl
      have f9 : fr S_Sheet_putZ_0 h h7 := fr_put f0 eh7 rfl
      refine V_goto 44 d_Sheet_put_34 (by decide) ?_
      exact V_vret rfl d_Sheet_put_44 ⟨rfl, ⟨hI8, f9, ⟨z6, Or.inr (Or.inl ⟨by (first | decide +kernel | omega), z6e⟩), (by rw [eh7] <;> rfl)⟩⟩⟩
  ·
    refine V_aload_n 0 d_Sheet_put_7 rfl rfl ?_
    refine V_getR fa_Sheet_9 sk_108 rfl d_Sheet_put_8 ?_
    refine V_iload_n 1 d_Sheet_put_11 rfl rfl ?_
    refine V_iload_n 2 d_Sheet_put_12 rfl rfl ?_
    refine N_i2b d_Sheet_put_13 (fun z10 z10Z z10E z10e => ?_)
    refine N_iast sk_109 iE (by (first | decide +kernel | omega)) d_Sheet_put_14 (fun h11 eh11 => ?_)
    have hI12 : Inv h11 := inv_full hI eh11 rfl
    have f13 : fr S_Sheet_putZ_0 h h11 := fr_put f0 eh11 rfl
    refine V_goto 44 d_Sheet_put_15 (by decide) ?_
    exact V_vret rfl d_Sheet_put_44 ⟨rfl, ⟨hI12, f13, ⟨z10, Or.inl ⟨by (first | decide +kernel | omega), z10e⟩, (by rw [eh11] <;> rfl)⟩⟩⟩
def S_fillX_111 : List (Nat × Option Nat) := [(111, none)]
abbrev q_fillX_111 (h : Hp) (v : Int32) (vZ : Int) : Option Value → Hp → Prop := pVd (fun h' => Inv h' ∧ fr S_fillX_111 h h' ∧ fll h' 111 v 40)
set_option maxRecDepth 100000 in
theorem c_fillX_111 (h : Hp) (hI : Inv h) (v : Int32) (vZ : Int) (vE : v.toInt = vZ) : Ct y_Arr_fill b_Arr_fill 4 none 0 0 [.ref 111, .int v] h (q_fillX_111 h v vZ) := by
  refine ct_ow R_Arr [some (.ref 111), some (.int v), none, none] rfl (by decide) rfl (Nat.le_of_ble_eq_true rfl) ?_
  have f0 : fr S_fillX_111 h h := fr_rf
  refine V_iconst 0 d_Arr_fill_0 (by decide) ?_
  refine V_istore_n 2 [some (.ref 111), some (.int v), some (.int 0), none] d_Arr_fill_1 rfl (by decide) rfl rfl ?_
  refine V_aload_n 0 d_Arr_fill_2 rfl rfl ?_
  refine V_alen sk_111 (by decide) (by decide : Int32.ofNat 40 = 40) d_Arr_fill_3 ?_
  refine V_istore_n 3 [some (.ref 111), some (.int v), some (.int 0), some (.int 40)] d_Arr_fill_4 rfl (by decide) rfl rfl ?_
  have L1 : ∀ (nn : Nat) (v3 : Int32) (v3Z : Int) (h4 : Hp), v3.toInt = v3Z → Inv h4 → fr S_fillX_111 h h4 → 0 ≤ v3Z ∧ v3Z ≤ 40 → fll h4 111 v v3Z → 40 - v3Z < (nn : Int) → V R_Arr b_Arr_fill 4 none 0 0 (q_fillX_111 h v vZ) h4 5 [some (.ref 111), some (.int v), some (.int v3), some (.int 40)] [] := by
    intro nn
    induction nn with
    | zero => intro v3 v3Z h4 v3E Ih4 Fh4 q5 q6 hm7; exact absurd hm7 (by (first | decide +kernel | omega))
    | succ nn ihL1 =>
      intro v3 v3Z h4 v3E Ih4 Fh4 q5 q6 hm7
      refine V_iload_n 2 d_Arr_fill_5 rfl rfl ?_
      refine V_iload_n 3 d_Arr_fill_6 rfl rfl ?_
      refine V_icmp_ge 20 v3E tc_40 d_Arr_fill_7 (by decide) (fun c8 => ?_) (fun c8 => ?_)
      ·
        exact V_vret rfl d_Arr_fill_20 ⟨rfl, ⟨Ih4, Fh4, (fll_le (by assumption) (by (first | decide +kernel | omega)))⟩⟩
      ·
        refine V_aload_n 0 d_Arr_fill_10 rfl rfl ?_
        refine V_iload_n 2 d_Arr_fill_11 rfl rfl ?_
        refine V_iload_n 1 d_Arr_fill_12 rfl rfl ?_
        refine N_iast sk_111 v3E (by (first | decide +kernel | omega)) d_Arr_fill_13 (fun h9 eh9 => ?_)
        have hI10 : Inv h9 := inv_full Ih4 eh9 rfl
        have f11 : fr S_fillX_111 h h9 := fr_put Fh4 eh9 rfl
        obtain ⟨z12, z12E, z12e⟩ : ∃ y : Int32, y.toInt = v3Z + 1 ∧ y = v3 + Int32.ofInt 1 := ⟨_, ti_add v3E (by decide) (by (first | decide +kernel | omega)), rfl⟩
        refine V_iinc 2 [some (.ref 111), some (.int v), some (.int z12), some (.int 40)] d_Arr_fill_14 rfl z12e.symm (by decide) rfl rfl ?_
        refine V_goto 5 d_Arr_fill_17 (by decide) ?_
        exact ihL1 z12 ((v3Z + 1)) h9 z12E hI10 f11 (by (first | decide +kernel | omega)) (fll_s (by assumption) (by (first | decide +kernel | omega)) eh9) (by (first | decide +kernel | omega))
  exact L1 (Int.toNat ((40 - 0 : Int) + 1)) 0 0 h tc_0 hI f0 (by (first | decide +kernel | omega)) fll_0 (by (first | decide +kernel | omega))
def S_Sheet_makeNewZ_1 : List (Nat × Option Nat) := [(110, some 1), (110, some 2), (111, none)]
abbrev q_Sheet_makeNewZ_1 (h : Hp) (l : Int32) (lZ : Int) (n : Int32) (nZ : Int) : Option Value → Hp → Prop := pVd (fun h' => Inv h' ∧ fr S_Sheet_makeNewZ_1 h h' ∧ (h'.1 110 1 = l ∧ h'.1 110 2 = n ∧ fll h' 111 0 40))
set_option maxRecDepth 100000 in
theorem c_Sheet_makeNewZ_1 (h : Hp) (hI : Inv h) (l : Int32) (lZ : Int) (lE : l.toInt = lZ) (n : Int32) (nZ : Int) (nE : n.toInt = nZ) (hy0 : 0 ≤ nZ ∧ nZ ≤ 40) : Ct y_Sheet_makeNew b_Sheet_makeNew 3 none 1 23 [.ref 110, .int l, .int n] h (q_Sheet_makeNewZ_1 h l lZ n nZ) := by
  refine ct_ow R_Sheet [some (.ref 110), some (.int l), some (.int n)] rfl (by decide) rfl (Nat.le_of_ble_eq_true rfl) ?_
  have f0 : fr S_Sheet_makeNewZ_1 h h := fr_rf
  refine V_aload_n 0 d_Sheet_makeNew_0 rfl rfl ?_
  refine V_getR fa_Sheet_9 sk_110 rfl d_Sheet_makeNew_1 ?_
  refine V_iconst 0 d_Sheet_makeNew_4 (by decide) ?_
  refine N_callSV [.ref 111, .int 0] [] cs_Sheet_19 d_Sheet_makeNew_5 rfl (Nat.le_of_ble_eq_true rfl) (by decide) (by decide) (c_fillX_111 h hI 0 0 tc_0) (fun h2 p3 => ?_)
  obtain ⟨hI4, fh2, p3⟩ := p3
  have f5 : fr S_Sheet_makeNewZ_1 h h2 := fr_call f0 fh2 rfl
  refine V_aload_n 0 d_Sheet_makeNew_8 rfl rfl ?_
  refine V_iload_n 1 d_Sheet_makeNew_9 rfl rfl ?_
  refine N_putI fp_Sheet_15 sk_110 rfl d_Sheet_makeNew_10 (fun h6 eh6 => ?_)
  have hI7 : Inv h6 := inv_full hI4 eh6 rfl
  have f8 : fr S_Sheet_makeNewZ_1 h h6 := fr_put f5 eh6 rfl
  refine V_aload_n 0 d_Sheet_makeNew_13 rfl rfl ?_
  refine V_iload_n 2 d_Sheet_makeNew_14 rfl rfl ?_
  refine N_putI fp_Sheet_25 sk_110 rfl d_Sheet_makeNew_15 (fun h9 eh9 => ?_)
  have hI10 : Inv h9 := inv_put (lo := 0) (hi := 40) hI7 eh9 rfl nE (by (first | decide +kernel | omega))
  have f11 : fr S_Sheet_makeNewZ_1 h h9 := fr_put f8 eh9 rfl
  exact V_vret rfl d_Sheet_makeNew_18 ⟨rfl, ⟨hI10, f11, ⟨(kn_nei eh9 (kn_put eh6) (by decide)), (kn_put eh9), fll_ne eh9 (by decide) (fll_ne eh6 (by decide) p3)⟩⟩⟩
def S_Sheet_putZ_1 : List (Nat × Option Nat) := [(111, none)]
abbrev q_Sheet_putZ_1 (h : Hp) (i : Int32) (iZ : Int) (v : Int32) (vZ : Int) (t : Int32) (tZ : Int) : Option Value → Hp → Prop := pVd (fun h' => Inv h' ∧ fr S_Sheet_putZ_1 h h' ∧ (∃ x : Int32, nrw tZ v x ∧ h' = pI h 111 iZ.toNat x))
set_option maxRecDepth 100000 in
theorem c_Sheet_putZ_1 (h : Hp) (hI : Inv h) (i : Int32) (iZ : Int) (iE : i.toInt = iZ) (v : Int32) (vZ : Int) (vE : v.toInt = vZ) (t : Int32) (tZ : Int) (tE : t.toInt = tZ) (tK : h.1 110 1 = t) (hy0 : 0 ≤ iZ ∧ iZ < 40) : Ct y_Sheet_put b_Sheet_put 3 none 0 0 [.ref 110, .int i, .int v] h (q_Sheet_putZ_1 h i iZ v vZ t tZ) := by
  refine ct_ow R_Sheet [some (.ref 110), some (.int i), some (.int v)] rfl (by decide) rfl (Nat.le_of_ble_eq_true rfl) ?_
  have f0 : fr S_Sheet_putZ_1 h h := fr_rf
  refine V_aload_n 0 d_Sheet_put_0 rfl rfl ?_
  refine N_getK fa_Sheet_15 sk_110 rfl d_Sheet_put_1 tK ?_
  refine V_if_ne 18 tE d_Sheet_put_4 (by decide) (fun c1 => ?_) (fun c1 => ?_)
  ·
    refine V_aload_n 0 d_Sheet_put_18 rfl rfl ?_
    refine N_getK fa_Sheet_15 sk_110 rfl d_Sheet_put_19 tK ?_
    refine V_iconst 1 d_Sheet_put_22 (by decide) ?_
    refine V_icmp_ne 37 tE tc_1 d_Sheet_put_23 (by decide) (fun c2 => ?_) (fun c2 => ?_)
    ·
      refine V_aload_n 0 d_Sheet_put_37 rfl rfl ?_
      refine V_getR fa_Sheet_9 sk_110 rfl d_Sheet_put_38 ?_
      refine V_iload_n 1 d_Sheet_put_41 rfl rfl ?_
      refine V_iload_n 2 d_Sheet_put_42 rfl rfl ?_
      refine N_iast sk_111 iE (by (first | decide +kernel | omega)) d_Sheet_put_43 (fun h3 eh3 => ?_)
      have hI4 : Inv h3 := inv_full hI eh3 rfl
      have f5 : fr S_Sheet_putZ_1 h h3 := fr_put f0 eh3 rfl
      exact V_vret rfl d_Sheet_put_44 ⟨rfl, ⟨hI4, f5, ⟨v, Or.inr (Or.inr ⟨by (first | decide +kernel | omega), rfl⟩), (by rw [eh3] <;> rfl)⟩⟩⟩
    ·
      refine V_aload_n 0 d_Sheet_put_26 rfl rfl ?_
      refine V_getR fa_Sheet_9 sk_110 rfl d_Sheet_put_27 ?_
      refine V_iload_n 1 d_Sheet_put_30 rfl rfl ?_
      refine V_iload_n 2 d_Sheet_put_31 rfl rfl ?_
      refine N_i2s d_Sheet_put_32 (fun z6 z6Z z6E z6e => ?_)
      refine N_iast sk_111 iE (by (first | decide +kernel | omega)) d_Sheet_put_33 (fun h7 eh7 => ?_)
      have hI8 : Inv h7 := inv_full hI eh7 rfl
      have f9 : fr S_Sheet_putZ_1 h h7 := fr_put f0 eh7 rfl
      refine V_goto 44 d_Sheet_put_34 (by decide) ?_
      exact V_vret rfl d_Sheet_put_44 ⟨rfl, ⟨hI8, f9, ⟨z6, Or.inr (Or.inl ⟨by (first | decide +kernel | omega), z6e⟩), (by rw [eh7] <;> rfl)⟩⟩⟩
  ·
    refine V_aload_n 0 d_Sheet_put_7 rfl rfl ?_
    refine V_getR fa_Sheet_9 sk_110 rfl d_Sheet_put_8 ?_
    refine V_iload_n 1 d_Sheet_put_11 rfl rfl ?_
    refine V_iload_n 2 d_Sheet_put_12 rfl rfl ?_
    refine N_i2b d_Sheet_put_13 (fun z10 z10Z z10E z10e => ?_)
    refine N_iast sk_111 iE (by (first | decide +kernel | omega)) d_Sheet_put_14 (fun h11 eh11 => ?_)
    have hI12 : Inv h11 := inv_full hI eh11 rfl
    have f13 : fr S_Sheet_putZ_1 h h11 := fr_put f0 eh11 rfl
    refine V_goto 44 d_Sheet_put_15 (by decide) ?_
    exact V_vret rfl d_Sheet_put_44 ⟨rfl, ⟨hI12, f13, ⟨z10, Or.inl ⟨by (first | decide +kernel | omega), z10e⟩, (by rw [eh11] <;> rfl)⟩⟩⟩
def S_fillX_113 : List (Nat × Option Nat) := [(113, none)]
abbrev q_fillX_113 (h : Hp) (v : Int32) (vZ : Int) : Option Value → Hp → Prop := pVd (fun h' => Inv h' ∧ fr S_fillX_113 h h' ∧ fll h' 113 v 40)
set_option maxRecDepth 100000 in
theorem c_fillX_113 (h : Hp) (hI : Inv h) (v : Int32) (vZ : Int) (vE : v.toInt = vZ) : Ct y_Arr_fill b_Arr_fill 4 none 0 0 [.ref 113, .int v] h (q_fillX_113 h v vZ) := by
  refine ct_ow R_Arr [some (.ref 113), some (.int v), none, none] rfl (by decide) rfl (Nat.le_of_ble_eq_true rfl) ?_
  have f0 : fr S_fillX_113 h h := fr_rf
  refine V_iconst 0 d_Arr_fill_0 (by decide) ?_
  refine V_istore_n 2 [some (.ref 113), some (.int v), some (.int 0), none] d_Arr_fill_1 rfl (by decide) rfl rfl ?_
  refine V_aload_n 0 d_Arr_fill_2 rfl rfl ?_
  refine V_alen sk_113 (by decide) (by decide : Int32.ofNat 40 = 40) d_Arr_fill_3 ?_
  refine V_istore_n 3 [some (.ref 113), some (.int v), some (.int 0), some (.int 40)] d_Arr_fill_4 rfl (by decide) rfl rfl ?_
  have L1 : ∀ (nn : Nat) (v3 : Int32) (v3Z : Int) (h4 : Hp), v3.toInt = v3Z → Inv h4 → fr S_fillX_113 h h4 → 0 ≤ v3Z ∧ v3Z ≤ 40 → fll h4 113 v v3Z → 40 - v3Z < (nn : Int) → V R_Arr b_Arr_fill 4 none 0 0 (q_fillX_113 h v vZ) h4 5 [some (.ref 113), some (.int v), some (.int v3), some (.int 40)] [] := by
    intro nn
    induction nn with
    | zero => intro v3 v3Z h4 v3E Ih4 Fh4 q5 q6 hm7; exact absurd hm7 (by (first | decide +kernel | omega))
    | succ nn ihL1 =>
      intro v3 v3Z h4 v3E Ih4 Fh4 q5 q6 hm7
      refine V_iload_n 2 d_Arr_fill_5 rfl rfl ?_
      refine V_iload_n 3 d_Arr_fill_6 rfl rfl ?_
      refine V_icmp_ge 20 v3E tc_40 d_Arr_fill_7 (by decide) (fun c8 => ?_) (fun c8 => ?_)
      ·
        exact V_vret rfl d_Arr_fill_20 ⟨rfl, ⟨Ih4, Fh4, (fll_le (by assumption) (by (first | decide +kernel | omega)))⟩⟩
      ·
        refine V_aload_n 0 d_Arr_fill_10 rfl rfl ?_
        refine V_iload_n 2 d_Arr_fill_11 rfl rfl ?_
        refine V_iload_n 1 d_Arr_fill_12 rfl rfl ?_
        refine N_iast sk_113 v3E (by (first | decide +kernel | omega)) d_Arr_fill_13 (fun h9 eh9 => ?_)
        have hI10 : Inv h9 := inv_full Ih4 eh9 rfl
        have f11 : fr S_fillX_113 h h9 := fr_put Fh4 eh9 rfl
        obtain ⟨z12, z12E, z12e⟩ : ∃ y : Int32, y.toInt = v3Z + 1 ∧ y = v3 + Int32.ofInt 1 := ⟨_, ti_add v3E (by decide) (by (first | decide +kernel | omega)), rfl⟩
        refine V_iinc 2 [some (.ref 113), some (.int v), some (.int z12), some (.int 40)] d_Arr_fill_14 rfl z12e.symm (by decide) rfl rfl ?_
        refine V_goto 5 d_Arr_fill_17 (by decide) ?_
        exact ihL1 z12 ((v3Z + 1)) h9 z12E hI10 f11 (by (first | decide +kernel | omega)) (fll_s (by assumption) (by (first | decide +kernel | omega)) eh9) (by (first | decide +kernel | omega))
  exact L1 (Int.toNat ((40 - 0 : Int) + 1)) 0 0 h tc_0 hI f0 (by (first | decide +kernel | omega)) fll_0 (by (first | decide +kernel | omega))
def S_Sheet_makeNewZ_2 : List (Nat × Option Nat) := [(112, some 1), (112, some 2), (113, none)]
abbrev q_Sheet_makeNewZ_2 (h : Hp) (l : Int32) (lZ : Int) (n : Int32) (nZ : Int) : Option Value → Hp → Prop := pVd (fun h' => Inv h' ∧ fr S_Sheet_makeNewZ_2 h h' ∧ (h'.1 112 1 = l ∧ h'.1 112 2 = n ∧ fll h' 113 0 40))
set_option maxRecDepth 100000 in
theorem c_Sheet_makeNewZ_2 (h : Hp) (hI : Inv h) (l : Int32) (lZ : Int) (lE : l.toInt = lZ) (n : Int32) (nZ : Int) (nE : n.toInt = nZ) (hy0 : 0 ≤ nZ ∧ nZ ≤ 40) : Ct y_Sheet_makeNew b_Sheet_makeNew 3 none 1 23 [.ref 112, .int l, .int n] h (q_Sheet_makeNewZ_2 h l lZ n nZ) := by
  refine ct_ow R_Sheet [some (.ref 112), some (.int l), some (.int n)] rfl (by decide) rfl (Nat.le_of_ble_eq_true rfl) ?_
  have f0 : fr S_Sheet_makeNewZ_2 h h := fr_rf
  refine V_aload_n 0 d_Sheet_makeNew_0 rfl rfl ?_
  refine V_getR fa_Sheet_9 sk_112 rfl d_Sheet_makeNew_1 ?_
  refine V_iconst 0 d_Sheet_makeNew_4 (by decide) ?_
  refine N_callSV [.ref 113, .int 0] [] cs_Sheet_19 d_Sheet_makeNew_5 rfl (Nat.le_of_ble_eq_true rfl) (by decide) (by decide) (c_fillX_113 h hI 0 0 tc_0) (fun h2 p3 => ?_)
  obtain ⟨hI4, fh2, p3⟩ := p3
  have f5 : fr S_Sheet_makeNewZ_2 h h2 := fr_call f0 fh2 rfl
  refine V_aload_n 0 d_Sheet_makeNew_8 rfl rfl ?_
  refine V_iload_n 1 d_Sheet_makeNew_9 rfl rfl ?_
  refine N_putI fp_Sheet_15 sk_112 rfl d_Sheet_makeNew_10 (fun h6 eh6 => ?_)
  have hI7 : Inv h6 := inv_full hI4 eh6 rfl
  have f8 : fr S_Sheet_makeNewZ_2 h h6 := fr_put f5 eh6 rfl
  refine V_aload_n 0 d_Sheet_makeNew_13 rfl rfl ?_
  refine V_iload_n 2 d_Sheet_makeNew_14 rfl rfl ?_
  refine N_putI fp_Sheet_25 sk_112 rfl d_Sheet_makeNew_15 (fun h9 eh9 => ?_)
  have hI10 : Inv h9 := inv_put (lo := 0) (hi := 40) hI7 eh9 rfl nE (by (first | decide +kernel | omega))
  have f11 : fr S_Sheet_makeNewZ_2 h h9 := fr_put f8 eh9 rfl
  exact V_vret rfl d_Sheet_makeNew_18 ⟨rfl, ⟨hI10, f11, ⟨(kn_nei eh9 (kn_put eh6) (by decide)), (kn_put eh9), fll_ne eh9 (by decide) (fll_ne eh6 (by decide) p3)⟩⟩⟩
def S_Sheet_putZ_2 : List (Nat × Option Nat) := [(113, none)]
abbrev q_Sheet_putZ_2 (h : Hp) (i : Int32) (iZ : Int) (v : Int32) (vZ : Int) (t : Int32) (tZ : Int) : Option Value → Hp → Prop := pVd (fun h' => Inv h' ∧ fr S_Sheet_putZ_2 h h' ∧ (∃ x : Int32, nrw tZ v x ∧ h' = pI h 113 iZ.toNat x))
set_option maxRecDepth 100000 in
theorem c_Sheet_putZ_2 (h : Hp) (hI : Inv h) (i : Int32) (iZ : Int) (iE : i.toInt = iZ) (v : Int32) (vZ : Int) (vE : v.toInt = vZ) (t : Int32) (tZ : Int) (tE : t.toInt = tZ) (tK : h.1 112 1 = t) (hy0 : 0 ≤ iZ ∧ iZ < 40) : Ct y_Sheet_put b_Sheet_put 3 none 0 0 [.ref 112, .int i, .int v] h (q_Sheet_putZ_2 h i iZ v vZ t tZ) := by
  refine ct_ow R_Sheet [some (.ref 112), some (.int i), some (.int v)] rfl (by decide) rfl (Nat.le_of_ble_eq_true rfl) ?_
  have f0 : fr S_Sheet_putZ_2 h h := fr_rf
  refine V_aload_n 0 d_Sheet_put_0 rfl rfl ?_
  refine N_getK fa_Sheet_15 sk_112 rfl d_Sheet_put_1 tK ?_
  refine V_if_ne 18 tE d_Sheet_put_4 (by decide) (fun c1 => ?_) (fun c1 => ?_)
  ·
    refine V_aload_n 0 d_Sheet_put_18 rfl rfl ?_
    refine N_getK fa_Sheet_15 sk_112 rfl d_Sheet_put_19 tK ?_
    refine V_iconst 1 d_Sheet_put_22 (by decide) ?_
    refine V_icmp_ne 37 tE tc_1 d_Sheet_put_23 (by decide) (fun c2 => ?_) (fun c2 => ?_)
    ·
      refine V_aload_n 0 d_Sheet_put_37 rfl rfl ?_
      refine V_getR fa_Sheet_9 sk_112 rfl d_Sheet_put_38 ?_
      refine V_iload_n 1 d_Sheet_put_41 rfl rfl ?_
      refine V_iload_n 2 d_Sheet_put_42 rfl rfl ?_
      refine N_iast sk_113 iE (by (first | decide +kernel | omega)) d_Sheet_put_43 (fun h3 eh3 => ?_)
      have hI4 : Inv h3 := inv_full hI eh3 rfl
      have f5 : fr S_Sheet_putZ_2 h h3 := fr_put f0 eh3 rfl
      exact V_vret rfl d_Sheet_put_44 ⟨rfl, ⟨hI4, f5, ⟨v, Or.inr (Or.inr ⟨by (first | decide +kernel | omega), rfl⟩), (by rw [eh3] <;> rfl)⟩⟩⟩
    ·
      refine V_aload_n 0 d_Sheet_put_26 rfl rfl ?_
      refine V_getR fa_Sheet_9 sk_112 rfl d_Sheet_put_27 ?_
      refine V_iload_n 1 d_Sheet_put_30 rfl rfl ?_
      refine V_iload_n 2 d_Sheet_put_31 rfl rfl ?_
      refine N_i2s d_Sheet_put_32 (fun z6 z6Z z6E z6e => ?_)
      refine N_iast sk_113 iE (by (first | decide +kernel | omega)) d_Sheet_put_33 (fun h7 eh7 => ?_)
      have hI8 : Inv h7 := inv_full hI eh7 rfl
      have f9 : fr S_Sheet_putZ_2 h h7 := fr_put f0 eh7 rfl
      refine V_goto 44 d_Sheet_put_34 (by decide) ?_
      exact V_vret rfl d_Sheet_put_44 ⟨rfl, ⟨hI8, f9, ⟨z6, Or.inr (Or.inl ⟨by (first | decide +kernel | omega), z6e⟩), (by rw [eh7] <;> rfl)⟩⟩⟩
  ·
    refine V_aload_n 0 d_Sheet_put_7 rfl rfl ?_
    refine V_getR fa_Sheet_9 sk_112 rfl d_Sheet_put_8 ?_
    refine V_iload_n 1 d_Sheet_put_11 rfl rfl ?_
    refine V_iload_n 2 d_Sheet_put_12 rfl rfl ?_
    refine N_i2b d_Sheet_put_13 (fun z10 z10Z z10E z10e => ?_)
    refine N_iast sk_113 iE (by (first | decide +kernel | omega)) d_Sheet_put_14 (fun h11 eh11 => ?_)
    have hI12 : Inv h11 := inv_full hI eh11 rfl
    have f13 : fr S_Sheet_putZ_2 h h11 := fr_put f0 eh11 rfl
    refine V_goto 44 d_Sheet_put_15 (by decide) ?_
    exact V_vret rfl d_Sheet_put_44 ⟨rfl, ⟨hI12, f13, ⟨z10, Or.inl ⟨by (first | decide +kernel | omega), z10e⟩, (by rw [eh11] <;> rfl)⟩⟩⟩
def S_fillX_115 : List (Nat × Option Nat) := [(115, none)]
abbrev q_fillX_115 (h : Hp) (v : Int32) (vZ : Int) : Option Value → Hp → Prop := pVd (fun h' => Inv h' ∧ fr S_fillX_115 h h' ∧ fll h' 115 v 40)
set_option maxRecDepth 100000 in
theorem c_fillX_115 (h : Hp) (hI : Inv h) (v : Int32) (vZ : Int) (vE : v.toInt = vZ) : Ct y_Arr_fill b_Arr_fill 4 none 0 0 [.ref 115, .int v] h (q_fillX_115 h v vZ) := by
  refine ct_ow R_Arr [some (.ref 115), some (.int v), none, none] rfl (by decide) rfl (Nat.le_of_ble_eq_true rfl) ?_
  have f0 : fr S_fillX_115 h h := fr_rf
  refine V_iconst 0 d_Arr_fill_0 (by decide) ?_
  refine V_istore_n 2 [some (.ref 115), some (.int v), some (.int 0), none] d_Arr_fill_1 rfl (by decide) rfl rfl ?_
  refine V_aload_n 0 d_Arr_fill_2 rfl rfl ?_
  refine V_alen sk_115 (by decide) (by decide : Int32.ofNat 40 = 40) d_Arr_fill_3 ?_
  refine V_istore_n 3 [some (.ref 115), some (.int v), some (.int 0), some (.int 40)] d_Arr_fill_4 rfl (by decide) rfl rfl ?_
  have L1 : ∀ (nn : Nat) (v3 : Int32) (v3Z : Int) (h4 : Hp), v3.toInt = v3Z → Inv h4 → fr S_fillX_115 h h4 → 0 ≤ v3Z ∧ v3Z ≤ 40 → fll h4 115 v v3Z → 40 - v3Z < (nn : Int) → V R_Arr b_Arr_fill 4 none 0 0 (q_fillX_115 h v vZ) h4 5 [some (.ref 115), some (.int v), some (.int v3), some (.int 40)] [] := by
    intro nn
    induction nn with
    | zero => intro v3 v3Z h4 v3E Ih4 Fh4 q5 q6 hm7; exact absurd hm7 (by (first | decide +kernel | omega))
    | succ nn ihL1 =>
      intro v3 v3Z h4 v3E Ih4 Fh4 q5 q6 hm7
      refine V_iload_n 2 d_Arr_fill_5 rfl rfl ?_
      refine V_iload_n 3 d_Arr_fill_6 rfl rfl ?_
      refine V_icmp_ge 20 v3E tc_40 d_Arr_fill_7 (by decide) (fun c8 => ?_) (fun c8 => ?_)
      ·
        exact V_vret rfl d_Arr_fill_20 ⟨rfl, ⟨Ih4, Fh4, (fll_le (by assumption) (by (first | decide +kernel | omega)))⟩⟩
      ·
        refine V_aload_n 0 d_Arr_fill_10 rfl rfl ?_
        refine V_iload_n 2 d_Arr_fill_11 rfl rfl ?_
        refine V_iload_n 1 d_Arr_fill_12 rfl rfl ?_
        refine N_iast sk_115 v3E (by (first | decide +kernel | omega)) d_Arr_fill_13 (fun h9 eh9 => ?_)
        have hI10 : Inv h9 := inv_full Ih4 eh9 rfl
        have f11 : fr S_fillX_115 h h9 := fr_put Fh4 eh9 rfl
        obtain ⟨z12, z12E, z12e⟩ : ∃ y : Int32, y.toInt = v3Z + 1 ∧ y = v3 + Int32.ofInt 1 := ⟨_, ti_add v3E (by decide) (by (first | decide +kernel | omega)), rfl⟩
        refine V_iinc 2 [some (.ref 115), some (.int v), some (.int z12), some (.int 40)] d_Arr_fill_14 rfl z12e.symm (by decide) rfl rfl ?_
        refine V_goto 5 d_Arr_fill_17 (by decide) ?_
        exact ihL1 z12 ((v3Z + 1)) h9 z12E hI10 f11 (by (first | decide +kernel | omega)) (fll_s (by assumption) (by (first | decide +kernel | omega)) eh9) (by (first | decide +kernel | omega))
  exact L1 (Int.toNat ((40 - 0 : Int) + 1)) 0 0 h tc_0 hI f0 (by (first | decide +kernel | omega)) fll_0 (by (first | decide +kernel | omega))
def S_Sheet_makeNewZ_3 : List (Nat × Option Nat) := [(114, some 1), (114, some 2), (115, none)]
abbrev q_Sheet_makeNewZ_3 (h : Hp) (l : Int32) (lZ : Int) (n : Int32) (nZ : Int) : Option Value → Hp → Prop := pVd (fun h' => Inv h' ∧ fr S_Sheet_makeNewZ_3 h h' ∧ (h'.1 114 1 = l ∧ h'.1 114 2 = n ∧ fll h' 115 0 40))
set_option maxRecDepth 100000 in
theorem c_Sheet_makeNewZ_3 (h : Hp) (hI : Inv h) (l : Int32) (lZ : Int) (lE : l.toInt = lZ) (n : Int32) (nZ : Int) (nE : n.toInt = nZ) (hy0 : 0 ≤ nZ ∧ nZ ≤ 40) : Ct y_Sheet_makeNew b_Sheet_makeNew 3 none 1 23 [.ref 114, .int l, .int n] h (q_Sheet_makeNewZ_3 h l lZ n nZ) := by
  refine ct_ow R_Sheet [some (.ref 114), some (.int l), some (.int n)] rfl (by decide) rfl (Nat.le_of_ble_eq_true rfl) ?_
  have f0 : fr S_Sheet_makeNewZ_3 h h := fr_rf
  refine V_aload_n 0 d_Sheet_makeNew_0 rfl rfl ?_
  refine V_getR fa_Sheet_9 sk_114 rfl d_Sheet_makeNew_1 ?_
  refine V_iconst 0 d_Sheet_makeNew_4 (by decide) ?_
  refine N_callSV [.ref 115, .int 0] [] cs_Sheet_19 d_Sheet_makeNew_5 rfl (Nat.le_of_ble_eq_true rfl) (by decide) (by decide) (c_fillX_115 h hI 0 0 tc_0) (fun h2 p3 => ?_)
  obtain ⟨hI4, fh2, p3⟩ := p3
  have f5 : fr S_Sheet_makeNewZ_3 h h2 := fr_call f0 fh2 rfl
  refine V_aload_n 0 d_Sheet_makeNew_8 rfl rfl ?_
  refine V_iload_n 1 d_Sheet_makeNew_9 rfl rfl ?_
  refine N_putI fp_Sheet_15 sk_114 rfl d_Sheet_makeNew_10 (fun h6 eh6 => ?_)
  have hI7 : Inv h6 := inv_full hI4 eh6 rfl
  have f8 : fr S_Sheet_makeNewZ_3 h h6 := fr_put f5 eh6 rfl
  refine V_aload_n 0 d_Sheet_makeNew_13 rfl rfl ?_
  refine V_iload_n 2 d_Sheet_makeNew_14 rfl rfl ?_
  refine N_putI fp_Sheet_25 sk_114 rfl d_Sheet_makeNew_15 (fun h9 eh9 => ?_)
  have hI10 : Inv h9 := inv_put (lo := 0) (hi := 40) hI7 eh9 rfl nE (by (first | decide +kernel | omega))
  have f11 : fr S_Sheet_makeNewZ_3 h h9 := fr_put f8 eh9 rfl
  exact V_vret rfl d_Sheet_makeNew_18 ⟨rfl, ⟨hI10, f11, ⟨(kn_nei eh9 (kn_put eh6) (by decide)), (kn_put eh9), fll_ne eh9 (by decide) (fll_ne eh6 (by decide) p3)⟩⟩⟩
def S_Sheet_putZ_3 : List (Nat × Option Nat) := [(115, none)]
abbrev q_Sheet_putZ_3 (h : Hp) (i : Int32) (iZ : Int) (v : Int32) (vZ : Int) (t : Int32) (tZ : Int) : Option Value → Hp → Prop := pVd (fun h' => Inv h' ∧ fr S_Sheet_putZ_3 h h' ∧ (∃ x : Int32, nrw tZ v x ∧ h' = pI h 115 iZ.toNat x))
set_option maxRecDepth 100000 in
theorem c_Sheet_putZ_3 (h : Hp) (hI : Inv h) (i : Int32) (iZ : Int) (iE : i.toInt = iZ) (v : Int32) (vZ : Int) (vE : v.toInt = vZ) (t : Int32) (tZ : Int) (tE : t.toInt = tZ) (tK : h.1 114 1 = t) (hy0 : 0 ≤ iZ ∧ iZ < 40) : Ct y_Sheet_put b_Sheet_put 3 none 0 0 [.ref 114, .int i, .int v] h (q_Sheet_putZ_3 h i iZ v vZ t tZ) := by
  refine ct_ow R_Sheet [some (.ref 114), some (.int i), some (.int v)] rfl (by decide) rfl (Nat.le_of_ble_eq_true rfl) ?_
  have f0 : fr S_Sheet_putZ_3 h h := fr_rf
  refine V_aload_n 0 d_Sheet_put_0 rfl rfl ?_
  refine N_getK fa_Sheet_15 sk_114 rfl d_Sheet_put_1 tK ?_
  refine V_if_ne 18 tE d_Sheet_put_4 (by decide) (fun c1 => ?_) (fun c1 => ?_)
  ·
    refine V_aload_n 0 d_Sheet_put_18 rfl rfl ?_
    refine N_getK fa_Sheet_15 sk_114 rfl d_Sheet_put_19 tK ?_
    refine V_iconst 1 d_Sheet_put_22 (by decide) ?_
    refine V_icmp_ne 37 tE tc_1 d_Sheet_put_23 (by decide) (fun c2 => ?_) (fun c2 => ?_)
    ·
      refine V_aload_n 0 d_Sheet_put_37 rfl rfl ?_
      refine V_getR fa_Sheet_9 sk_114 rfl d_Sheet_put_38 ?_
      refine V_iload_n 1 d_Sheet_put_41 rfl rfl ?_
      refine V_iload_n 2 d_Sheet_put_42 rfl rfl ?_
      refine N_iast sk_115 iE (by (first | decide +kernel | omega)) d_Sheet_put_43 (fun h3 eh3 => ?_)
      have hI4 : Inv h3 := inv_full hI eh3 rfl
      have f5 : fr S_Sheet_putZ_3 h h3 := fr_put f0 eh3 rfl
      exact V_vret rfl d_Sheet_put_44 ⟨rfl, ⟨hI4, f5, ⟨v, Or.inr (Or.inr ⟨by (first | decide +kernel | omega), rfl⟩), (by rw [eh3] <;> rfl)⟩⟩⟩
    ·
      refine V_aload_n 0 d_Sheet_put_26 rfl rfl ?_
      refine V_getR fa_Sheet_9 sk_114 rfl d_Sheet_put_27 ?_
      refine V_iload_n 1 d_Sheet_put_30 rfl rfl ?_
      refine V_iload_n 2 d_Sheet_put_31 rfl rfl ?_
      refine N_i2s d_Sheet_put_32 (fun z6 z6Z z6E z6e => ?_)
      refine N_iast sk_115 iE (by (first | decide +kernel | omega)) d_Sheet_put_33 (fun h7 eh7 => ?_)
      have hI8 : Inv h7 := inv_full hI eh7 rfl
      have f9 : fr S_Sheet_putZ_3 h h7 := fr_put f0 eh7 rfl
      refine V_goto 44 d_Sheet_put_34 (by decide) ?_
      exact V_vret rfl d_Sheet_put_44 ⟨rfl, ⟨hI8, f9, ⟨z6, Or.inr (Or.inl ⟨by (first | decide +kernel | omega), z6e⟩), (by rw [eh7] <;> rfl)⟩⟩⟩
  ·
    refine V_aload_n 0 d_Sheet_put_7 rfl rfl ?_
    refine V_getR fa_Sheet_9 sk_114 rfl d_Sheet_put_8 ?_
    refine V_iload_n 1 d_Sheet_put_11 rfl rfl ?_
    refine V_iload_n 2 d_Sheet_put_12 rfl rfl ?_
    refine N_i2b d_Sheet_put_13 (fun z10 z10Z z10E z10e => ?_)
    refine N_iast sk_115 iE (by (first | decide +kernel | omega)) d_Sheet_put_14 (fun h11 eh11 => ?_)
    have hI12 : Inv h11 := inv_full hI eh11 rfl
    have f13 : fr S_Sheet_putZ_3 h h11 := fr_put f0 eh11 rfl
    refine V_goto 44 d_Sheet_put_15 (by decide) ?_
    exact V_vret rfl d_Sheet_put_44 ⟨rfl, ⟨hI12, f13, ⟨z10, Or.inl ⟨by (first | decide +kernel | omega), z10e⟩, (by rw [eh11] <;> rfl)⟩⟩⟩
def S_Rod_sheetZ : List (Nat × Option Nat) := [(108, some 1), (108, some 2), (110, some 1), (110, some 2), (112, some 1), (112, some 2), (114, some 1), (114, some 2), (109, none), (111, none), (113, none), (115, none)]
abbrev q_Rod_sheetZ (h : Hp) (k : Int32) (kZ : Int) (l : Int32) (lZ : Int) (n : Int32) (nZ : Int) : Option Value → Hp → Prop := pInt (fun r h' => Inv h' ∧ fr S_Rod_sheetZ h h' ∧ ((kZ < 0 ∨ 3 < kZ ∨ lZ < 0 ∨ 2 < lZ ∨ 40 < nZ) ∧ h' = h ∧ r.toInt = -1 ∨ ¬ (kZ < 0 ∨ 3 < kZ ∨ lZ < 0 ∨ 2 < lZ ∨ 40 < nZ) ∧ nZ < 0 ∧ h' = h ∧ r.toInt = -14 ∨ ¬ (kZ < 0 ∨ 3 < kZ ∨ lZ < 0 ∨ 2 < lZ ∨ 40 < nZ) ∧ 0 ≤ nZ ∧ SHc h h' kZ.toNat l n ∧ r.toInt = 1))
set_option maxRecDepth 100000 in
theorem c_Rod_sheetZ (h : Hp) (hI : Inv h) (k : Int32) (kZ : Int) (kE : k.toInt = kZ) (l : Int32) (lZ : Int) (lE : l.toInt = lZ) (n : Int32) (nZ : Int) (nE : n.toInt = nZ) : Ct y_Rod_sheet b_Rod_sheet 4 (some .int) 2 45 [.ref 85, .int k, .int l, .int n] h (q_Rod_sheetZ h k kZ l lZ n nZ) := by
  refine ct_ow R_Rod [some (.ref 85), some (.int k), some (.int l), some (.int n)] rfl (by decide) rfl (Nat.le_of_ble_eq_true rfl) ?_
  have f0 : fr S_Rod_sheetZ h h := fr_rf
  refine V_iload_n 1 d_Rod_sheet_0 rfl rfl ?_
  refine N_callSI [.int k] [] cs_Rod_283 d_Rod_sheet_1 rfl (Nat.le_of_ble_eq_true rfl) (by decide) (by decide) (c_Rod_isSheet h k kZ kE) (fun z1 h2 z1Z z1E p3 => ?_)
  obtain ⟨eh2, p3⟩ := p3
  subst eh2
  refine V_if_eq 20 z1E d_Rod_sheet_4 (by decide) (fun c4 => ?_) (fun c4 => ?_)
  ·
    refine V_iconst (-1) d_Rod_sheet_20 (by decide) ?_
    exact V_iret rfl d_Rod_sheet_21 ⟨(-1), rfl, ⟨hI, f0, (Or.inl ⟨by (first | decide +kernel | omega), rfl, tc_m1⟩)⟩⟩
  ·
    refine V_iload_n 2 d_Rod_sheet_7 rfl rfl ?_
    refine N_callSI [.int l] [] cs_Rod_286 d_Rod_sheet_8 rfl (Nat.le_of_ble_eq_true rfl) (by decide) (by decide) (c_Rod_isLane h l lZ lE) (fun z5 h6 z5Z z5E p7 => ?_)
    obtain ⟨eh6, p7⟩ := p7
    subst eh6
    refine V_if_eq 20 z5E d_Rod_sheet_11 (by decide) (fun c8 => ?_) (fun c8 => ?_)
    ·
      refine V_iconst (-1) d_Rod_sheet_20 (by decide) ?_
      exact V_iret rfl d_Rod_sheet_21 ⟨(-1), rfl, ⟨hI, f0, (Or.inl ⟨by (first | decide +kernel | omega), rfl, tc_m1⟩)⟩⟩
    ·
      refine V_iload_n 3 d_Rod_sheet_14 rfl rfl ?_
      refine V_bipush 40 d_Rod_sheet_15 (by decide) ?_
      refine V_icmp_le 22 nE tc_40 d_Rod_sheet_17 (by decide) (fun c9 => ?_) (fun c9 => ?_)
      ·
        refine V_iload_n 3 d_Rod_sheet_22 rfl rfl ?_
        refine V_if_ge 29 nE d_Rod_sheet_23 (by decide) (fun c10 => ?_) (fun c10 => ?_)
        ·
          refine V_aload_n 0 d_Rod_sheet_29 rfl rfl ?_
          refine V_getR fa_Rod_62 sk_85 rfl d_Rod_sheet_30 ?_
          refine V_iload_n 1 d_Rod_sheet_33 rfl rfl ?_
          rcases (by (first | decide +kernel | omega) : kZ = 0 ∨ kZ = 1 ∨ kZ = 2 ∨ kZ = 3) with c11 | c11 | c11 | c11
          ·
            refine V_aald (r := 108) sk_107 (by decide) kE (by (first | decide +kernel | omega)) (by rw [c11]; rfl) d_Rod_sheet_34 ?_
            refine V_iload_n 2 d_Rod_sheet_35 rfl rfl ?_
            refine V_iload_n 3 d_Rod_sheet_36 rfl rfl ?_
            refine N_callVV [.int l, .int n] [] cv_Rod_289 sk_108 rfl d_Rod_sheet_37 rfl (Nat.le_of_ble_eq_true rfl) (by decide) (by decide) (c_Sheet_makeNewZ_0 h hI l lZ lE n nZ nE (by (first | decide +kernel | omega))) (fun h13 p14 => ?_)
            obtain ⟨hI15, fh13, p14⟩ := p14
            have f16 : fr S_Rod_sheetZ h h13 := fr_call f0 fh13 rfl
            refine V_iconst 1 d_Rod_sheet_40 (by decide) ?_
            exact V_iret rfl d_Rod_sheet_41 ⟨1, rfl, ⟨hI15, f16, (Or.inr (Or.inr ⟨by (first | decide +kernel | omega), by (first | decide +kernel | omega), by rw [show kZ.toNat = 0 by (first | decide +kernel | omega)]; exact SHc_of (k := 0) p14 fh13 rfl, tc_1⟩))⟩⟩
          ·
            refine V_aald (r := 110) sk_107 (by decide) kE (by (first | decide +kernel | omega)) (by rw [c11]; rfl) d_Rod_sheet_34 ?_
            refine V_iload_n 2 d_Rod_sheet_35 rfl rfl ?_
            refine V_iload_n 3 d_Rod_sheet_36 rfl rfl ?_
            refine N_callVV [.int l, .int n] [] cv_Rod_289 sk_110 rfl d_Rod_sheet_37 rfl (Nat.le_of_ble_eq_true rfl) (by decide) (by decide) (c_Sheet_makeNewZ_1 h hI l lZ lE n nZ nE (by (first | decide +kernel | omega))) (fun h18 p19 => ?_)
            obtain ⟨hI20, fh18, p19⟩ := p19
            have f21 : fr S_Rod_sheetZ h h18 := fr_call f0 fh18 rfl
            refine V_iconst 1 d_Rod_sheet_40 (by decide) ?_
            exact V_iret rfl d_Rod_sheet_41 ⟨1, rfl, ⟨hI20, f21, (Or.inr (Or.inr ⟨by (first | decide +kernel | omega), by (first | decide +kernel | omega), by rw [show kZ.toNat = 1 by (first | decide +kernel | omega)]; exact SHc_of (k := 1) p19 fh18 rfl, tc_1⟩))⟩⟩
          ·
            refine V_aald (r := 112) sk_107 (by decide) kE (by (first | decide +kernel | omega)) (by rw [c11]; rfl) d_Rod_sheet_34 ?_
            refine V_iload_n 2 d_Rod_sheet_35 rfl rfl ?_
            refine V_iload_n 3 d_Rod_sheet_36 rfl rfl ?_
            refine N_callVV [.int l, .int n] [] cv_Rod_289 sk_112 rfl d_Rod_sheet_37 rfl (Nat.le_of_ble_eq_true rfl) (by decide) (by decide) (c_Sheet_makeNewZ_2 h hI l lZ lE n nZ nE (by (first | decide +kernel | omega))) (fun h23 p24 => ?_)
            obtain ⟨hI25, fh23, p24⟩ := p24
            have f26 : fr S_Rod_sheetZ h h23 := fr_call f0 fh23 rfl
            refine V_iconst 1 d_Rod_sheet_40 (by decide) ?_
            exact V_iret rfl d_Rod_sheet_41 ⟨1, rfl, ⟨hI25, f26, (Or.inr (Or.inr ⟨by (first | decide +kernel | omega), by (first | decide +kernel | omega), by rw [show kZ.toNat = 2 by (first | decide +kernel | omega)]; exact SHc_of (k := 2) p24 fh23 rfl, tc_1⟩))⟩⟩
          ·
            refine V_aald (r := 114) sk_107 (by decide) kE (by (first | decide +kernel | omega)) (by rw [c11]; rfl) d_Rod_sheet_34 ?_
            refine V_iload_n 2 d_Rod_sheet_35 rfl rfl ?_
            refine V_iload_n 3 d_Rod_sheet_36 rfl rfl ?_
            refine N_callVV [.int l, .int n] [] cv_Rod_289 sk_114 rfl d_Rod_sheet_37 rfl (Nat.le_of_ble_eq_true rfl) (by decide) (by decide) (c_Sheet_makeNewZ_3 h hI l lZ lE n nZ nE (by (first | decide +kernel | omega))) (fun h28 p29 => ?_)
            obtain ⟨hI30, fh28, p29⟩ := p29
            have f31 : fr S_Rod_sheetZ h h28 := fr_call f0 fh28 rfl
            refine V_iconst 1 d_Rod_sheet_40 (by decide) ?_
            exact V_iret rfl d_Rod_sheet_41 ⟨1, rfl, ⟨hI30, f31, (Or.inr (Or.inr ⟨by (first | decide +kernel | omega), by (first | decide +kernel | omega), by rw [show kZ.toNat = 3 by (first | decide +kernel | omega)]; exact SHc_of (k := 3) p29 fh28 rfl, tc_1⟩))⟩⟩
        ·
          refine V_bipush (-14) d_Rod_sheet_26 (by decide) ?_
          exact V_iret rfl d_Rod_sheet_28 ⟨(-14), rfl, ⟨hI, f0, (Or.inr (Or.inl ⟨by (first | decide +kernel | omega), by (first | decide +kernel | omega), rfl, tc_m14⟩))⟩⟩
      ·
        refine V_iconst (-1) d_Rod_sheet_20 (by decide) ?_
        exact V_iret rfl d_Rod_sheet_21 ⟨(-1), rfl, ⟨hI, f0, (Or.inl ⟨by (first | decide +kernel | omega), rfl, tc_m1⟩)⟩⟩
def S_Mod_sheetZ : List (Nat × Option Nat) := [(128, none), (129, none), (130, none)]
abbrev q_Mod_sheetZ (h : Hp) (k : Int32) (kZ : Int) (l : Int32) (lZ : Int) (n : Int32) (nZ : Int) : Option Value → Hp → Prop := pInt (fun r h' => Inv h' ∧ fr S_Mod_sheetZ h h' ∧ ((kZ < 0 ∨ 3 < kZ ∨ lZ < 0 ∨ 2 < lZ ∨ 40 < nZ) ∧ h' = h ∧ r.toInt = -1 ∨ ¬ (kZ < 0 ∨ 3 < kZ ∨ lZ < 0 ∨ 2 < lZ ∨ 40 < nZ) ∧ nZ < 0 ∧ h' = h ∧ r.toInt = -14 ∨ ¬ (kZ < 0 ∨ 3 < kZ ∨ lZ < 0 ∨ 2 < lZ ∨ 40 < nZ) ∧ 0 ≤ nZ ∧ SHl h h' kZ.toNat l n 40 ∧ r.toInt = 1))
set_option maxRecDepth 100000 in
theorem c_Mod_sheetZ (h : Hp) (hI : Inv h) (k : Int32) (kZ : Int) (kE : k.toInt = kZ) (l : Int32) (lZ : Int) (lE : l.toInt = lZ) (n : Int32) (nZ : Int) (nE : n.toInt = nZ) : Ct y_Mod_sheet b_Mod_sheet 5 (some .int) 2 46 [.ref 116, .int k, .int l, .int n] h (q_Mod_sheetZ h k kZ l lZ n nZ) := by
  refine ct_ow R_Mod [some (.ref 116), some (.int k), some (.int l), some (.int n), none] rfl (by decide) rfl (Nat.le_of_ble_eq_true rfl) ?_
  have f0 : fr S_Mod_sheetZ h h := fr_rf
  refine V_iload_n 1 d_Mod_sheet_0 rfl rfl ?_
  refine V_iload_n 2 d_Mod_sheet_1 rfl rfl ?_
  refine N_callSI [.int k, .int l] [] cs_Mod_322 d_Mod_sheet_2 rfl (Nat.le_of_ble_eq_true rfl) (by decide) (by decide) (c_Mod_isSheet h k kZ kE l lZ lE) (fun z1 h2 z1Z z1E p3 => ?_)
  obtain ⟨eh2, p3⟩ := p3
  subst eh2
  refine V_if_eq 14 z1E d_Mod_sheet_5 (by decide) (fun c4 => ?_) (fun c4 => ?_)
  ·
    refine V_iconst (-1) d_Mod_sheet_14 (by decide) ?_
    exact V_iret rfl d_Mod_sheet_15 ⟨(-1), rfl, ⟨hI, f0, (Or.inl ⟨by (first | decide +kernel | omega), rfl, tc_m1⟩)⟩⟩
  ·
    refine V_iload_n 3 d_Mod_sheet_8 rfl rfl ?_
    refine V_bipush 40 d_Mod_sheet_9 (by decide) ?_
    refine V_icmp_le 16 nE tc_40 d_Mod_sheet_11 (by decide) (fun c5 => ?_) (fun c5 => ?_)
    ·
      refine V_iload_n 3 d_Mod_sheet_16 rfl rfl ?_
      refine V_if_ge 23 nE d_Mod_sheet_17 (by decide) (fun c6 => ?_) (fun c6 => ?_)
      ·
        refine V_aload_n 0 d_Mod_sheet_23 rfl rfl ?_
        refine V_getR fa_Mod_44 sk_116 rfl d_Mod_sheet_24 ?_
        refine V_iload_n 1 d_Mod_sheet_27 rfl rfl ?_
        refine V_iload_n 2 d_Mod_sheet_28 rfl rfl ?_
        refine N_iast sk_128 kE (by (first | decide +kernel | omega)) d_Mod_sheet_29 (fun h7 eh7 => ?_)
        have hI8 : Inv h7 := inv_full hI eh7 rfl
        have f9 : fr S_Mod_sheetZ h h7 := fr_put f0 eh7 rfl
        refine V_aload_n 0 d_Mod_sheet_30 rfl rfl ?_
        refine V_getR fa_Mod_47 sk_116 rfl d_Mod_sheet_31 ?_
        refine V_iload_n 1 d_Mod_sheet_34 rfl rfl ?_
        refine V_iload_n 3 d_Mod_sheet_35 rfl rfl ?_
        refine N_iast sk_129 kE (by (first | decide +kernel | omega)) d_Mod_sheet_36 (fun h10 eh10 => ?_)
        have hI11 : Inv h10 := inv_put (lo := 0) (hi := 40) hI8 eh10 rfl nE (by (first | decide +kernel | omega))
        have f12 : fr S_Mod_sheetZ h h10 := fr_put f9 eh10 rfl
        refine V_iconst 0 d_Mod_sheet_37 (by decide) ?_
        refine V_istore 4 [some (.ref 116), some (.int k), some (.int l), some (.int n), some (.int 0)] d_Mod_sheet_38 (by decide) rfl rfl ?_
        have L13 : ∀ (nn : Nat) (v15 : Int32) (v15Z : Int) (h16 : Hp), v15.toInt = v15Z → Inv h16 → fr S_Mod_sheetZ h h16 → 0 ≤ v15Z ∧ v15Z ≤ 40 → SHl h h16 kZ.toNat l n v15Z → 40 - v15Z < (nn : Int) → V R_Mod b_Mod_sheet 5 (some .int) 2 46 (q_Mod_sheetZ h k kZ l lZ n nZ) h16 40 [some (.ref 116), some (.int k), some (.int l), some (.int n), some (.int v15)] [] := by
          intro nn
          induction nn with
          | zero => intro v15 v15Z h16 v15E Ih16 Fh16 q17 q18 hm19; exact absurd hm19 (by (first | decide +kernel | omega))
          | succ nn ihL13 =>
            intro v15 v15Z h16 v15E Ih16 Fh16 q17 q18 hm19
            refine V_iload d_Mod_sheet_40 rfl ?_
            refine V_bipush 40 d_Mod_sheet_42 (by decide) ?_
            refine V_icmp_ge 66 v15E tc_40 d_Mod_sheet_44 (by decide) (fun c20 => ?_) (fun c20 => ?_)
            ·
              refine V_iconst 1 d_Mod_sheet_66 (by decide) ?_
              exact V_iret rfl d_Mod_sheet_67 ⟨1, rfl, ⟨Ih16, Fh16, (Or.inr (Or.inr ⟨by (first | decide +kernel | omega), by (first | decide +kernel | omega), SHl_le (by assumption) (by (first | decide +kernel | omega)), tc_1⟩))⟩⟩
            ·
              refine V_aload_n 0 d_Mod_sheet_47 rfl rfl ?_
              refine V_getR fa_Mod_50 sk_116 rfl d_Mod_sheet_48 ?_
              refine V_bipush 40 d_Mod_sheet_51 (by decide) ?_
              refine V_iload_n 1 d_Mod_sheet_53 rfl rfl ?_
              refine V_imul tc_40 kE (by (first | decide +kernel | omega)) d_Mod_sheet_54 (fun z21 z21e z21E => ?_)
              refine V_iload d_Mod_sheet_55 rfl ?_
              refine V_iadd z21E v15E (by (first | decide +kernel | omega)) d_Mod_sheet_57 (fun z22 z22e z22E => ?_)
              refine V_iconst 0 d_Mod_sheet_58 (by decide) ?_
              refine N_iast sk_130 z22E (by (first | decide +kernel | omega)) d_Mod_sheet_59 (fun h23 eh23 => ?_)
              have hI24 : Inv h23 := inv_full Ih16 eh23 rfl
              have f25 : fr S_Mod_sheetZ h h23 := fr_put Fh16 eh23 rfl
              obtain ⟨z26, z26E, z26e⟩ : ∃ y : Int32, y.toInt = v15Z + 1 ∧ y = v15 + Int32.ofInt 1 := ⟨_, ti_add v15E (by decide) (by (first | decide +kernel | omega)), rfl⟩
              refine V_iinc 4 [some (.ref 116), some (.int k), some (.int l), some (.int n), some (.int z26)] d_Mod_sheet_60 rfl z26e.symm (by decide) rfl rfl ?_
              refine V_goto 40 d_Mod_sheet_63 (by decide) ?_
              exact ihL13 z26 ((v15Z + 1)) h23 z26E hI24 f25 (by (first | decide +kernel | omega)) (SHl_s (by assumption) (by (first | decide +kernel | omega)) (by (first | decide +kernel | omega)) eh23) (by (first | decide +kernel | omega))
        exact L13 (Int.toNat ((40 - 0 : Int) + 1)) 0 0 h10 tc_0 hI11 f12 (by (first | decide +kernel | omega)) (SHl_0 eh7 eh10) (by (first | decide +kernel | omega))
      ·
        refine V_bipush (-14) d_Mod_sheet_20 (by decide) ?_
        exact V_iret rfl d_Mod_sheet_22 ⟨(-14), rfl, ⟨hI, f0, (Or.inr (Or.inl ⟨by (first | decide +kernel | omega), by (first | decide +kernel | omega), rfl, tc_m14⟩))⟩⟩
    ·
      refine V_iconst (-1) d_Mod_sheet_14 (by decide) ?_
      exact V_iret rfl d_Mod_sheet_15 ⟨(-1), rfl, ⟨hI, f0, (Or.inl ⟨by (first | decide +kernel | omega), rfl, tc_m1⟩)⟩⟩
def S_Rod_layZ : List (Nat × Option Nat) := [(109, none), (111, none), (113, none), (115, none)]
abbrev q_Rod_layZ (h : Hp) (k : Int32) (kZ : Int) (i : Int32) (iZ : Int) (v : Int32) (vZ : Int) (t0 : Int32) (t0Z : Int) (t1 : Int32) (t1Z : Int) (t2 : Int32) (t2Z : Int) (t3 : Int32) (t3Z : Int) (s0 : Int32) (s0Z : Int) (s1 : Int32) (s1Z : Int) (s2 : Int32) (s2Z : Int) (s3 : Int32) (s3Z : Int) : Option Value → Hp → Prop := pInt (fun r h' => Inv h' ∧ fr S_Rod_layZ h h' ∧ ((kZ < 0 ∨ 3 < kZ) ∧ h' = h ∧ r.toInt = -1 ∨ ¬ (kZ < 0 ∨ 3 < kZ) ∧ LY (-1) h h' (h.1 (108 + 2 * kZ.toNat) 1).toInt (h.1 (108 + 2 * kZ.toNat) 2).toInt (109 + 2 * kZ.toNat) iZ.toNat iZ v r))
set_option maxRecDepth 100000 in
theorem c_Rod_layZ (h : Hp) (hI : Inv h) (k : Int32) (kZ : Int) (kE : k.toInt = kZ) (i : Int32) (iZ : Int) (iE : i.toInt = iZ) (v : Int32) (vZ : Int) (vE : v.toInt = vZ) (t0 : Int32) (t0Z : Int) (t0E : t0.toInt = t0Z) (t0K : h.1 108 1 = t0) (t1 : Int32) (t1Z : Int) (t1E : t1.toInt = t1Z) (t1K : h.1 110 1 = t1) (t2 : Int32) (t2Z : Int) (t2E : t2.toInt = t2Z) (t2K : h.1 112 1 = t2) (t3 : Int32) (t3Z : Int) (t3E : t3.toInt = t3Z) (t3K : h.1 114 1 = t3) (s0 : Int32) (s0Z : Int) (s0E : s0.toInt = s0Z) (s0K : h.1 108 2 = s0) (s1 : Int32) (s1Z : Int) (s1E : s1.toInt = s1Z) (s1K : h.1 110 2 = s1) (s2 : Int32) (s2Z : Int) (s2E : s2.toInt = s2Z) (s2K : h.1 112 2 = s2) (s3 : Int32) (s3Z : Int) (s3E : s3.toInt = s3Z) (s3K : h.1 114 2 = s3) : Ct y_Rod_lay b_Rod_lay 5 (some .int) 1 22 [.ref 85, .int k, .int i, .int v] h (q_Rod_layZ h k kZ i iZ v vZ t0 t0Z t1 t1Z t2 t2Z t3 t3Z s0 s0Z s1 s1Z s2 s2Z s3 s3Z) := by
  refine ct_ow R_Rod [some (.ref 85), some (.int k), some (.int i), some (.int v), none] rfl (by decide) rfl (Nat.le_of_ble_eq_true rfl) ?_
  have f0 : fr S_Rod_layZ h h := fr_rf
  have g1 : 0 ≤ s0Z ∧ s0Z ≤ 40 := inv_at hI s0E s0K.symm rfl
  have g2 : 0 ≤ s1Z ∧ s1Z ≤ 40 := inv_at hI s1E s1K.symm rfl
  have g3 : 0 ≤ s2Z ∧ s2Z ≤ 40 := inv_at hI s2E s2K.symm rfl
  have g4 : 0 ≤ s3Z ∧ s3Z ≤ 40 := inv_at hI s3E s3K.symm rfl
  refine V_iload_n 1 d_Rod_lay_0 rfl rfl ?_
  refine N_callSI [.int k] [] cs_Rod_283 d_Rod_lay_1 rfl (Nat.le_of_ble_eq_true rfl) (by decide) (by decide) (c_Rod_isSheet h k kZ kE) (fun z5 h6 z5Z z5E p7 => ?_)
  obtain ⟨eh6, p7⟩ := p7
  subst eh6
  refine V_if_ne 9 z5E d_Rod_lay_4 (by decide) (fun c8 => ?_) (fun c8 => ?_)
  ·
    refine V_aload_n 0 d_Rod_lay_9 rfl rfl ?_
    refine V_getR fa_Rod_62 sk_85 rfl d_Rod_lay_10 ?_
    refine V_iload_n 1 d_Rod_lay_13 rfl rfl ?_
    rcases (by (first | decide +kernel | omega) : kZ = 0 ∨ kZ = 1 ∨ kZ = 2 ∨ kZ = 3) with c9 | c9 | c9 | c9
    ·
      refine V_aald (r := 108) sk_107 (by decide) kE (by (first | decide +kernel | omega)) (by rw [c9]; rfl) d_Rod_lay_14 ?_
      refine V_astore 4 [some (.ref 85), some (.int k), some (.int i), some (.int v), some (.ref 108)] d_Rod_lay_15 (by decide) rfl rfl ?_
      refine V_aload d_Rod_lay_17 rfl ?_
      refine N_getK fa_Rod_293 sk_108 rfl d_Rod_lay_19 t0K ?_
      refine V_iconst (-1) d_Rod_lay_22 (by decide) ?_
      refine V_icmp_ne 29 t0E tc_m1 d_Rod_lay_23 (by decide) (fun c10 => ?_) (fun c10 => ?_)
      ·
        refine V_iload_n 2 d_Rod_lay_29 rfl rfl ?_
        refine V_if_lt 42 iE d_Rod_lay_30 (by decide) (fun c11 => ?_) (fun c11 => ?_)
        ·
          refine V_bipush (-12) d_Rod_lay_42 (by decide) ?_
          exact V_iret rfl d_Rod_lay_44 ⟨(-12), rfl, ⟨hI, f0, (Or.inr ⟨by (first | decide +kernel | omega), by rw [show kZ.toNat = 0 by (first | decide +kernel | omega)]; show LY (-1) h h (h.1 108 1).toInt (h.1 108 2).toInt 109 iZ.toNat iZ v _; rw [t0K, s0K, t0E, s0E]; exact Or.inr (Or.inl ⟨by (first | decide +kernel | omega), by (first | decide +kernel | omega), rfl, tc_m12⟩)⟩)⟩⟩
        ·
          refine V_iload_n 2 d_Rod_lay_33 rfl rfl ?_
          refine V_aload d_Rod_lay_34 rfl ?_
          refine N_getK fa_Rod_296 sk_108 rfl d_Rod_lay_36 s0K ?_
          refine V_icmp_lt 45 iE s0E d_Rod_lay_39 (by decide) (fun c12 => ?_) (fun c12 => ?_)
          ·
            refine V_aload d_Rod_lay_45 rfl ?_
            refine V_iload_n 2 d_Rod_lay_47 rfl rfl ?_
            refine V_iload_n 3 d_Rod_lay_48 rfl rfl ?_
            refine N_callVV [.int i, .int v] [] cv_Rod_297 sk_108 rfl d_Rod_lay_49 rfl (Nat.le_of_ble_eq_true rfl) (by decide) (by decide) (c_Sheet_putZ_0 h hI i iZ iE v vZ vE t0 t0Z t0E t0K (by (first | decide +kernel | omega))) (fun h14 p15 => ?_)
            obtain ⟨hI16, fh14, p15⟩ := p15
            have f17 : fr S_Rod_layZ h h14 := fr_call f0 fh14 rfl
            refine V_iconst 1 d_Rod_lay_52 (by decide) ?_
            exact V_iret rfl d_Rod_lay_53 ⟨1, rfl, ⟨hI16, f17, (Or.inr ⟨by (first | decide +kernel | omega), by rw [show kZ.toNat = 0 by (first | decide +kernel | omega)]; show LY (-1) h h14 (h.1 108 1).toInt (h.1 108 2).toInt 109 iZ.toNat iZ v _; rw [t0K, s0K, t0E, s0E]; exact Or.inr (Or.inr ⟨by (first | decide +kernel | omega), by (first | decide +kernel | omega), by (first | decide +kernel | omega), tc_1, p15⟩)⟩)⟩⟩
          ·
            refine V_bipush (-12) d_Rod_lay_42 (by decide) ?_
            exact V_iret rfl d_Rod_lay_44 ⟨(-12), rfl, ⟨hI, f0, (Or.inr ⟨by (first | decide +kernel | omega), by rw [show kZ.toNat = 0 by (first | decide +kernel | omega)]; show LY (-1) h h (h.1 108 1).toInt (h.1 108 2).toInt 109 iZ.toNat iZ v _; rw [t0K, s0K, t0E, s0E]; exact Or.inr (Or.inl ⟨by (first | decide +kernel | omega), by (first | decide +kernel | omega), rfl, tc_m12⟩)⟩)⟩⟩
      ·
        refine V_bipush (-11) d_Rod_lay_26 (by decide) ?_
        exact V_iret rfl d_Rod_lay_28 ⟨(-11), rfl, ⟨hI, f0, (Or.inr ⟨by (first | decide +kernel | omega), by rw [show kZ.toNat = 0 by (first | decide +kernel | omega)]; show LY (-1) h h (h.1 108 1).toInt (h.1 108 2).toInt 109 iZ.toNat iZ v _; rw [t0K, s0K, t0E, s0E]; exact Or.inl ⟨by (first | decide +kernel | omega), rfl, tc_m11⟩⟩)⟩⟩
    ·
      refine V_aald (r := 110) sk_107 (by decide) kE (by (first | decide +kernel | omega)) (by rw [c9]; rfl) d_Rod_lay_14 ?_
      refine V_astore 4 [some (.ref 85), some (.int k), some (.int i), some (.int v), some (.ref 110)] d_Rod_lay_15 (by decide) rfl rfl ?_
      refine V_aload d_Rod_lay_17 rfl ?_
      refine N_getK fa_Rod_293 sk_110 rfl d_Rod_lay_19 t1K ?_
      refine V_iconst (-1) d_Rod_lay_22 (by decide) ?_
      refine V_icmp_ne 29 t1E tc_m1 d_Rod_lay_23 (by decide) (fun c18 => ?_) (fun c18 => ?_)
      ·
        refine V_iload_n 2 d_Rod_lay_29 rfl rfl ?_
        refine V_if_lt 42 iE d_Rod_lay_30 (by decide) (fun c19 => ?_) (fun c19 => ?_)
        ·
          refine V_bipush (-12) d_Rod_lay_42 (by decide) ?_
          exact V_iret rfl d_Rod_lay_44 ⟨(-12), rfl, ⟨hI, f0, (Or.inr ⟨by (first | decide +kernel | omega), by rw [show kZ.toNat = 1 by (first | decide +kernel | omega)]; show LY (-1) h h (h.1 110 1).toInt (h.1 110 2).toInt 111 iZ.toNat iZ v _; rw [t1K, s1K, t1E, s1E]; exact Or.inr (Or.inl ⟨by (first | decide +kernel | omega), by (first | decide +kernel | omega), rfl, tc_m12⟩)⟩)⟩⟩
        ·
          refine V_iload_n 2 d_Rod_lay_33 rfl rfl ?_
          refine V_aload d_Rod_lay_34 rfl ?_
          refine N_getK fa_Rod_296 sk_110 rfl d_Rod_lay_36 s1K ?_
          refine V_icmp_lt 45 iE s1E d_Rod_lay_39 (by decide) (fun c20 => ?_) (fun c20 => ?_)
          ·
            refine V_aload d_Rod_lay_45 rfl ?_
            refine V_iload_n 2 d_Rod_lay_47 rfl rfl ?_
            refine V_iload_n 3 d_Rod_lay_48 rfl rfl ?_
            refine N_callVV [.int i, .int v] [] cv_Rod_297 sk_110 rfl d_Rod_lay_49 rfl (Nat.le_of_ble_eq_true rfl) (by decide) (by decide) (c_Sheet_putZ_1 h hI i iZ iE v vZ vE t1 t1Z t1E t1K (by (first | decide +kernel | omega))) (fun h22 p23 => ?_)
            obtain ⟨hI24, fh22, p23⟩ := p23
            have f25 : fr S_Rod_layZ h h22 := fr_call f0 fh22 rfl
            refine V_iconst 1 d_Rod_lay_52 (by decide) ?_
            exact V_iret rfl d_Rod_lay_53 ⟨1, rfl, ⟨hI24, f25, (Or.inr ⟨by (first | decide +kernel | omega), by rw [show kZ.toNat = 1 by (first | decide +kernel | omega)]; show LY (-1) h h22 (h.1 110 1).toInt (h.1 110 2).toInt 111 iZ.toNat iZ v _; rw [t1K, s1K, t1E, s1E]; exact Or.inr (Or.inr ⟨by (first | decide +kernel | omega), by (first | decide +kernel | omega), by (first | decide +kernel | omega), tc_1, p23⟩)⟩)⟩⟩
          ·
            refine V_bipush (-12) d_Rod_lay_42 (by decide) ?_
            exact V_iret rfl d_Rod_lay_44 ⟨(-12), rfl, ⟨hI, f0, (Or.inr ⟨by (first | decide +kernel | omega), by rw [show kZ.toNat = 1 by (first | decide +kernel | omega)]; show LY (-1) h h (h.1 110 1).toInt (h.1 110 2).toInt 111 iZ.toNat iZ v _; rw [t1K, s1K, t1E, s1E]; exact Or.inr (Or.inl ⟨by (first | decide +kernel | omega), by (first | decide +kernel | omega), rfl, tc_m12⟩)⟩)⟩⟩
      ·
        refine V_bipush (-11) d_Rod_lay_26 (by decide) ?_
        exact V_iret rfl d_Rod_lay_28 ⟨(-11), rfl, ⟨hI, f0, (Or.inr ⟨by (first | decide +kernel | omega), by rw [show kZ.toNat = 1 by (first | decide +kernel | omega)]; show LY (-1) h h (h.1 110 1).toInt (h.1 110 2).toInt 111 iZ.toNat iZ v _; rw [t1K, s1K, t1E, s1E]; exact Or.inl ⟨by (first | decide +kernel | omega), rfl, tc_m11⟩⟩)⟩⟩
    ·
      refine V_aald (r := 112) sk_107 (by decide) kE (by (first | decide +kernel | omega)) (by rw [c9]; rfl) d_Rod_lay_14 ?_
      refine V_astore 4 [some (.ref 85), some (.int k), some (.int i), some (.int v), some (.ref 112)] d_Rod_lay_15 (by decide) rfl rfl ?_
      refine V_aload d_Rod_lay_17 rfl ?_
      refine N_getK fa_Rod_293 sk_112 rfl d_Rod_lay_19 t2K ?_
      refine V_iconst (-1) d_Rod_lay_22 (by decide) ?_
      refine V_icmp_ne 29 t2E tc_m1 d_Rod_lay_23 (by decide) (fun c26 => ?_) (fun c26 => ?_)
      ·
        refine V_iload_n 2 d_Rod_lay_29 rfl rfl ?_
        refine V_if_lt 42 iE d_Rod_lay_30 (by decide) (fun c27 => ?_) (fun c27 => ?_)
        ·
          refine V_bipush (-12) d_Rod_lay_42 (by decide) ?_
          exact V_iret rfl d_Rod_lay_44 ⟨(-12), rfl, ⟨hI, f0, (Or.inr ⟨by (first | decide +kernel | omega), by rw [show kZ.toNat = 2 by (first | decide +kernel | omega)]; show LY (-1) h h (h.1 112 1).toInt (h.1 112 2).toInt 113 iZ.toNat iZ v _; rw [t2K, s2K, t2E, s2E]; exact Or.inr (Or.inl ⟨by (first | decide +kernel | omega), by (first | decide +kernel | omega), rfl, tc_m12⟩)⟩)⟩⟩
        ·
          refine V_iload_n 2 d_Rod_lay_33 rfl rfl ?_
          refine V_aload d_Rod_lay_34 rfl ?_
          refine N_getK fa_Rod_296 sk_112 rfl d_Rod_lay_36 s2K ?_
          refine V_icmp_lt 45 iE s2E d_Rod_lay_39 (by decide) (fun c28 => ?_) (fun c28 => ?_)
          ·
            refine V_aload d_Rod_lay_45 rfl ?_
            refine V_iload_n 2 d_Rod_lay_47 rfl rfl ?_
            refine V_iload_n 3 d_Rod_lay_48 rfl rfl ?_
            refine N_callVV [.int i, .int v] [] cv_Rod_297 sk_112 rfl d_Rod_lay_49 rfl (Nat.le_of_ble_eq_true rfl) (by decide) (by decide) (c_Sheet_putZ_2 h hI i iZ iE v vZ vE t2 t2Z t2E t2K (by (first | decide +kernel | omega))) (fun h30 p31 => ?_)
            obtain ⟨hI32, fh30, p31⟩ := p31
            have f33 : fr S_Rod_layZ h h30 := fr_call f0 fh30 rfl
            refine V_iconst 1 d_Rod_lay_52 (by decide) ?_
            exact V_iret rfl d_Rod_lay_53 ⟨1, rfl, ⟨hI32, f33, (Or.inr ⟨by (first | decide +kernel | omega), by rw [show kZ.toNat = 2 by (first | decide +kernel | omega)]; show LY (-1) h h30 (h.1 112 1).toInt (h.1 112 2).toInt 113 iZ.toNat iZ v _; rw [t2K, s2K, t2E, s2E]; exact Or.inr (Or.inr ⟨by (first | decide +kernel | omega), by (first | decide +kernel | omega), by (first | decide +kernel | omega), tc_1, p31⟩)⟩)⟩⟩
          ·
            refine V_bipush (-12) d_Rod_lay_42 (by decide) ?_
            exact V_iret rfl d_Rod_lay_44 ⟨(-12), rfl, ⟨hI, f0, (Or.inr ⟨by (first | decide +kernel | omega), by rw [show kZ.toNat = 2 by (first | decide +kernel | omega)]; show LY (-1) h h (h.1 112 1).toInt (h.1 112 2).toInt 113 iZ.toNat iZ v _; rw [t2K, s2K, t2E, s2E]; exact Or.inr (Or.inl ⟨by (first | decide +kernel | omega), by (first | decide +kernel | omega), rfl, tc_m12⟩)⟩)⟩⟩
      ·
        refine V_bipush (-11) d_Rod_lay_26 (by decide) ?_
        exact V_iret rfl d_Rod_lay_28 ⟨(-11), rfl, ⟨hI, f0, (Or.inr ⟨by (first | decide +kernel | omega), by rw [show kZ.toNat = 2 by (first | decide +kernel | omega)]; show LY (-1) h h (h.1 112 1).toInt (h.1 112 2).toInt 113 iZ.toNat iZ v _; rw [t2K, s2K, t2E, s2E]; exact Or.inl ⟨by (first | decide +kernel | omega), rfl, tc_m11⟩⟩)⟩⟩
    ·
      refine V_aald (r := 114) sk_107 (by decide) kE (by (first | decide +kernel | omega)) (by rw [c9]; rfl) d_Rod_lay_14 ?_
      refine V_astore 4 [some (.ref 85), some (.int k), some (.int i), some (.int v), some (.ref 114)] d_Rod_lay_15 (by decide) rfl rfl ?_
      refine V_aload d_Rod_lay_17 rfl ?_
      refine N_getK fa_Rod_293 sk_114 rfl d_Rod_lay_19 t3K ?_
      refine V_iconst (-1) d_Rod_lay_22 (by decide) ?_
      refine V_icmp_ne 29 t3E tc_m1 d_Rod_lay_23 (by decide) (fun c34 => ?_) (fun c34 => ?_)
      ·
        refine V_iload_n 2 d_Rod_lay_29 rfl rfl ?_
        refine V_if_lt 42 iE d_Rod_lay_30 (by decide) (fun c35 => ?_) (fun c35 => ?_)
        ·
          refine V_bipush (-12) d_Rod_lay_42 (by decide) ?_
          exact V_iret rfl d_Rod_lay_44 ⟨(-12), rfl, ⟨hI, f0, (Or.inr ⟨by (first | decide +kernel | omega), by rw [show kZ.toNat = 3 by (first | decide +kernel | omega)]; show LY (-1) h h (h.1 114 1).toInt (h.1 114 2).toInt 115 iZ.toNat iZ v _; rw [t3K, s3K, t3E, s3E]; exact Or.inr (Or.inl ⟨by (first | decide +kernel | omega), by (first | decide +kernel | omega), rfl, tc_m12⟩)⟩)⟩⟩
        ·
          refine V_iload_n 2 d_Rod_lay_33 rfl rfl ?_
          refine V_aload d_Rod_lay_34 rfl ?_
          refine N_getK fa_Rod_296 sk_114 rfl d_Rod_lay_36 s3K ?_
          refine V_icmp_lt 45 iE s3E d_Rod_lay_39 (by decide) (fun c36 => ?_) (fun c36 => ?_)
          ·
            refine V_aload d_Rod_lay_45 rfl ?_
            refine V_iload_n 2 d_Rod_lay_47 rfl rfl ?_
            refine V_iload_n 3 d_Rod_lay_48 rfl rfl ?_
            refine N_callVV [.int i, .int v] [] cv_Rod_297 sk_114 rfl d_Rod_lay_49 rfl (Nat.le_of_ble_eq_true rfl) (by decide) (by decide) (c_Sheet_putZ_3 h hI i iZ iE v vZ vE t3 t3Z t3E t3K (by (first | decide +kernel | omega))) (fun h38 p39 => ?_)
            obtain ⟨hI40, fh38, p39⟩ := p39
            have f41 : fr S_Rod_layZ h h38 := fr_call f0 fh38 rfl
            refine V_iconst 1 d_Rod_lay_52 (by decide) ?_
            exact V_iret rfl d_Rod_lay_53 ⟨1, rfl, ⟨hI40, f41, (Or.inr ⟨by (first | decide +kernel | omega), by rw [show kZ.toNat = 3 by (first | decide +kernel | omega)]; show LY (-1) h h38 (h.1 114 1).toInt (h.1 114 2).toInt 115 iZ.toNat iZ v _; rw [t3K, s3K, t3E, s3E]; exact Or.inr (Or.inr ⟨by (first | decide +kernel | omega), by (first | decide +kernel | omega), by (first | decide +kernel | omega), tc_1, p39⟩)⟩)⟩⟩
          ·
            refine V_bipush (-12) d_Rod_lay_42 (by decide) ?_
            exact V_iret rfl d_Rod_lay_44 ⟨(-12), rfl, ⟨hI, f0, (Or.inr ⟨by (first | decide +kernel | omega), by rw [show kZ.toNat = 3 by (first | decide +kernel | omega)]; show LY (-1) h h (h.1 114 1).toInt (h.1 114 2).toInt 115 iZ.toNat iZ v _; rw [t3K, s3K, t3E, s3E]; exact Or.inr (Or.inl ⟨by (first | decide +kernel | omega), by (first | decide +kernel | omega), rfl, tc_m12⟩)⟩)⟩⟩
      ·
        refine V_bipush (-11) d_Rod_lay_26 (by decide) ?_
        exact V_iret rfl d_Rod_lay_28 ⟨(-11), rfl, ⟨hI, f0, (Or.inr ⟨by (first | decide +kernel | omega), by rw [show kZ.toNat = 3 by (first | decide +kernel | omega)]; show LY (-1) h h (h.1 114 1).toInt (h.1 114 2).toInt 115 iZ.toNat iZ v _; rw [t3K, s3K, t3E, s3E]; exact Or.inl ⟨by (first | decide +kernel | omega), rfl, tc_m11⟩⟩)⟩⟩
  ·
    refine V_iconst (-1) d_Rod_lay_7 (by decide) ?_
    exact V_iret rfl d_Rod_lay_8 ⟨(-1), rfl, ⟨hI, f0, (Or.inl ⟨by (first | decide +kernel | omega), rfl, tc_m1⟩)⟩⟩
def S_Mod_layZ : List (Nat × Option Nat) := [(130, none)]
abbrev q_Mod_layZ (h : Hp) (k : Int32) (kZ : Int) (i : Int32) (iZ : Int) (v : Int32) (vZ : Int) : Option Value → Hp → Prop := pInt (fun r h' => Inv h' ∧ fr S_Mod_layZ h h' ∧ ((kZ < 0 ∨ 3 < kZ) ∧ h' = h ∧ r.toInt = -1 ∨ ¬ (kZ < 0 ∨ 3 < kZ) ∧ LY (-4) h h' (h.1 128 kZ.toNat).toInt (h.1 129 kZ.toNat).toInt 130 (40 * kZ + iZ).toNat iZ v r))
set_option maxRecDepth 100000 in
theorem c_Mod_layZ (h : Hp) (hI : Inv h) (k : Int32) (kZ : Int) (kE : k.toInt = kZ) (i : Int32) (iZ : Int) (iE : i.toInt = iZ) (v : Int32) (vZ : Int) (vE : v.toInt = vZ) : Ct y_Mod_lay b_Mod_lay 4 (some .int) 2 46 [.ref 116, .int k, .int i, .int v] h (q_Mod_layZ h k kZ i iZ v vZ) := by
  refine ct_ow R_Mod [some (.ref 116), some (.int k), some (.int i), some (.int v)] rfl (by decide) rfl (Nat.le_of_ble_eq_true rfl) ?_
  have f0 : fr S_Mod_layZ h h := fr_rf
  obtain ⟨tv, tvZ, tvE, tvK⟩ : ∃ (y : Int32) (Y : Int), y.toInt = Y ∧ h.1 128 (kZ).toNat = y := ⟨_, _, rfl, rfl⟩
  obtain ⟨sv, svZ, svE, svK⟩ : ∃ (y : Int32) (Y : Int), y.toInt = Y ∧ h.1 129 (kZ).toNat = y := ⟨_, _, rfl, rfl⟩
  refine V_iload_n 1 d_Mod_lay_0 rfl rfl ?_
  refine V_iconst 0 d_Mod_lay_1 (by decide) ?_
  refine N_callSI [.int k, .int 0] [] cs_Mod_322 d_Mod_lay_2 rfl (Nat.le_of_ble_eq_true rfl) (by decide) (by decide) (c_Mod_isSheet h k kZ kE 0 0 tc_0) (fun z1 h2 z1Z z1E p3 => ?_)
  obtain ⟨eh2, p3⟩ := p3
  subst eh2
  refine V_if_ne 10 z1E d_Mod_lay_5 (by decide) (fun c4 => ?_) (fun c4 => ?_)
  ·
    have svB : 0 ≤ svZ ∧ svZ ≤ 40 := inv_at hI svE svK.symm rfl
    refine V_aload_n 0 d_Mod_lay_10 rfl rfl ?_
    refine V_getR fa_Mod_44 sk_116 rfl d_Mod_lay_11 ?_
    refine V_iload_n 1 d_Mod_lay_14 rfl rfl ?_
    refine N_ialdK sk_128 kE (by (first | decide +kernel | omega)) d_Mod_lay_15 tvK ?_
    refine V_bipush (-4) d_Mod_lay_16 (by decide) ?_
    refine V_icmp_ne 24 tvE tc_m4 d_Mod_lay_18 (by decide) (fun c6 => ?_) (fun c6 => ?_)
    ·
      refine V_iload_n 2 d_Mod_lay_24 rfl rfl ?_
      refine V_i2l d_Mod_lay_25 (fun z7 z7e z7E => ?_)
      have z7F : z7.toInt = iZ := z7E.trans iE
      refine V_lconst 0 d_Mod_lay_26 (by decide) ?_
      refine V_aload_n 0 d_Mod_lay_27 rfl rfl ?_
      refine V_getR fa_Mod_47 sk_116 rfl d_Mod_lay_28 ?_
      refine V_iload_n 1 d_Mod_lay_31 rfl rfl ?_
      refine N_ialdK sk_129 kE (by (first | decide +kernel | omega)) d_Mod_lay_32 svK ?_
      refine V_iconst 1 d_Mod_lay_33 (by decide) ?_
      refine V_isub svE tc_1 (by (first | decide +kernel | omega)) d_Mod_lay_34 (fun z9 z9e z9E => ?_)
      refine V_i2l d_Mod_lay_35 (fun z10 z10e z10E => ?_)
      have z10F : z10.toInt = (svZ - 1) := z10E.trans z9E
      refine N_callSI [.long z7, .long 0, .long z10] [] cs_Mod_95 d_Mod_lay_36 rfl (Nat.le_of_ble_eq_true rfl) (by decide) (by decide) (c_Mod_in h z7 iZ z7F 0 0 tl_0 z10 ((svZ - 1)) z10F) (fun z11 h12 z11Z z11E p13 => ?_)
      obtain ⟨eh12, p13⟩ := p13
      subst eh12
      refine V_if_ne 45 z11E d_Mod_lay_39 (by decide) (fun c14 => ?_) (fun c14 => ?_)
      ·
        refine V_aload_n 0 d_Mod_lay_45 rfl rfl ?_
        refine V_getR fa_Mod_50 sk_116 rfl d_Mod_lay_46 ?_
        refine V_bipush 40 d_Mod_lay_49 (by decide) ?_
        refine V_iload_n 1 d_Mod_lay_51 rfl rfl ?_
        refine V_imul tc_40 kE (by (first | decide +kernel | omega)) d_Mod_lay_52 (fun z15 z15e z15E => ?_)
        refine V_iload_n 2 d_Mod_lay_53 rfl rfl ?_
        refine V_iadd z15E iE (by (first | decide +kernel | omega)) d_Mod_lay_54 (fun z16 z16e z16E => ?_)
        refine V_aload_n 0 d_Mod_lay_55 rfl rfl ?_
        refine V_getR fa_Mod_44 sk_116 rfl d_Mod_lay_56 ?_
        refine V_iload_n 1 d_Mod_lay_59 rfl rfl ?_
        refine N_ialdK sk_128 kE (by (first | decide +kernel | omega)) d_Mod_lay_60 tvK ?_
        refine V_if_ne 69 tvE d_Mod_lay_61 (by decide) (fun c18 => ?_) (fun c18 => ?_)
        ·
          refine V_aload_n 0 d_Mod_lay_69 rfl rfl ?_
          refine V_getR fa_Mod_44 sk_116 rfl d_Mod_lay_70 ?_
          refine V_iload_n 1 d_Mod_lay_73 rfl rfl ?_
          refine N_ialdK sk_128 kE (by (first | decide +kernel | omega)) d_Mod_lay_74 tvK ?_
          refine V_iconst 1 d_Mod_lay_75 (by decide) ?_
          refine V_icmp_ne 84 tvE tc_1 d_Mod_lay_76 (by decide) (fun c20 => ?_) (fun c20 => ?_)
          ·
            refine V_iload_n 3 d_Mod_lay_84 rfl rfl ?_
            refine N_iast sk_130 z16E (by (first | decide +kernel | omega)) d_Mod_lay_85 (fun h21 eh21 => ?_)
            have hI22 : Inv h21 := inv_full hI eh21 rfl
            have f23 : fr S_Mod_layZ h h21 := fr_put f0 eh21 rfl
            refine V_iconst 1 d_Mod_lay_86 (by decide) ?_
            exact V_iret rfl d_Mod_lay_87 ⟨1, rfl, ⟨hI22, f23, (Or.inr ⟨by (first | decide +kernel | omega), by rw [tvK, svK, tvE, svE]; exact Or.inr (Or.inr ⟨by (first | decide +kernel | omega), by (first | decide +kernel | omega), by (first | decide +kernel | omega), tc_1, v, Or.inr (Or.inr ⟨by (first | decide +kernel | omega), rfl⟩), (by rw [eh21] <;> rfl)⟩)⟩)⟩⟩
          ·
            refine V_iload_n 3 d_Mod_lay_79 rfl rfl ?_
            refine N_i2s d_Mod_lay_80 (fun z24 z24Z z24E z24e => ?_)
            refine V_goto 85 d_Mod_lay_81 (by decide) ?_
            refine N_iast sk_130 z16E (by (first | decide +kernel | omega)) d_Mod_lay_85 (fun h25 eh25 => ?_)
            have hI26 : Inv h25 := inv_full hI eh25 rfl
            have f27 : fr S_Mod_layZ h h25 := fr_put f0 eh25 rfl
            refine V_iconst 1 d_Mod_lay_86 (by decide) ?_
            exact V_iret rfl d_Mod_lay_87 ⟨1, rfl, ⟨hI26, f27, (Or.inr ⟨by (first | decide +kernel | omega), by rw [tvK, svK, tvE, svE]; exact Or.inr (Or.inr ⟨by (first | decide +kernel | omega), by (first | decide +kernel | omega), by (first | decide +kernel | omega), tc_1, z24, Or.inr (Or.inl ⟨by (first | decide +kernel | omega), z24e⟩), (by rw [eh25] <;> rfl)⟩)⟩)⟩⟩
        ·
          refine V_iload_n 3 d_Mod_lay_64 rfl rfl ?_
          refine N_i2b d_Mod_lay_65 (fun z28 z28Z z28E z28e => ?_)
          refine V_goto 85 d_Mod_lay_66 (by decide) ?_
          refine N_iast sk_130 z16E (by (first | decide +kernel | omega)) d_Mod_lay_85 (fun h29 eh29 => ?_)
          have hI30 : Inv h29 := inv_full hI eh29 rfl
          have f31 : fr S_Mod_layZ h h29 := fr_put f0 eh29 rfl
          refine V_iconst 1 d_Mod_lay_86 (by decide) ?_
          exact V_iret rfl d_Mod_lay_87 ⟨1, rfl, ⟨hI30, f31, (Or.inr ⟨by (first | decide +kernel | omega), by rw [tvK, svK, tvE, svE]; exact Or.inr (Or.inr ⟨by (first | decide +kernel | omega), by (first | decide +kernel | omega), by (first | decide +kernel | omega), tc_1, z28, Or.inl ⟨by (first | decide +kernel | omega), z28e⟩, (by rw [eh29] <;> rfl)⟩)⟩)⟩⟩
      ·
        refine V_bipush (-12) d_Mod_lay_42 (by decide) ?_
        exact V_iret rfl d_Mod_lay_44 ⟨(-12), rfl, ⟨hI, f0, (Or.inr ⟨by (first | decide +kernel | omega), by rw [tvK, svK, tvE, svE]; exact Or.inr (Or.inl ⟨by (first | decide +kernel | omega), by (first | decide +kernel | omega), rfl, tc_m12⟩)⟩)⟩⟩
    ·
      refine V_bipush (-11) d_Mod_lay_21 (by decide) ?_
      exact V_iret rfl d_Mod_lay_23 ⟨(-11), rfl, ⟨hI, f0, (Or.inr ⟨by (first | decide +kernel | omega), by rw [tvK, svK, tvE, svE]; exact Or.inl ⟨by (first | decide +kernel | omega), rfl, tc_m11⟩⟩)⟩⟩
  ·
    refine V_iconst (-1) d_Mod_lay_8 (by decide) ?_
    exact V_iret rfl d_Mod_lay_9 ⟨(-1), rfl, ⟨hI, f0, (Or.inl ⟨by (first | decide +kernel | omega), rfl, tc_m1⟩)⟩⟩
end
section
def uN (x : Int32) : Nat := x.toBitVec.toNat
theorem uN_lt (x : Int32) : uN x < 2 ^ 32 := x.toBitVec.isLt
theorem uN_and (x y : Int32) : uN (x &&& y) = uN x &&& uN y := by unfold uN; rw [Int32.toBitVec_and, BitVec.toNat_and]
theorem uN_or (x y : Int32) : uN (x ||| y) = uN x ||| uN y := by unfold uN; rw [Int32.toBitVec_or, BitVec.toNat_or]
theorem uN_add (x y : Int32) : uN (x + y) = (uN x + uN y) % 4294967296 := by
  have := BitVec.toNat_add x.toBitVec y.toBitVec
  rw [← Int32.toBitVec_add] at this
  exact this
theorem uN_sub (x y : Int32) : uN (x - y) = (4294967296 - uN y + uN x) % 4294967296 := by
  have := BitVec.toNat_sub x.toBitVec y.toBitVec
  rw [← Int32.toBitVec_sub] at this
  exact this
theorem uN_ush {x y z : Int32} (k : Nat) (e : z = (x.toUInt32 >>> (y.toUInt32 &&& Int32.toUInt32 31)).toInt32) (hk : (y.toUInt32 &&& Int32.toUInt32 31).toNat % 32 = k) : uN z = uN x / 2 ^ k := by
  have h1 : uN z = (x.toUInt32 >>> (y.toUInt32 &&& Int32.toUInt32 31)).toNat := by rw [e]; rfl
  rw [h1, UInt32.toNat_shiftRight, hk, Nat.shiftRight_eq_div_pow]
  rfl
theorem uN_ti {x : Int32} (h : uN x < 2 ^ 31) : x.toInt = (uN x : Int) := by
  rw [← Int32.toInt_toBitVec]
  exact BitVec.toInt_eq_toNat_of_lt (by show 2 * uN x < 2 ^ 32; omega)
theorem and_dig {w s m x y : Nat} (hs : s < 2 ^ w) (hm : m < 2 ^ w) : (s + 2 ^ w * x) &&& (m + 2 ^ w * y) = (s &&& m) + 2 ^ w * (x &&& y) := by
  have hp : 0 < 2 ^ w := Nat.two_pow_pos w
  have h1 : ((s + 2 ^ w * x) &&& (m + 2 ^ w * y)) % 2 ^ w = s &&& m := by
    rw [Nat.and_mod_two_pow, Nat.add_mul_mod_self_left, Nat.add_mul_mod_self_left, Nat.mod_eq_of_lt hs, Nat.mod_eq_of_lt hm]
  have h2 : ((s + 2 ^ w * x) &&& (m + 2 ^ w * y)) / 2 ^ w = x &&& y := by
    rw [Nat.and_div_two_pow, Nat.add_mul_div_left _ _ hp, Nat.add_mul_div_left _ _ hp, Nat.div_eq_of_lt hs, Nat.div_eq_of_lt hm, Nat.zero_add, Nat.zero_add]
  have h3 := Nat.mod_add_div ((s + 2 ^ w * x) &&& (m + 2 ^ w * y)) (2 ^ w)
  rw [h1, h2] at h3
  exact h3.symm
theorem and_d2 {s x m y : Nat} (hs : s < 4) (hm : m < 4) : (s + 4 * x) &&& (m + 4 * y) = (s &&& m) + 4 * (x &&& y) := and_dig (w := 2) hs hm
theorem and_d4 {s x m y : Nat} (hs : s < 16) (hm : m < 16) : (s + 16 * x) &&& (m + 16 * y) = (s &&& m) + 16 * (x &&& y) := and_dig (w := 4) hs hm
theorem and_d8 {s x m y : Nat} (hs : s < 256) (hm : m < 256) : (s + 256 * x) &&& (m + 256 * y) = (s &&& m) + 256 * (x &&& y) := and_dig (w := 8) hs hm
theorem and_1 (x : Nat) : x &&& 1 = x % 2 := Nat.and_two_pow_sub_one_eq_mod x 1
theorem and_3 (x : Nat) : x &&& 3 = x % 4 := Nat.and_two_pow_sub_one_eq_mod x 2
theorem and_15 (x : Nat) : x &&& 15 = x % 16 := Nat.and_two_pow_sub_one_eq_mod x 4
theorem and_63 (x : Nat) : x &&& 63 = x % 64 := Nat.and_two_pow_sub_one_eq_mod x 6
def M5 : Nat → Nat
  | 0 => 0
  | k + 1 => 1 + 4 * M5 k
def M3 : Nat → Nat
  | 0 => 0
  | k + 1 => 3 + 16 * M3 k
def M0 : Nat → Nat
  | 0 => 0
  | k + 1 => 15 + 256 * M0 k
def P2 : Nat → Nat → Nat
  | 0, _ => 0
  | k + 1, n => (n % 2 + n / 2 % 2) + 4 * P2 k (n / 4)
def pc4 (n : Nat) : Nat := n % 2 + n / 2 % 2 + (n / 4 % 2 + n / 8 % 2)
theorem pc4_le (n : Nat) : pc4 n ≤ 4 := by unfold pc4; omega
def P4 : Nat → Nat → Nat
  | 0, _ => 0
  | k + 1, n => pc4 n + 16 * P4 k (n / 16)
def P8 : Nat → Nat → Nat
  | 0, _ => 0
  | k + 1, n => (pc4 n + pc4 (n / 16)) + 256 * P8 k (n / 256)
theorem P2_of : ∀ k n : Nat, n < 4 ^ k → n - (n / 2 &&& M5 k) = P2 k n ∧ (n / 2 &&& M5 k) ≤ n := by
  intro k
  induction k with
  | zero => intro n h; have : n = 0 := by (first | decide +kernel | omega)
            subst this; exact ⟨rfl, Nat.le_refl 0⟩
  | succ k ih =>
    intro n h
    rw [Nat.pow_succ] at h
    obtain ⟨i1, i2⟩ := ih (n / 4) (by (first | decide +kernel | omega))
    have e1 : n / 2 = (n % 4 / 2 + 2 * (n / 4 % 2)) + 4 * (n / 4 / 2) := by (first | decide +kernel | omega)
    have e2 : n / 2 &&& M5 (k + 1) = n % 4 / 2 + 4 * (n / 4 / 2 &&& M5 k) := by
      show n / 2 &&& (1 + 4 * M5 k) = _
      rw [e1, and_d2 (by (first | decide +kernel | omega)) (by (first | decide +kernel | omega)), and_1]
      omega
    rw [e2]
    show n - _ = (n % 2 + n / 2 % 2) + 4 * P2 k (n / 4) ∧ _
    rw [← i1]
    generalize n / 4 / 2 &&& M5 k = t at i2
    omega
theorem P2_su (k n : Nat) : P2 (2 * (k + 1)) n = ((n % 2 + n / 2 % 2) + 4 * (n / 4 % 2 + n / 8 % 2)) + 16 * P2 (2 * k) (n / 16) := by
  show (n % 2 + n / 2 % 2) + 4 * ((n / 4 % 2 + n / 4 / 2 % 2) + 4 * P2 (2 * k) (n / 4 / 4)) = _
  rw [show n / 4 / 4 = n / 16 by (first | decide +kernel | omega), show n / 4 / 2 = n / 8 by (first | decide +kernel | omega)]
  omega
theorem P4_of : ∀ k n : Nat, (P2 (2 * k) n &&& M3 k) + (P2 (2 * k) n / 4 &&& M3 k) = P4 k n := by
  intro k
  induction k with
  | zero => intro n; show (0 &&& 0) + (0 / 4 &&& 0) = 0; rfl
  | succ k ih =>
    intro n
    have i1 := ih (n / 16)
    rw [P2_su]
    generalize P2 (2 * k) (n / 16) = q at i1
    show (_ &&& (3 + 16 * M3 k)) + (_ &&& (3 + 16 * M3 k)) = pc4 n + 16 * P4 k (n / 16)
    have e1 : ((n % 2 + n / 2 % 2) + 4 * (n / 4 % 2 + n / 8 % 2) + 16 * q) / 4 = ((n / 4 % 2 + n / 8 % 2) + 4 * (q % 4)) + 16 * (q / 4) := by (first | decide +kernel | omega)
    rw [e1, and_d4 (by (first | decide +kernel | omega)) (by (first | decide +kernel | omega)), and_d4 (by (first | decide +kernel | omega)) (by (first | decide +kernel | omega)), and_3, and_3, ← i1]
    unfold pc4
    omega
theorem P4_su (k n : Nat) : P4 (2 * (k + 1)) n = (pc4 n + 16 * pc4 (n / 16)) + 256 * P4 (2 * k) (n / 256) := by
  show pc4 n + 16 * (pc4 (n / 16) + 16 * P4 (2 * k) (n / 16 / 16)) = _
  rw [show n / 16 / 16 = n / 256 by (first | decide +kernel | omega)]
  omega
theorem P4_m (k n : Nat) : P4 k n % 16 ≤ 4 := by
  cases k with
  | zero => show 0 % 16 ≤ 4; decide
  | succ k =>
    show (pc4 n + 16 * P4 k (n / 16)) % 16 ≤ 4
    have := pc4_le n
    omega
theorem P8_of : ∀ k n : Nat, (P4 (2 * k) n + P4 (2 * k) n / 16) &&& M0 k = P8 k n := by
  intro k
  induction k with
  | zero => intro n; show (0 + 0 / 16) &&& 0 = 0; rfl
  | succ k ih =>
    intro n
    have i1 := ih (n / 256)
    have i2 := P4_m (2 * k) (n / 256)
    have i3 := pc4_le n
    have i4 := pc4_le (n / 16)
    rw [P4_su]
    show _ &&& (15 + 256 * M0 k) = (pc4 n + pc4 (n / 16)) + 256 * P8 k (n / 256)
    rw [← i1]
    generalize P4 (2 * k) (n / 256) = q at i2
    have e1 : (pc4 n + 16 * pc4 (n / 16)) + 256 * q + ((pc4 n + 16 * pc4 (n / 16)) + 256 * q) / 16 = (pc4 n + pc4 (n / 16) + 16 * (pc4 (n / 16) + q % 16)) + 256 * (q + q / 16) := by (first | decide +kernel | omega)
    rw [e1, and_d8 (by (first | decide +kernel | omega)) (by (first | decide +kernel | omega)), and_15]
    omega
theorem pcN_8 (k n : Nat) : pcN (k + 8) n = pc4 n + pc4 (n / 16) + pcN k (n / 256) := by
  show n % 2 + (n / 2 % 2 + (n / 2 / 2 % 2 + (n / 2 / 2 / 2 % 2 + (n / 2 / 2 / 2 / 2 % 2 + (n / 2 / 2 / 2 / 2 / 2 % 2 + (n / 2 / 2 / 2 / 2 / 2 / 2 % 2 + (n / 2 / 2 / 2 / 2 / 2 / 2 / 2 % 2 + pcN k (n / 2 / 2 / 2 / 2 / 2 / 2 / 2 / 2)))))))) = _
  rw [show n / 2 / 2 / 2 / 2 / 2 / 2 / 2 / 2 = n / 256 by (first | decide +kernel | omega)]
  unfold pc4
  omega
theorem P8_le (n : Nat) : P8 4 n = (pc4 n + pc4 (n / 16)) + 256 * (pc4 (n / 256) + pc4 (n / 256 / 16)) + 65536 * (pc4 (n / 65536) + pc4 (n / 65536 / 16)) + 16777216 * (pc4 (n / 16777216) + pc4 (n / 16777216 / 16)) := by
  show (pc4 n + pc4 (n / 16)) + 256 * ((pc4 (n / 256) + pc4 (n / 256 / 16)) + 256 * ((pc4 (n / 256 / 256) + pc4 (n / 256 / 256 / 16)) + 256 * ((pc4 (n / 256 / 256 / 256) + pc4 (n / 256 / 256 / 256 / 16)) + 256 * 0))) = _
  rw [show n / 256 / 256 / 256 = n / 16777216 by (first | decide +kernel | omega), show n / 256 / 256 = n / 65536 by (first | decide +kernel | omega)]
  omega
theorem pcN_32 (n : Nat) : pcN 32 n = (pc4 n + pc4 (n / 16)) + (pc4 (n / 256) + pc4 (n / 256 / 16)) + (pc4 (n / 65536) + pc4 (n / 65536 / 16)) + (pc4 (n / 16777216) + pc4 (n / 16777216 / 16)) := by
  have h1 : pcN 32 n = _ := pcN_8 24 n
  have h2 : pcN 24 (n / 256) = _ := pcN_8 16 (n / 256)
  have h3 : pcN 16 (n / 256 / 256) = _ := pcN_8 8 (n / 256 / 256)
  have h4 : pcN 8 (n / 256 / 256 / 256) = _ := pcN_8 0 (n / 256 / 256 / 256)
  have h5 : pcN 0 (n / 256 / 256 / 256 / 256) = 0 := rfl
  have e1 : n / 256 / 256 / 256 = n / 16777216 := by (first | decide +kernel | omega)
  have e2 : n / 256 / 256 = n / 65536 := by (first | decide +kernel | omega)
  rw [h1, h2, h3, h4, h5, e1, e2]
  omega
theorem bc_nat {n a b c d e f : Nat} (h : n < 2 ^ 32) (h1 : a = n - (n / 2 &&& 1431655765)) (h2 : b = (a &&& 858993459) + (a / 4 &&& 858993459)) (h3 : c = (b + b / 16) &&& 252645135) (h4 : d = c + c / 256) (h5 : e = d + d / 65536) (h6 : f = e &&& 63) : f = pcN 32 n ∧ a ≤ n ∧ b < 2 ^ 32 ∧ b + b / 16 < 2 ^ 32 ∧ d < 2 ^ 32 ∧ e < 2 ^ 32 := by
  have a1 : a = P2 16 n := by rw [h1]; exact (P2_of 16 n h).1
  have a2 : b = P4 8 n := by rw [h2, a1]; exact P4_of 8 n
  have a3 : c = P8 4 n := by rw [h3, a2]; exact P8_of 4 n
  have l0 := pc4_le n
  have l1 := pc4_le (n / 16)
  have l2 := pc4_le (n / 256)
  have l3 := pc4_le (n / 256 / 16)
  have l4 := pc4_le (n / 65536)
  have l5 := pc4_le (n / 65536 / 16)
  have l6 := pc4_le (n / 16777216)
  have l7 := pc4_le (n / 16777216 / 16)
  have b1 : b = ((pc4 n + 16 * pc4 (n / 16)) + 256 * (pc4 (n / 256) + 16 * pc4 (n / 256 / 16))) + 65536 * ((pc4 (n / 65536) + 16 * pc4 (n / 65536 / 16)) + 256 * (pc4 (n / 16777216) + 16 * pc4 (n / 16777216 / 16))) := by
    rw [a2, show (8 : Nat) = 2 * (3 + 1) from rfl, P4_su, show 2 * 3 = 2 * (2 + 1) from rfl, P4_su, show 2 * 2 = 2 * (1 + 1) from rfl, P4_su, show 2 * 1 = 2 * (0 + 1) from rfl, P4_su]
    rw [show n / 256 / 256 / 256 = n / 16777216 by (first | decide +kernel | omega), show n / 256 / 256 = n / 65536 by (first | decide +kernel | omega)]
    show _ + 256 * (_ + 256 * (_ + 256 * (_ + 256 * 0))) = _
    omega
  rw [P8_le] at a3
  rw [pcN_32]
  rw [and_63] at h6
  have ha : a ≤ n := by rw [h1]; exact Nat.sub_le _ _
  clear h1 h2 h3 a1 a2
  obtain ⟨d0, e0⟩ : ∃ d0, d0 = pc4 n + pc4 (n / 16) := ⟨_, rfl⟩
  obtain ⟨d1, e1⟩ : ∃ d1, d1 = pc4 (n / 256) + pc4 (n / 256 / 16) := ⟨_, rfl⟩
  obtain ⟨d2, e2⟩ : ∃ d2, d2 = pc4 (n / 65536) + pc4 (n / 65536 / 16) := ⟨_, rfl⟩
  obtain ⟨d3, e3⟩ : ∃ d3, d3 = pc4 (n / 16777216) + pc4 (n / 16777216 / 16) := ⟨_, rfl⟩
  have y0 : d0 ≤ 8 := by (first | decide +kernel | omega)
  have y1 : d1 ≤ 8 := by (first | decide +kernel | omega)
  have y2 : d2 ≤ 8 := by (first | decide +kernel | omega)
  have y3 : d3 ≤ 8 := by (first | decide +kernel | omega)
  have hb : b < 2 ^ 32 ∧ b + b / 16 < 2 ^ 32 := by
    have : b ≤ 1145324612 := by (first | decide +kernel | omega)
    omega
  rw [← e0, ← e1, ← e2, ← e3] at a3 ⊢
  clear l0 l1 l2 l3 l4 l5 l6 l7 b1 e0 e1 e2 e3
  have q1 : c / 256 = d1 + 256 * d2 + 65536 * d3 := by (first | decide +kernel | omega)
  have q2 : d = (d0 + d1) + 256 * (d1 + d2) + 65536 * ((d2 + d3) + 256 * d3) := by (first | decide +kernel | omega)
  have q3 : d / 65536 = (d2 + d3) + 256 * d3 := by (first | decide +kernel | omega)
  have q4 : e = (d0 + d1 + d2 + d3) + 64 * (4 * (d1 + d2 + d3) + 1024 * ((d2 + d3) + 256 * d3)) := by (first | decide +kernel | omega)
  have q5 : f = d0 + d1 + d2 + d3 := by rw [h6, q4, Nat.add_mul_mod_self_left]; exact Nat.mod_eq_of_lt (by (first | decide +kernel | omega))
  exact ⟨q5, ha, hb.1, hb.2, by (first | decide +kernel | omega), by (first | decide +kernel | omega)⟩
theorem bc_of {v a1 a2 a3 b1 b2 b3 b4 c1 c2 c3 d1 d2 e1 e2 r : Int32} (g1 : a1 = (v.toUInt32 >>> (Int32.toUInt32 1 &&& Int32.toUInt32 31)).toInt32) (g2 : a2 = a1 &&& 1431655765) (g3 : a3 = v - a2) (g4 : b1 = a3 &&& 858993459) (g5 : b2 = (a3.toUInt32 >>> (Int32.toUInt32 2 &&& Int32.toUInt32 31)).toInt32) (g6 : b3 = b2 &&& 858993459) (g7 : b4 = b1 + b3) (g8 : c1 = (b4.toUInt32 >>> (Int32.toUInt32 4 &&& Int32.toUInt32 31)).toInt32) (g9 : c2 = b4 + c1) (g10 : c3 = c2 &&& 252645135) (g11 : d1 = (c3.toUInt32 >>> (Int32.toUInt32 8 &&& Int32.toUInt32 31)).toInt32) (g12 : d2 = c3 + d1) (g13 : e1 = (d2.toUInt32 >>> (Int32.toUInt32 16 &&& Int32.toUInt32 31)).toInt32) (g14 : e2 = d2 + e1) (g15 : r = e2 &&& 63) : r.toInt = (pcN 32 (uN v) : Nat) := by
  have l := uN_lt v
  have u1 := uN_ush 1 g1 (by decide)
  have u2 := uN_ush 2 g5 (by decide)
  have u3 := uN_ush 4 g8 (by decide)
  have u4 := uN_ush 8 g11 (by decide)
  have u5 := uN_ush 16 g13 (by decide)
  have c1' : uN (1431655765 : Int32) = 1431655765 := by decide
  have c2' : uN (858993459 : Int32) = 858993459 := by decide
  have c3' : uN (252645135 : Int32) = 252645135 := by decide
  have c4' : uN (63 : Int32) = 63 := by decide
  obtain ⟨k1, k2, k3, k4, k5, k6⟩ := bc_nat l rfl rfl rfl rfl rfl rfl
  have v2 : uN a2 = uN v / 2 &&& 1431655765 := by rw [g2, uN_and, u1, c1']
  have hle : (uN v / 2 &&& 1431655765) ≤ uN v := (P2_of 16 (uN v) l).2
  have v3 : uN a3 = uN v - (uN v / 2 &&& 1431655765) := by
    rw [g3, uN_sub, v2]
    generalize uN v / 2 &&& 1431655765 = t at hle
    omega
  have v4 : uN b1 = (uN v - (uN v / 2 &&& 1431655765)) &&& 858993459 := by rw [g4, uN_and, v3, c2']
  have v5 : uN b3 = (uN v - (uN v / 2 &&& 1431655765)) / 4 &&& 858993459 := by rw [g6, uN_and, u2, v3, c2']
  have v6 : uN b4 = ((uN v - (uN v / 2 &&& 1431655765)) &&& 858993459) + ((uN v - (uN v / 2 &&& 1431655765)) / 4 &&& 858993459) := by rw [g7, uN_add, v4, v5]; exact Nat.mod_eq_of_lt k3
  have v7 : uN c2 = uN b4 + uN b4 / 16 := by rw [g9, uN_add, u3]; rw [← v6] at k4; exact Nat.mod_eq_of_lt k4
  have v8 : uN c3 = (uN b4 + uN b4 / 16) &&& 252645135 := by rw [g10, uN_and, v7, c3']
  rw [← v6, ← v8] at k1 k5 k6
  have v9 : uN d2 = uN c3 + uN c3 / 256 := by rw [g12, uN_add, u4]; exact Nat.mod_eq_of_lt k5
  rw [← v9] at k1 k6
  have v10 : uN e2 = uN d2 + uN d2 / 65536 := by rw [g14, uN_add, u5]; exact Nat.mod_eq_of_lt k6
  rw [← v10] at k1
  have v11 : uN r = pcN 32 (uN v) := by rw [g15, uN_and, c4']; exact k1
  have v12 : uN r < 64 := by rw [g15, uN_and, c4', and_63]; exact Nat.mod_lt _ (by decide)
  rw [uN_ti (by (first | decide +kernel | omega)), v11]
def ct (p : Nat → Bool) : Nat → Nat
  | 0 => 0
  | n + 1 => ct p n + (if p n then 1 else 0)
theorem ct_cg {p q : Nat → Bool} : ∀ n : Nat, (∀ i : Nat, i < n → p i = q i) → ct p n = ct q n := by
  intro n
  induction n with
  | zero => intro _; rfl
  | succ n ih => intro h; show ct p n + _ = ct q n + _; rw [ih (fun i hi => h i (by (first | decide +kernel | omega))), h n (by (first | decide +kernel | omega))]
theorem ct_up {p : Nat → Bool} {m : Nat} : ∀ k : Nat, (∀ i : Nat, m ≤ i → i < m + k → p i = false) → ct p (m + k) = ct p m := by
  intro k
  induction k with
  | zero => intro _; rfl
  | succ k ih =>
    intro h
    show ct p (m + k) + (if p (m + k) then 1 else 0) = _
    rw [ih (fun i a b => h i a (by (first | decide +kernel | omega))), h (m + k) (by (first | decide +kernel | omega)) (by (first | decide +kernel | omega))]
    rfl
theorem pcN_top : ∀ k n : Nat, pcN (k + 1) n = pcN k n + n / 2 ^ k % 2 := by
  intro k
  induction k with
  | zero => intro n; show n % 2 + 0 = 0 + n / 1 % 2; omega
  | succ k ih =>
    intro n
    show n % 2 + pcN (k + 1) (n / 2) = (n % 2 + pcN k (n / 2)) + n / 2 ^ (k + 1) % 2
    rw [ih (n / 2), Nat.div_div_eq_div_mul, show 2 * 2 ^ k = 2 ^ (k + 1) by rw [Nat.pow_succ]; omega]
    omega
theorem pcN_ct (n : Nat) : ∀ k : Nat, pcN k n = ct (fun j => n.testBit j) k := by
  intro k
  induction k with
  | zero => rfl
  | succ k ih =>
    rw [pcN_top, ih]
    show _ = ct _ k + (if n.testBit k then 1 else 0)
    rw [Nat.testBit_eq_decide_div_mod_eq]
    have : n / 2 ^ k % 2 < 2 := Nat.mod_lt _ (by decide)
    by_cases q : n / 2 ^ k % 2 = 1
    · rw [decide_eq_true q, q]; rfl
    · rw [decide_eq_false q, show n / 2 ^ k % 2 = 0 by (first | decide +kernel | omega)]; rfl
def BS (x : Int32) (p : Nat → Bool) : Prop := ∀ j : Nat, (uN x).testBit j = p j
theorem BS_cg {x : Int32} {p q : Nat → Bool} (b : BS x p) (h : ∀ j : Nat, p j = q j) : BS x q := fun j => (b j).trans (h j)
theorem BS_0 : BS 0 (fun _ => false) := fun j => by
  show (uN 0).testBit j = false
  rw [show uN 0 = 0 by decide]
  exact Nat.zero_testBit j
theorem BS_or {x y : Int32} {p q : Nat → Bool} (a : BS x p) (b : BS y q) : BS (x ||| y) (fun j => p j || q j) := fun j => by rw [uN_or, Nat.testBit_or, a j, b j]
theorem i32_of {i : Int32} {I : Int} (iE : i.toInt = I) (h : 0 ≤ I ∧ I < 32) : i = Int32.ofNat I.toNat := by
  refine Int32.toInt_inj.mp ?_
  rw [Int32.toInt_ofNat_of_lt (by (first | decide +kernel | omega)), iE]
  omega
theorem one_sh : ∀ k, k < 32 → uN ((1 : Int32) <<< (Int32.ofNat k &&& 31)) = 2 ^ k := by decide +kernel
theorem BS_one {i : Int32} {I : Int} (iE : i.toInt = I) (h : 0 ≤ I ∧ I < 32) : BS (1 <<< (i &&& 31)) (fun j => decide (j = I.toNat)) := fun j => by
  rw [i32_of iE h, one_sh _ (by (first | decide +kernel | omega)), Nat.testBit_two_pow]
  exact decide_eq_decide.mpr eq_comm
theorem BS_ct {x : Int32} {p : Nat → Bool} (b : BS x p) : pcN 32 (uN x) = ct p 32 := by
  rw [pcN_ct]
  exact ct_cg 32 (fun i _ => b i)
def WQ (w b : Nat → Int32) (n : Int) (j : Nat) : Bool := decide ((j : Int) < n ∧ 0 < (w j).toInt ∧ (w j).toInt ≤ (b j).toInt)
theorem WQ_0 {w b : Nat → Int32} : BS 0 (WQ w b 0) := BS_cg BS_0 (fun j => (decide_eq_false (by (first | decide +kernel | omega))).symm)
theorem WQ_1 {w b : Nat → Int32} {x c s y : Int32} {n : Int} (r : BS x (WQ w b n)) (cE : c.toInt = n) (hn : 0 ≤ n ∧ n < 32) (g : 0 < (w n.toNat).toInt ∧ (w n.toNat).toInt ≤ (b n.toNat).toInt) (e1 : s = 1 <<< (c &&& 31)) (e2 : y = x ||| s) : BS y (WQ w b (n + 1)) := by
  rw [e2, e1]
  refine BS_cg (BS_or r (BS_one cE hn)) (fun j => ?_)
  unfold WQ
  by_cases q : j = n.toNat
  · subst q
    rw [decide_eq_true rfl, Bool.or_true, decide_eq_true ⟨by (first | decide +kernel | omega), g⟩]
  · rw [decide_eq_false q, Bool.or_false]
    exact decide_eq_decide.mpr ⟨fun k => ⟨by (first | decide +kernel | omega), k.2⟩, fun k => ⟨by (first | decide +kernel | omega), k.2⟩⟩
theorem WQ_n {w b : Nat → Int32} {x : Int32} {n : Int} (r : BS x (WQ w b n)) (hn : 0 ≤ n) (g : ¬ (0 < (w n.toNat).toInt ∧ (w n.toNat).toInt ≤ (b n.toNat).toInt)) : BS x (WQ w b (n + 1)) := by
  refine BS_cg r (fun j => ?_)
  unfold WQ
  refine decide_eq_decide.mpr ⟨fun k => ⟨by (first | decide +kernel | omega), k.2⟩, fun k => ⟨?_, k.2⟩⟩
  by_cases q : j = n.toNat
  · subst q; exact absurd k.2 g
  · omega
theorem WQ_ct {w b : Nat → Int32} {n : Int} (hn : 0 ≤ n ∧ n ≤ 32) : ct (WQ w b n) 32 = ct (WQ w b n) n.toNat := by
  have := ct_up (p := WQ w b n) (m := n.toNat) (32 - n.toNat) (fun i a _ => decide_eq_false (by (first | decide +kernel | omega)))
  rw [show n.toNat + (32 - n.toNat) = 32 by (first | decide +kernel | omega)] at this
  exact this
theorem WQ_cg {w b w2 b2 : Nat → Int32} {n : Int} (hw : ∀ i : Nat, (i : Int) < n → w i = w2 i) (hb : ∀ i : Nat, (i : Int) < n → b i = b2 i) (j : Nat) : WQ w b n j = WQ w2 b2 n j := by
  unfold WQ
  by_cases q : (j : Int) < n
  · rw [hw j q, hb j q]
  · exact decide_eq_decide.mpr ⟨fun k => absurd k.1 q, fun k => absurd k.1 q⟩
theorem ct_s {p : Nat → Bool} {n : Int} {a f : Int} (hn : 0 ≤ n) (h : a = (ct p n.toNat : Nat)) (hf : f = if p n.toNat then 1 else 0) : a + f = (ct p (n + 1).toNat : Nat) := by
  rw [show (n + 1).toNat = n.toNat + 1 by (first | decide +kernel | omega)]
  show _ = ((ct p n.toNat + (if p n.toNat then 1 else 0) : Nat) : Int)
  rw [h, hf]
  split <;> rfl
end
section
theorem WQ_fm {h : Hp} {n N R F : Int} {r z : Int32} (hn : 0 ≤ n ∧ n < N) (a : r.toInt = 1 ∧ bW (h.1 117 (0 + n).toNat) (h.1 117 (64 + n).toNat) ∨ r.toInt = 0 ∧ ¬ bW (h.1 117 (0 + n).toNat) (h.1 117 (64 + n).toNat)) (rE : r.toInt = R) (f : R ≠ 0 ∧ z.toInt = 1 ∨ R = 0 ∧ z.toInt = 0) (zE : z.toInt = F) : F = if WQ (fun i => h.1 117 i) (fun i => h.1 117 (64 + i)) N n.toNat then 1 else 0 := by
  rw [show (0 + n).toNat = n.toNat by (first | decide +kernel | omega), show (64 + n).toNat = 64 + n.toNat by (first | decide +kernel | omega)] at a
  have hW : WQ (fun i => h.1 117 i) (fun i => h.1 117 (64 + i)) N n.toNat = decide (((n.toNat : Nat) : Int) < N ∧ 0 < (h.1 117 n.toNat).toInt ∧ (h.1 117 n.toNat).toInt ≤ (h.1 117 (64 + n.toNat)).toInt) := rfl
  rcases a with ⟨a1, a2⟩ | ⟨a1, a2⟩
  · rw [hW, decide_eq_true ⟨by (first | decide +kernel | omega), a2⟩, if_pos rfl]; omega
  · rw [hW, decide_eq_false (fun k => a2 k.2), if_neg (by decide)]; omega
def CL (G : Prop) (a : Int) (f : Nat → Int32) (r : Int32) : Prop := ¬ (G ∧ 0 ≤ a ∧ a ≤ 5) ∧ r.toInt = -1 ∨ (G ∧ 0 ≤ a ∧ a ≤ 4) ∧ r = f a.toNat ∨ (G ∧ a = 5) ∧ (bW (f 0) (f 4) ∧ r.toInt = 1 ∨ ¬ bW (f 0) (f 4) ∧ r.toInt = 0)
theorem bc_sw {w b r z : Int32} {R : Int} (a : r.toInt = 1 ∧ bW w b ∨ r.toInt = 0 ∧ ¬ bW w b) (rE : r.toInt = R) (f : R ≠ 0 ∧ z.toInt = 1 ∨ R = 0 ∧ z.toInt = 0) : bW w b ∧ z.toInt = 1 ∨ ¬ bW w b ∧ z.toInt = 0 := by
  rcases a with ⟨a1, a2⟩ | ⟨a1, a2⟩
  · exact Or.inl ⟨a2, by (first | decide +kernel | omega)⟩
  · exact Or.inr ⟨a2, by (first | decide +kernel | omega)⟩
def BQ (b : Nat → Int32) (d n : Int) (j : Nat) : Bool := decide ((j : Int) < n ∧ d ≤ (b j).toInt)
theorem BQ_0 {b : Nat → Int32} {d : Int} : BS 0 (BQ b d 0) := BS_cg BS_0 (fun j => (decide_eq_false (by (first | decide +kernel | omega))).symm)
theorem BQ_1 {b : Nat → Int32} {x c s y z : Int32} {d n Y : Int} (r : BS x (BQ b d n)) (cE : c.toInt = n) (hn : 0 ≤ n ∧ n < 32) (ye : z = b n.toNat) (yE : z.toInt = Y) (g : d ≤ Y) (e1 : s = 1 <<< (c &&& 31)) (e2 : y = x ||| s) : BS y (BQ b d (n + 1)) := by
  rw [e2, e1]
  refine BS_cg (BS_or r (BS_one cE hn)) (fun j => ?_)
  unfold BQ
  by_cases q : j = n.toNat
  · subst q
    rw [decide_eq_true rfl, Bool.or_true, decide_eq_true ⟨by (first | decide +kernel | omega), by rw [← ye, yE]; exact g⟩]
  · rw [decide_eq_false q, Bool.or_false]
    exact decide_eq_decide.mpr ⟨fun k => ⟨by (first | decide +kernel | omega), k.2⟩, fun k => ⟨by (first | decide +kernel | omega), k.2⟩⟩
theorem BQ_n {b : Nat → Int32} {x z : Int32} {d n Y : Int} (r : BS x (BQ b d n)) (hn : 0 ≤ n) (ye : z = b n.toNat) (yE : z.toInt = Y) (g : Y < d) : BS x (BQ b d (n + 1)) := by
  refine BS_cg r (fun j => ?_)
  unfold BQ
  refine decide_eq_decide.mpr ⟨fun k => ⟨by (first | decide +kernel | omega), k.2⟩, fun k => ⟨?_, k.2⟩⟩
  by_cases q : j = n.toNat
  · subst q
    have := k.2
    rw [← ye, yE] at this
    omega
  · omega
theorem BQ_ct {b : Nat → Int32} {d n : Int} (hn : 0 ≤ n ∧ n ≤ 32) : ct (BQ b d n) 32 = ct (BQ b d n) n.toNat := by
  have := ct_up (p := BQ b d n) (m := n.toNat) (32 - n.toNat) (fun i a _ => decide_eq_false (by (first | decide +kernel | omega)))
  rw [show n.toNat + (32 - n.toNat) = 32 by (first | decide +kernel | omega)] at this
  exact this
theorem BQ_cg {b b2 : Nat → Int32} {d n : Int} (hb : ∀ i : Nat, (i : Int) < n → b i = b2 i) (j : Nat) : BQ b d n j = BQ b2 d n j := by
  unfold BQ
  by_cases q : (j : Int) < n
  · rw [hb j q]
  · exact decide_eq_decide.mpr ⟨fun k => absurd k.1 q, fun k => absurd k.1 q⟩
theorem BQ_fm {h : Hp} {n N Y R F : Int} {y z : Int32} (hn : 0 ≤ n ∧ n < N) (ye : y = h.1 117 (64 + n).toNat) (yE : y.toInt = Y) (a : R = 1 ∧ 0 < Y ∨ R = 0 ∧ Y ≤ 0) (f : R ≠ 0 ∧ z.toInt = 1 ∨ R = 0 ∧ z.toInt = 0) (zE : z.toInt = F) : F = if BQ (fun i => h.1 117 (64 + i)) 1 N n.toNat then 1 else 0 := by
  rw [show (64 + n).toNat = 64 + n.toNat by (first | decide +kernel | omega)] at ye
  have hW : BQ (fun i => h.1 117 (64 + i)) 1 N n.toNat = decide (((n.toNat : Nat) : Int) < N ∧ 1 ≤ (h.1 117 (64 + n.toNat)).toInt) := rfl
  rw [hW, ← ye, yE]
  by_cases q : 1 ≤ Y
  · rw [decide_eq_true ⟨by (first | decide +kernel | omega), q⟩, if_pos rfl]; omega
  · rw [decide_eq_false (fun k => q k.2), if_neg (by decide)]; omega
def sm (p : Nat → Int32) : Nat → Int32
  | 0 => 0
  | n + 1 => sm p n + p n
theorem sm_s {p : Nat → Int32} {n : Int} {a y z : Int32} (hn : 0 ≤ n) (h : a = sm p n.toNat) (ye : y = p n.toNat) (e : z = a + y) : z = sm p (n + 1).toNat := by
  rw [show (n + 1).toNat = n.toNat + 1 by (first | decide +kernel | omega)]
  show z = sm p n.toNat + p n.toNat
  rw [e, h, ye]
theorem sm_cg {p q : Nat → Int32} : ∀ n : Nat, (∀ i : Nat, i < n → p i = q i) → sm p n = sm q n := by
  intro n
  induction n with
  | zero => intro _; rfl
  | succ n ih => intro h; show sm p n + p n = sm q n + q n; rw [ih (fun i hi => h i (by (first | decide +kernel | omega))), h n (by (first | decide +kernel | omega))]
end
section
abbrev q_Int_bitCountX (h : Hp) (v : Int32) (vZ : Int) : Option Value → Hp → Prop := pInt (fun r h' => h = h' ∧ (r.toInt = (pcN 32 (uN v) : Nat)))
set_option maxRecDepth 100000 in
theorem c_Int_bitCountX (h : Hp) (v : Int32) (vZ : Int) (vE : v.toInt = vZ) : Ct y_Int_bitCount b_Int_bitCount 1 (some .int) 0 0 [.int v] h (q_Int_bitCountX h v vZ) := by
  refine ct_ow R_Int [some (.int v)] rfl (by decide) rfl (Nat.le_of_ble_eq_true rfl) ?_
  have f0 : fr [] h h := fr_rf
  refine V_iload_n 0 d_Int_bitCount_0 rfl rfl ?_
  refine V_iload_n 0 d_Int_bitCount_1 rfl rfl ?_
  refine V_iconst 1 d_Int_bitCount_2 (by decide) ?_
  refine N_iushr d_Int_bitCount_3 (fun z1 z1Z z1E z1e => ?_)
  refine V_ldcw d_Int_bitCount_4 wc_Int_265 ?_
  refine N_iand d_Int_bitCount_7 (fun z2 z2Z z2E z2e => ?_)
  refine N_isubw d_Int_bitCount_8 (fun z3 z3Z z3E z3e => ?_)
  refine V_istore_n 0 [some (.int z3)] d_Int_bitCount_9 rfl (by decide) rfl rfl ?_
  refine V_iload_n 0 d_Int_bitCount_10 rfl rfl ?_
  refine V_ldcw d_Int_bitCount_11 wc_Int_266 ?_
  refine N_iand d_Int_bitCount_14 (fun z4 z4Z z4E z4e => ?_)
  refine V_iload_n 0 d_Int_bitCount_15 rfl rfl ?_
  refine V_iconst 2 d_Int_bitCount_16 (by decide) ?_
  refine N_iushr d_Int_bitCount_17 (fun z5 z5Z z5E z5e => ?_)
  refine V_ldcw d_Int_bitCount_18 wc_Int_266 ?_
  refine N_iand d_Int_bitCount_21 (fun z6 z6Z z6E z6e => ?_)
  refine N_iaddw d_Int_bitCount_22 (fun z7 z7Z z7E z7e => ?_)
  refine V_istore_n 0 [some (.int z7)] d_Int_bitCount_23 rfl (by decide) rfl rfl ?_
  refine V_iload_n 0 d_Int_bitCount_24 rfl rfl ?_
  refine V_iload_n 0 d_Int_bitCount_25 rfl rfl ?_
  refine V_iconst 4 d_Int_bitCount_26 (by decide) ?_
  refine N_iushr d_Int_bitCount_27 (fun z8 z8Z z8E z8e => ?_)
  refine N_iaddw d_Int_bitCount_28 (fun z9 z9Z z9E z9e => ?_)
  refine V_ldcw d_Int_bitCount_29 wc_Int_267 ?_
  refine N_iand d_Int_bitCount_32 (fun z10 z10Z z10E z10e => ?_)
  refine V_istore_n 0 [some (.int z10)] d_Int_bitCount_33 rfl (by decide) rfl rfl ?_
  refine V_iload_n 0 d_Int_bitCount_34 rfl rfl ?_
  refine V_iload_n 0 d_Int_bitCount_35 rfl rfl ?_
  refine V_bipush 8 d_Int_bitCount_36 (by decide) ?_
  refine N_iushr d_Int_bitCount_38 (fun z11 z11Z z11E z11e => ?_)
  refine N_iaddw d_Int_bitCount_39 (fun z12 z12Z z12E z12e => ?_)
  refine V_istore_n 0 [some (.int z12)] d_Int_bitCount_40 rfl (by decide) rfl rfl ?_
  refine V_iload_n 0 d_Int_bitCount_41 rfl rfl ?_
  refine V_iload_n 0 d_Int_bitCount_42 rfl rfl ?_
  refine V_bipush 16 d_Int_bitCount_43 (by decide) ?_
  refine N_iushr d_Int_bitCount_45 (fun z13 z13Z z13E z13e => ?_)
  refine N_iaddw d_Int_bitCount_46 (fun z14 z14Z z14E z14e => ?_)
  refine V_istore_n 0 [some (.int z14)] d_Int_bitCount_47 rfl (by decide) rfl rfl ?_
  refine V_iload_n 0 d_Int_bitCount_48 rfl rfl ?_
  refine V_bipush 63 d_Int_bitCount_49 (by decide) ?_
  refine N_iand d_Int_bitCount_51 (fun z15 z15Z z15E z15e => ?_)
  exact V_iret rfl d_Int_bitCount_52 ⟨z15, rfl, ⟨rfl, (bc_of z1e z2e z3e z4e z5e z6e z7e z8e z9e z10e z11e z12e z13e z14e z15e)⟩⟩
abbrev q_Land_wellBitsX_0 (h : Hp) (w : Int32) (wZ : Int) (g : Int32) (gZ : Int) : Option Value → Hp → Prop := pInt (fun r h' => h = h' ∧ (BS r (WQ (h.1 2) (h.1 6) (wZ * gZ))))
set_option maxRecDepth 100000 in
theorem c_Land_wellBitsX_0 (h : Hp) (hI : Inv h) (w : Int32) (wZ : Int) (wE : w.toInt = wZ) (wK : h.1 1 0 = w) (g : Int32) (gZ : Int) (gE : g.toInt = gZ) (gK : h.1 1 1 = g) : Ct y_Land_wellBits b_Land_wellBits 3 (some .int) 1 21 [.ref 1] h (q_Land_wellBitsX_0 h w wZ g gZ) := by
  refine ct_ow R_Land [some (.ref 1), none, none] rfl (by decide) rfl (Nat.le_of_ble_eq_true rfl) ?_
  have f0 : fr [] h h := fr_rf
  have g1 : 2 ≤ wZ ∧ wZ ≤ 4 := inv_at hI wE wK.symm rfl
  have g2 : 2 ≤ gZ ∧ gZ ≤ 4 := inv_at hI gE gK.symm rfl
  have m24 := mul24 (A := wZ) (B := gZ) (by (first | decide +kernel | omega)) (by (first | decide +kernel | omega))
  refine V_iconst 0 d_Land_wellBits_0 (by decide) ?_
  refine V_istore_n 1 [some (.ref 1), some (.int 0), none] d_Land_wellBits_1 rfl (by decide) rfl rfl ?_
  refine V_iconst 0 d_Land_wellBits_2 (by decide) ?_
  refine V_istore_n 2 [some (.ref 1), some (.int 0), some (.int 0)] d_Land_wellBits_3 rfl (by decide) rfl rfl ?_
  have L3 : ∀ (nn : Nat) (v5 : Int32) (v5Z : Int) (v6 : Int32) (v6Z : Int), v5.toInt = v5Z → v6.toInt = v6Z → 0 ≤ v6Z ∧ v6Z ≤ wZ * gZ → BS v5 (WQ (h.1 2) (h.1 6) v6Z) → 16 - v6Z < (nn : Int) → V R_Land b_Land_wellBits 3 (some .int) 1 21 (q_Land_wellBitsX_0 h w wZ g gZ) h 4 [some (.ref 1), some (.int v5), some (.int v6)] [] := by
    intro nn
    induction nn with
    | zero => intro v5 v5Z v6 v6Z v5E v6E q7 q8 hm9; exact absurd hm9 (by (first | decide +kernel | omega))
    | succ nn ihL3 =>
      intro v5 v5Z v6 v6Z v5E v6E q7 q8 hm9
      refine V_iload_n 2 d_Land_wellBits_4 rfl rfl ?_
      refine V_aload_n 0 d_Land_wellBits_5 rfl rfl ?_
      refine N_callVI [] [.int v6] cv_Land_52 sk_1 rfl d_Land_wellBits_6 rfl (Nat.le_of_ble_eq_true rfl) (by decide) (by decide) (c_Land_cells_0 h hI w wZ wE wK g gZ gE gK) (fun z10 h11 z10Z z10E p12 => ?_)
      obtain ⟨eh11, p12⟩ := p12
      subst eh11
      refine V_icmp_ge 32 v6E z10E d_Land_wellBits_9 (by decide) (fun c13 => ?_) (fun c13 => ?_)
      ·
        refine V_iload_n 1 d_Land_wellBits_32 rfl rfl ?_
        exact V_iret rfl d_Land_wellBits_33 ⟨v5, rfl, ⟨rfl, (by rw [show wZ * gZ = v6Z by (first | decide +kernel | omega)]; assumption)⟩⟩
      ·
        refine V_aload_n 0 d_Land_wellBits_12 rfl rfl ?_
        refine V_iload_n 2 d_Land_wellBits_13 rfl rfl ?_
        refine N_callVI [.int v6] [] cv_Land_56 sk_1 rfl d_Land_wellBits_14 rfl (Nat.le_of_ble_eq_true rfl) (by decide) (by decide) (c_Land_isWellX_0 h hI v6 v6Z v6E (by (first | decide +kernel | omega))) (fun z14 h15 z14Z z14E p16 => ?_)
        obtain ⟨eh15, p16⟩ := p16
        subst eh15
        refine V_if_eq 26 z14E d_Land_wellBits_17 (by decide) (fun c17 => ?_) (fun c17 => ?_)
        ·
          obtain ⟨z18, z18E, z18e⟩ : ∃ y : Int32, y.toInt = v6Z + 1 ∧ y = v6 + Int32.ofInt 1 := ⟨_, ti_add v6E (by decide) (by (first | decide +kernel | omega)), rfl⟩
          refine V_iinc 2 [some (.ref 1), some (.int v5), some (.int z18)] d_Land_wellBits_26 rfl z18e.symm (by decide) rfl rfl ?_
          refine V_goto 4 d_Land_wellBits_29 (by decide) ?_
          exact ihL3 v5 v5Z z18 ((v6Z + 1)) v5E z18E (by (first | decide +kernel | omega)) (WQ_n (by assumption) (by (first | decide +kernel | omega)) (p16.resolve_left (fun q => absurd q.1 (by (first | decide +kernel | omega)))).2) (by (first | decide +kernel | omega))
        ·
          refine V_iload_n 1 d_Land_wellBits_20 rfl rfl ?_
          refine V_iconst 1 d_Land_wellBits_21 (by decide) ?_
          refine V_iload_n 2 d_Land_wellBits_22 rfl rfl ?_
          refine N_ishl d_Land_wellBits_23 (fun z19 z19Z z19E z19e => ?_)
          refine N_ior d_Land_wellBits_24 (fun z20 z20Z z20E z20e => ?_)
          refine V_istore_n 1 [some (.ref 1), some (.int z20), some (.int v6)] d_Land_wellBits_25 rfl (by decide) rfl rfl ?_
          obtain ⟨z21, z21E, z21e⟩ : ∃ y : Int32, y.toInt = v6Z + 1 ∧ y = v6 + Int32.ofInt 1 := ⟨_, ti_add v6E (by decide) (by (first | decide +kernel | omega)), rfl⟩
          refine V_iinc 2 [some (.ref 1), some (.int z20), some (.int z21)] d_Land_wellBits_26 rfl z21e.symm (by decide) rfl rfl ?_
          refine V_goto 4 d_Land_wellBits_29 (by decide) ?_
          exact ihL3 z20 z20Z z21 ((v6Z + 1)) z20E z21E (by (first | decide +kernel | omega)) (WQ_1 (by assumption) v6E (by (first | decide +kernel | omega)) (p16.resolve_right (fun q => absurd q.1 (by (first | decide +kernel | omega)))).2 z19e z20e) (by (first | decide +kernel | omega))
  exact L3 (Int.toNat ((16 - 0 : Int) + 1)) 0 0 0 0 tc_0 tc_0 (by (first | decide +kernel | omega)) WQ_0 (by (first | decide +kernel | omega))
abbrev q_Land_wellsX_0 (h : Hp) (w : Int32) (wZ : Int) (g : Int32) (gZ : Int) : Option Value → Hp → Prop := pInt (fun r h' => h = h' ∧ (r.toInt = (ct (WQ (h.1 2) (h.1 6) (wZ * gZ)) 32 : Nat)))
set_option maxRecDepth 100000 in
theorem c_Land_wellsX_0 (h : Hp) (hI : Inv h) (w : Int32) (wZ : Int) (wE : w.toInt = wZ) (wK : h.1 1 0 = w) (g : Int32) (gZ : Int) (gE : g.toInt = gZ) (gK : h.1 1 1 = g) : Ct y_Land_wells b_Land_wells 1 (some .int) 2 43 [.ref 1] h (q_Land_wellsX_0 h w wZ g gZ) := by
  refine ct_ow R_Land [some (.ref 1)] rfl (by decide) rfl (Nat.le_of_ble_eq_true rfl) ?_
  have f0 : fr [] h h := fr_rf
  have g1 : 2 ≤ wZ ∧ wZ ≤ 4 := inv_at hI wE wK.symm rfl
  have g2 : 2 ≤ gZ ∧ gZ ≤ 4 := inv_at hI gE gK.symm rfl
  refine V_aload_n 0 d_Land_wells_0 rfl rfl ?_
  refine N_callVI [] [] cv_Land_60 sk_1 rfl d_Land_wells_1 rfl (Nat.le_of_ble_eq_true rfl) (by decide) (by decide) (c_Land_wellBitsX_0 h hI w wZ wE wK g gZ gE gK) (fun z3 h4 z3Z z3E p5 => ?_)
  obtain ⟨eh4, p5⟩ := p5
  subst eh4
  refine N_callSI [.int z3] [] cs_Land_63 d_Land_wells_4 rfl (Nat.le_of_ble_eq_true rfl) (by decide) (by decide) (c_Int_bitCountX h z3 z3Z z3E) (fun z6 h7 z6Z z6E p8 => ?_)
  obtain ⟨eh7, p8⟩ := p8
  subst eh7
  exact V_iret rfl d_Land_wells_7 ⟨z6, rfl, ⟨rfl, (p8.trans (congrArg (fun q : Nat => (q : Int)) (BS_ct p5)))⟩⟩
abbrev q_Mod_wellsX (h : Hp) (w : Int32) (wZ : Int) (g : Int32) (gZ : Int) : Option Value → Hp → Prop := pInt (fun r h' => h = h' ∧ (r.toInt = (ct (WQ (fun i => h.1 117 i) (fun i => h.1 117 (64 + i)) (wZ * gZ)) (wZ * gZ).toNat : Nat)))
set_option maxRecDepth 100000 in
theorem c_Mod_wellsX (h : Hp) (hI : Inv h) (w : Int32) (wZ : Int) (wE : w.toInt = wZ) (wK : h.1 116 2 = w) (g : Int32) (gZ : Int) (gE : g.toInt = gZ) (gK : h.1 116 3 = g) : Ct y_Mod_wells b_Mod_wells 3 (some .int) 2 42 [.ref 116] h (q_Mod_wellsX h w wZ g gZ) := by
  refine ct_ow R_Mod [some (.ref 116), none, none] rfl (by decide) rfl (Nat.le_of_ble_eq_true rfl) ?_
  have f0 : fr [] h h := fr_rf
  have g1 : 2 ≤ wZ ∧ wZ ≤ 4 := inv_at hI wE wK.symm rfl
  have g2 : 2 ≤ gZ ∧ gZ ≤ 4 := inv_at hI gE gK.symm rfl
  have m24 := mul24 (A := wZ) (B := gZ) (by (first | decide +kernel | omega)) (by (first | decide +kernel | omega))
  refine V_iconst 0 d_Mod_wells_0 (by decide) ?_
  refine V_istore_n 1 [some (.ref 116), some (.int 0), none] d_Mod_wells_1 rfl (by decide) rfl rfl ?_
  refine V_iconst 0 d_Mod_wells_2 (by decide) ?_
  refine V_istore_n 2 [some (.ref 116), some (.int 0), some (.int 0)] d_Mod_wells_3 rfl (by decide) rfl rfl ?_
  have L3 : ∀ (nn : Nat) (v5 : Int32) (v5Z : Int) (v6 : Int32) (v6Z : Int), v5.toInt = v5Z → v6.toInt = v6Z → 0 ≤ v6Z ∧ v6Z ≤ wZ * gZ → v5Z = (ct (WQ (fun i => h.1 117 i) (fun i => h.1 117 (64 + i)) (wZ * gZ)) (v6Z).toNat : Nat) → 0 ≤ v5Z ∧ v5Z ≤ v6Z → 16 - v6Z < (nn : Int) → V R_Mod b_Mod_wells 3 (some .int) 2 42 (q_Mod_wellsX h w wZ g gZ) h 4 [some (.ref 116), some (.int v5), some (.int v6)] [] := by
    intro nn
    induction nn with
    | zero => intro v5 v5Z v6 v6Z v5E v6E q7 q8 q9 hm10; exact absurd hm10 (by (first | decide +kernel | omega))
    | succ nn ihL3 =>
      intro v5 v5Z v6 v6Z v5E v6E q7 q8 q9 hm10
      refine V_iload_n 2 d_Mod_wells_4 rfl rfl ?_
      refine V_aload_n 0 d_Mod_wells_5 rfl rfl ?_
      refine N_callVI [] [.int v6] cv_Mod_183 sk_116 rfl d_Mod_wells_6 rfl (Nat.le_of_ble_eq_true rfl) (by decide) (by decide) (c_Mod_cellMany h hI w wZ wE wK g gZ gE gK) (fun z11 h12 z11Z z11E p13 => ?_)
      obtain ⟨eh12, p13⟩ := p13
      subst eh12
      refine V_icmp_ge 29 v6E z11E d_Mod_wells_9 (by decide) (fun c14 => ?_) (fun c14 => ?_)
      ·
        refine V_iload_n 1 d_Mod_wells_29 rfl rfl ?_
        exact V_iret rfl d_Mod_wells_30 ⟨v5, rfl, ⟨rfl, (by rw [v5E, show (wZ * gZ).toNat = (v6Z).toNat by (first | decide +kernel | omega)]; assumption)⟩⟩
      ·
        refine V_iload_n 1 d_Mod_wells_12 rfl rfl ?_
        refine V_aload_n 0 d_Mod_wells_13 rfl rfl ?_
        refine V_iload_n 2 d_Mod_wells_14 rfl rfl ?_
        refine N_callVI [.int v6] [.int v5] cv_Mod_192 sk_116 rfl d_Mod_wells_15 rfl (Nat.le_of_ble_eq_true rfl) (by decide) (by decide) (c_Mod_isWellX h hI v6 v6Z v6E (by (first | decide +kernel | omega))) (fun z15 h16 z15Z z15E p17 => ?_)
        obtain ⟨eh16, p17⟩ := p17
        subst eh16
        refine N_callSI [.int z15] [.int v5] cs_Mod_196 d_Mod_wells_18 rfl (Nat.le_of_ble_eq_true rfl) (by decide) (by decide) (c_Mod_flag h z15 z15Z z15E) (fun z18 h19 z18Z z18E p20 => ?_)
        obtain ⟨eh19, p20⟩ := p20
        subst eh19
        refine V_iadd v5E z18E (by (first | decide +kernel | omega)) d_Mod_wells_21 (fun z21 z21e z21E => ?_)
        refine V_istore_n 1 [some (.ref 116), some (.int z21), some (.int v6)] d_Mod_wells_22 rfl (by decide) rfl rfl ?_
        obtain ⟨z22, z22E, z22e⟩ : ∃ y : Int32, y.toInt = v6Z + 1 ∧ y = v6 + Int32.ofInt 1 := ⟨_, ti_add v6E (by decide) (by (first | decide +kernel | omega)), rfl⟩
        refine V_iinc 2 [some (.ref 116), some (.int z21), some (.int z22)] d_Mod_wells_23 rfl z22e.symm (by decide) rfl rfl ?_
        refine V_goto 4 d_Mod_wells_26 (by decide) ?_
        exact ihL3 z21 ((v5Z + z18Z)) z22 ((v6Z + 1)) z21E z22E (by (first | decide +kernel | omega)) (ct_s (by (first | decide +kernel | omega)) (by assumption) (WQ_fm (by (first | decide +kernel | omega)) p17 z15E p20 z18E)) (by (first | decide +kernel | omega)) (by (first | decide +kernel | omega))
  exact L3 (Int.toNat ((16 - 0 : Int) + 1)) 0 0 0 0 tc_0 tc_0 (by (first | decide +kernel | omega)) rfl (by (first | decide +kernel | omega)) (by (first | decide +kernel | omega))
abbrev q_Rod_cellX (h : Hp) (c : Int32) (cZ : Int) (a : Int32) (aZ : Int) (w : Int32) (wZ : Int) (g : Int32) (gZ : Int) : Option Value → Hp → Prop := pInt (fun r h' => h = h' ∧ (CL (0 ≤ cZ ∧ cZ < wZ * gZ) aZ (fun j => h.1 (2 + j) cZ.toNat) r))
set_option maxRecDepth 100000 in
theorem c_Rod_cellX (h : Hp) (hI : Inv h) (c : Int32) (cZ : Int) (cE : c.toInt = cZ) (a : Int32) (aZ : Int) (aE : a.toInt = aZ) (w : Int32) (wZ : Int) (wE : w.toInt = wZ) (wK : h.1 1 0 = w) (g : Int32) (gZ : Int) (gE : g.toInt = gZ) (gK : h.1 1 1 = g) : Ct y_Rod_cell b_Rod_cell 4 (some .int) 2 41 [.ref 85, .int c, .int a] h (q_Rod_cellX h c cZ a aZ w wZ g gZ) := by
  refine ct_ow R_Rod [some (.ref 85), some (.int c), some (.int a), none] rfl (by decide) rfl (Nat.le_of_ble_eq_true rfl) ?_
  have f0 : fr [] h h := fr_rf
  have g1 : 2 ≤ wZ ∧ wZ ≤ 4 := inv_at hI wE wK.symm rfl
  have g2 : 2 ≤ gZ ∧ gZ ≤ 4 := inv_at hI gE gK.symm rfl
  refine V_aload_n 0 d_Rod_cell_0 rfl rfl ?_
  refine V_getR fa_Rod_12 sk_85 rfl d_Rod_cell_1 ?_
  refine V_getR fa_Rod_91 sk_0 rfl d_Rod_cell_4 ?_
  refine V_astore_n 3 [some (.ref 85), some (.int c), some (.int a), some (.ref 1)] d_Rod_cell_7 rfl (by decide) rfl rfl ?_
  refine V_aload_n 3 d_Rod_cell_8 rfl rfl ?_
  refine V_iload_n 1 d_Rod_cell_9 rfl rfl ?_
  refine N_callVI [.int c] [] cv_Rod_124 sk_1 rfl d_Rod_cell_10 rfl (Nat.le_of_ble_eq_true rfl) (by decide) (by decide) (c_Land_hasX_0 h hI c cZ cE w wZ wE wK g gZ gE gK) (fun z3 h4 z3Z z3E p5 => ?_)
  obtain ⟨eh4, p5⟩ := p5
  subst eh4
  refine V_if_ne 18 z3E d_Rod_cell_13 (by decide) (fun c6 => ?_) (fun c6 => ?_)
  ·
    refine V_iload_n 2 d_Rod_cell_18 rfl rfl ?_
    rcases (by (first | decide +kernel | omega) : (aZ < 0 ∨ 5 < aZ) ∨ aZ = 0 ∨ aZ = 1 ∨ aZ = 2 ∨ aZ = 3 ∨ aZ = 4 ∨ aZ = 5) with c7 | c7 | c7 | c7 | c7 | c7 | c7
    ·
      refine V_tabOut 100 aE d_Rod_cell_19 c7 (by decide) ?_
      refine V_iconst (-1) d_Rod_cell_100 (by decide) ?_
      exact V_iret rfl d_Rod_cell_101 ⟨(-1), rfl, ⟨rfl, (Or.inl ⟨by (first | decide +kernel | omega), tc_m1⟩)⟩⟩
    ·
      refine V_tabIn 56 aE d_Rod_cell_19 (by (first | decide +kernel | omega)) (by (first | decide +kernel | omega)) (by rw [c7]; rfl) (by decide) ?_
      refine V_aload_n 3 d_Rod_cell_56 rfl rfl ?_
      refine V_getR fa_Rod_128 sk_1 rfl d_Rod_cell_57 ?_
      refine V_iload_n 1 d_Rod_cell_60 rfl rfl ?_
      refine N_iald sk_2 cE (by (first | decide +kernel | omega)) d_Rod_cell_61 (fun z8 z8Z z8E z8e => ?_)
      exact V_iret rfl d_Rod_cell_62 ⟨z8, rfl, ⟨rfl, (Or.inr (Or.inl ⟨by (first | decide +kernel | omega), by rw [show aZ.toNat = 0 by (first | decide +kernel | omega)]; exact z8e⟩))⟩⟩
    ·
      refine V_tabIn 63 aE d_Rod_cell_19 (by (first | decide +kernel | omega)) (by (first | decide +kernel | omega)) (by rw [c7]; rfl) (by decide) ?_
      refine V_aload_n 3 d_Rod_cell_63 rfl rfl ?_
      refine V_getR fa_Rod_132 sk_1 rfl d_Rod_cell_64 ?_
      refine V_iload_n 1 d_Rod_cell_67 rfl rfl ?_
      refine N_iald sk_3 cE (by (first | decide +kernel | omega)) d_Rod_cell_68 (fun z9 z9Z z9E z9e => ?_)
      exact V_iret rfl d_Rod_cell_69 ⟨z9, rfl, ⟨rfl, (Or.inr (Or.inl ⟨by (first | decide +kernel | omega), by rw [show aZ.toNat = 1 by (first | decide +kernel | omega)]; exact z9e⟩))⟩⟩
    ·
      refine V_tabIn 70 aE d_Rod_cell_19 (by (first | decide +kernel | omega)) (by (first | decide +kernel | omega)) (by rw [c7]; rfl) (by decide) ?_
      refine V_aload_n 3 d_Rod_cell_70 rfl rfl ?_
      refine V_getR fa_Rod_135 sk_1 rfl d_Rod_cell_71 ?_
      refine V_iload_n 1 d_Rod_cell_74 rfl rfl ?_
      refine N_iald sk_4 cE (by (first | decide +kernel | omega)) d_Rod_cell_75 (fun z10 z10Z z10E z10e => ?_)
      exact V_iret rfl d_Rod_cell_76 ⟨z10, rfl, ⟨rfl, (Or.inr (Or.inl ⟨by (first | decide +kernel | omega), by rw [show aZ.toNat = 2 by (first | decide +kernel | omega)]; exact z10e⟩))⟩⟩
    ·
      refine V_tabIn 77 aE d_Rod_cell_19 (by (first | decide +kernel | omega)) (by (first | decide +kernel | omega)) (by rw [c7]; rfl) (by decide) ?_
      refine V_aload_n 3 d_Rod_cell_77 rfl rfl ?_
      refine V_getR fa_Rod_138 sk_1 rfl d_Rod_cell_78 ?_
      refine V_iload_n 1 d_Rod_cell_81 rfl rfl ?_
      refine N_iald sk_5 cE (by (first | decide +kernel | omega)) d_Rod_cell_82 (fun z11 z11Z z11E z11e => ?_)
      exact V_iret rfl d_Rod_cell_83 ⟨z11, rfl, ⟨rfl, (Or.inr (Or.inl ⟨by (first | decide +kernel | omega), by rw [show aZ.toNat = 3 by (first | decide +kernel | omega)]; exact z11e⟩))⟩⟩
    ·
      refine V_tabIn 84 aE d_Rod_cell_19 (by (first | decide +kernel | omega)) (by (first | decide +kernel | omega)) (by rw [c7]; rfl) (by decide) ?_
      refine V_aload_n 3 d_Rod_cell_84 rfl rfl ?_
      refine V_getR fa_Rod_141 sk_1 rfl d_Rod_cell_85 ?_
      refine V_iload_n 1 d_Rod_cell_88 rfl rfl ?_
      refine N_iald sk_6 cE (by (first | decide +kernel | omega)) d_Rod_cell_89 (fun z12 z12Z z12E z12e => ?_)
      exact V_iret rfl d_Rod_cell_90 ⟨z12, rfl, ⟨rfl, (Or.inr (Or.inl ⟨by (first | decide +kernel | omega), by rw [show aZ.toNat = 4 by (first | decide +kernel | omega)]; exact z12e⟩))⟩⟩
    ·
      refine V_tabIn 91 aE d_Rod_cell_19 (by (first | decide +kernel | omega)) (by (first | decide +kernel | omega)) (by rw [c7]; rfl) (by decide) ?_
      refine V_aload_n 3 d_Rod_cell_91 rfl rfl ?_
      refine V_iload_n 1 d_Rod_cell_92 rfl rfl ?_
      refine N_callVI [.int c] [] cv_Rod_144 sk_1 rfl d_Rod_cell_93 rfl (Nat.le_of_ble_eq_true rfl) (by decide) (by decide) (c_Land_isWellX_0 h hI c cZ cE (by (first | decide +kernel | omega))) (fun z13 h14 z13Z z13E p15 => ?_)
      obtain ⟨eh14, p15⟩ := p15
      subst eh14
      refine N_callSI [.int z13] [] cs_Rod_147 d_Rod_cell_96 rfl (Nat.le_of_ble_eq_true rfl) (by decide) (by decide) (c_Rod_oneIf h z13 z13Z z13E) (fun z16 h17 z16Z z16E p18 => ?_)
      obtain ⟨eh17, p18⟩ := p18
      subst eh17
      exact V_iret rfl d_Rod_cell_99 ⟨z16, rfl, ⟨rfl, (Or.inr (Or.inr ⟨by (first | decide +kernel | omega), bc_sw p15 z13E p18⟩))⟩⟩
  ·
    refine V_iconst (-1) d_Rod_cell_16 (by decide) ?_
    exact V_iret rfl d_Rod_cell_17 ⟨(-1), rfl, ⟨rfl, (Or.inl ⟨by (first | decide +kernel | omega), tc_m1⟩)⟩⟩
abbrev q_Mod_isWellY (h : Hp) (c : Int32) (cZ : Int) : Option Value → Hp → Prop := pInt (fun r h' => h = h' ∧ (r.toInt = 1 ∧ bW (h.1 117 (16 * 0 + cZ.toNat)) (h.1 117 (16 * 4 + cZ.toNat)) ∨ r.toInt = 0 ∧ ¬ bW (h.1 117 (16 * 0 + cZ.toNat)) (h.1 117 (16 * 4 + cZ.toNat))))
set_option maxRecDepth 100000 in
theorem c_Mod_isWellY (h : Hp) (hI : Inv h) (c : Int32) (cZ : Int) (cE : c.toInt = cZ) (hy0 : 0 ≤ cZ ∧ cZ ≤ 15) : Ct y_Mod_isWell b_Mod_isWell 2 (some .boolean) 1 21 [.ref 116, .int c] h (q_Mod_isWellY h c cZ) := by
  refine ct_ow R_Mod [some (.ref 116), some (.int c)] rfl (by decide) rfl (Nat.le_of_ble_eq_true rfl) ?_
  have f0 : fr [] h h := fr_rf
  obtain ⟨uv, uvZ, uvE, uvK⟩ : ∃ (y : Int32) (Y : Int), y.toInt = Y ∧ h.1 117 ((0 + cZ)).toNat = y := ⟨_, _, rfl, rfl⟩
  obtain ⟨bv, bvZ, bvE, bvK⟩ : ∃ (y : Int32) (Y : Int), y.toInt = Y ∧ h.1 117 ((64 + cZ)).toNat = y := ⟨_, _, rfl, rfl⟩
  refine V_aload_n 0 d_Mod_isWell_0 rfl rfl ?_
  refine V_getR fa_Mod_7 sk_116 rfl d_Mod_isWell_1 ?_
  refine V_iconst 0 d_Mod_isWell_4 (by decide) ?_
  refine V_iload_n 1 d_Mod_isWell_5 rfl rfl ?_
  refine V_iadd tc_0 cE (by (first | decide +kernel | omega)) d_Mod_isWell_6 (fun z1 z1e z1E => ?_)
  refine N_ialdK sk_117 z1E (by (first | decide +kernel | omega)) d_Mod_isWell_7 uvK ?_
  refine V_aload_n 0 d_Mod_isWell_8 rfl rfl ?_
  refine V_getR fa_Mod_7 sk_116 rfl d_Mod_isWell_9 ?_
  refine V_bipush 64 d_Mod_isWell_12 (by decide) ?_
  refine V_iload_n 1 d_Mod_isWell_14 rfl rfl ?_
  refine V_iadd tc_64 cE (by (first | decide +kernel | omega)) d_Mod_isWell_15 (fun z3 z3e z3E => ?_)
  refine N_ialdK sk_117 z3E (by (first | decide +kernel | omega)) d_Mod_isWell_16 bvK ?_
  refine N_callSI [.int uv, .int bv] [] cs_Mod_188 d_Mod_isWell_17 rfl (Nat.le_of_ble_eq_true rfl) (by decide) (by decide) (c_Mod_isWellByX h uv uvZ uvE bv bvZ bvE) (fun z5 h6 z5Z z5E p7 => ?_)
  obtain ⟨eh6, p7⟩ := p7
  subst eh6
  exact V_zret rfl (by rw [z5E]; omega) d_Mod_isWell_20 ⟨z5, rfl, ⟨rfl, (by rw [show 16 * 0 + cZ.toNat = (0 + cZ).toNat by (first | decide +kernel | omega), show 16 * 4 + cZ.toNat = (64 + cZ).toNat by (first | decide +kernel | omega), uvK, bvK]; unfold bW; (try rw [z5E]); omega)⟩⟩
abbrev q_Mod_cellX (h : Hp) (c : Int32) (cZ : Int) (a : Int32) (aZ : Int) (w : Int32) (wZ : Int) (g : Int32) (gZ : Int) : Option Value → Hp → Prop := pInt (fun r h' => h = h' ∧ (CL (0 ≤ cZ ∧ cZ < wZ * gZ) aZ (fun j => h.1 117 (16 * j + cZ.toNat)) r))
set_option maxRecDepth 100000 in
theorem c_Mod_cellX (h : Hp) (hI : Inv h) (c : Int32) (cZ : Int) (cE : c.toInt = cZ) (a : Int32) (aZ : Int) (aE : a.toInt = aZ) (w : Int32) (wZ : Int) (wE : w.toInt = wZ) (wK : h.1 116 2 = w) (g : Int32) (gZ : Int) (gE : g.toInt = gZ) (gK : h.1 116 3 = g) : Ct y_Mod_cell b_Mod_cell 3 (some .int) 2 46 [.ref 116, .int c, .int a] h (q_Mod_cellX h c cZ a aZ w wZ g gZ) := by
  refine ct_ow R_Mod [some (.ref 116), some (.int c), some (.int a)] rfl (by decide) rfl (Nat.le_of_ble_eq_true rfl) ?_
  have f0 : fr [] h h := fr_rf
  have g1 : 2 ≤ wZ ∧ wZ ≤ 4 := inv_at hI wE wK.symm rfl
  have g2 : 2 ≤ gZ ∧ gZ ≤ 4 := inv_at hI gE gK.symm rfl
  refine V_aload_n 0 d_Mod_cell_0 rfl rfl ?_
  refine V_iload_n 1 d_Mod_cell_1 rfl rfl ?_
  refine N_callVI [.int c] [] cv_Mod_200 sk_116 rfl d_Mod_cell_2 rfl (Nat.le_of_ble_eq_true rfl) (by decide) (by decide) (c_Mod_isCellX h hI c cZ cE w wZ wE wK g gZ gE gK) (fun z3 h4 z3Z z3E p5 => ?_)
  obtain ⟨eh4, p5⟩ := p5
  subst eh4
  refine V_if_eq 20 z3E d_Mod_cell_5 (by decide) (fun c6 => ?_) (fun c6 => ?_)
  ·
    refine V_iconst (-1) d_Mod_cell_20 (by decide) ?_
    exact V_iret rfl d_Mod_cell_21 ⟨(-1), rfl, ⟨rfl, (Or.inl ⟨by (first | decide +kernel | omega), tc_m1⟩)⟩⟩
  ·
    refine V_iload_n 2 d_Mod_cell_8 rfl rfl ?_
    refine V_i2l d_Mod_cell_9 (fun z7 z7e z7E => ?_)
    have z7F : z7.toInt = aZ := z7E.trans aE
    refine V_lconst 0 d_Mod_cell_10 (by decide) ?_
    refine V_ldc2 d_Mod_cell_11 wl_Mod_203 ?_
    refine N_callSI [.long z7, .long 0, .long 5] [] cs_Mod_95 d_Mod_cell_14 rfl (Nat.le_of_ble_eq_true rfl) (by decide) (by decide) (c_Mod_in h z7 aZ z7F 0 0 tl_0 5 5 tl_5) (fun z8 h9 z8Z z8E p10 => ?_)
    obtain ⟨eh9, p10⟩ := p10
    subst eh9
    refine V_if_ne 22 z8E d_Mod_cell_17 (by decide) (fun c11 => ?_) (fun c11 => ?_)
    ·
      refine V_iload_n 2 d_Mod_cell_22 rfl rfl ?_
      refine V_iconst 5 d_Mod_cell_23 (by decide) ?_
      refine V_icmp_ne 38 aE tc_5 d_Mod_cell_24 (by decide) (fun c12 => ?_) (fun c12 => ?_)
      ·
        refine V_aload_n 0 d_Mod_cell_38 rfl rfl ?_
        refine V_getR fa_Mod_7 sk_116 rfl d_Mod_cell_39 ?_
        refine V_bipush 16 d_Mod_cell_42 (by decide) ?_
        refine V_iload_n 2 d_Mod_cell_44 rfl rfl ?_
        refine V_imul tc_16 aE (by (first | decide +kernel | omega)) d_Mod_cell_45 (fun z13 z13e z13E => ?_)
        refine V_iload_n 1 d_Mod_cell_46 rfl rfl ?_
        refine V_iadd z13E cE (by (first | decide +kernel | omega)) d_Mod_cell_47 (fun z14 z14e z14E => ?_)
        refine N_iald sk_117 z14E (by (first | decide +kernel | omega)) d_Mod_cell_48 (fun z15 z15Z z15E z15e => ?_)
        exact V_iret rfl d_Mod_cell_49 ⟨z15, rfl, ⟨rfl, (Or.inr (Or.inl ⟨by (first | decide +kernel | omega), by show _ = h.1 117 (16 * aZ.toNat + cZ.toNat); rw [show 16 * aZ.toNat + cZ.toNat = (16 * aZ + cZ).toNat by (first | decide +kernel | omega)]; exact z15e⟩))⟩⟩
      ·
        refine V_aload_n 0 d_Mod_cell_27 rfl rfl ?_
        refine V_iload_n 1 d_Mod_cell_28 rfl rfl ?_
        refine N_callVI [.int c] [] cv_Mod_192 sk_116 rfl d_Mod_cell_29 rfl (Nat.le_of_ble_eq_true rfl) (by decide) (by decide) (c_Mod_isWellY h hI c cZ cE (by (first | decide +kernel | omega))) (fun z16 h17 z16Z z16E p18 => ?_)
        obtain ⟨eh17, p18⟩ := p18
        subst eh17
        refine N_callSI [.int z16] [] cs_Mod_196 d_Mod_cell_32 rfl (Nat.le_of_ble_eq_true rfl) (by decide) (by decide) (c_Mod_flag h z16 z16Z z16E) (fun z19 h20 z19Z z19E p21 => ?_)
        obtain ⟨eh20, p21⟩ := p21
        subst eh20
        refine V_goto 49 d_Mod_cell_35 (by decide) ?_
        exact V_iret rfl d_Mod_cell_49 ⟨z19, rfl, ⟨rfl, (Or.inr (Or.inr ⟨by (first | decide +kernel | omega), bc_sw p18 z16E p21⟩))⟩⟩
    ·
      refine V_iconst (-1) d_Mod_cell_20 (by decide) ?_
      exact V_iret rfl d_Mod_cell_21 ⟨(-1), rfl, ⟨rfl, (Or.inl ⟨by (first | decide +kernel | omega), tc_m1⟩)⟩⟩
abbrev q_Rod_purseX (h : Hp) (o : Int32) (oZ : Int) : Option Value → Hp → Prop := pInt (fun r h' => h = h' ∧ ((0 ≤ oZ ∧ oZ ≤ 3) ∧ r = h.1 8 oZ.toNat ∨ ¬ (0 ≤ oZ ∧ oZ ≤ 3) ∧ r.toInt = -1))
set_option maxRecDepth 100000 in
theorem c_Rod_purseX (h : Hp) (hI : Inv h) (o : Int32) (oZ : Int) (oE : o.toInt = oZ) : Ct y_Rod_purse b_Rod_purse 2 (some .int) 1 20 [.ref 85, .int o] h (q_Rod_purseX h o oZ) := by
  refine ct_ow R_Rod [some (.ref 85), some (.int o)] rfl (by decide) rfl (Nat.le_of_ble_eq_true rfl) ?_
  have f0 : fr [] h h := fr_rf
  refine V_iload_n 1 d_Rod_purse_0 rfl rfl ?_
  refine N_callSI [.int o] [] cs_Rod_151 d_Rod_purse_1 rfl (Nat.le_of_ble_eq_true rfl) (by decide) (by decide) (c_Rod_isOwner h o oZ oE) (fun z1 h2 z1Z z1E p3 => ?_)
  obtain ⟨eh2, p3⟩ := p3
  subst eh2
  refine V_if_eq 22 z1E d_Rod_purse_4 (by decide) (fun c4 => ?_) (fun c4 => ?_)
  ·
    refine V_iconst (-1) d_Rod_purse_22 (by decide) ?_
    exact V_iret rfl d_Rod_purse_23 ⟨(-1), rfl, ⟨rfl, (Or.inr ⟨by (first | decide +kernel | omega), tc_m1⟩)⟩⟩
  ·
    refine V_aload_n 0 d_Rod_purse_7 rfl rfl ?_
    refine V_getR fa_Rod_12 sk_85 rfl d_Rod_purse_8 ?_
    refine V_getR fa_Rod_115 sk_0 rfl d_Rod_purse_11 ?_
    refine V_getR fa_Rod_154 sk_7 rfl d_Rod_purse_14 ?_
    refine V_iload_n 1 d_Rod_purse_17 rfl rfl ?_
    refine N_iald sk_8 oE (by (first | decide +kernel | omega)) d_Rod_purse_18 (fun z5 z5Z z5E z5e => ?_)
    refine V_goto 23 d_Rod_purse_19 (by decide) ?_
    exact V_iret rfl d_Rod_purse_23 ⟨z5, rfl, ⟨rfl, (Or.inl ⟨by (first | decide +kernel | omega), z5e⟩)⟩⟩
abbrev q_Mod_purseX (h : Hp) (o : Int32) (oZ : Int) : Option Value → Hp → Prop := pInt (fun r h' => h = h' ∧ ((0 ≤ oZ ∧ oZ ≤ 3) ∧ r = h.1 117 (80 + oZ).toNat ∨ ¬ (0 ≤ oZ ∧ oZ ≤ 3) ∧ r.toInt = -1))
set_option maxRecDepth 100000 in
theorem c_Mod_purseX (h : Hp) (hI : Inv h) (o : Int32) (oZ : Int) (oE : o.toInt = oZ) : Ct y_Mod_purse b_Mod_purse 2 (some .int) 2 45 [.ref 116, .int o] h (q_Mod_purseX h o oZ) := by
  refine ct_ow R_Mod [some (.ref 116), some (.int o)] rfl (by decide) rfl (Nat.le_of_ble_eq_true rfl) ?_
  have f0 : fr [] h h := fr_rf
  refine V_iload_n 1 d_Mod_purse_0 rfl rfl ?_
  refine N_callSI [.int o] [] cs_Mod_205 d_Mod_purse_1 rfl (Nat.le_of_ble_eq_true rfl) (by decide) (by decide) (c_Mod_isOwner h o oZ oE) (fun z1 h2 z1Z z1E p3 => ?_)
  obtain ⟨eh2, p3⟩ := p3
  subst eh2
  refine V_if_eq 19 z1E d_Mod_purse_4 (by decide) (fun c4 => ?_) (fun c4 => ?_)
  ·
    refine V_iconst (-1) d_Mod_purse_19 (by decide) ?_
    exact V_iret rfl d_Mod_purse_20 ⟨(-1), rfl, ⟨rfl, (Or.inr ⟨by (first | decide +kernel | omega), tc_m1⟩)⟩⟩
  ·
    refine V_aload_n 0 d_Mod_purse_7 rfl rfl ?_
    refine V_getR fa_Mod_7 sk_116 rfl d_Mod_purse_8 ?_
    refine V_bipush 80 d_Mod_purse_11 (by decide) ?_
    refine V_iload_n 1 d_Mod_purse_13 rfl rfl ?_
    refine V_iadd tc_80 oE (by (first | decide +kernel | omega)) d_Mod_purse_14 (fun z5 z5e z5E => ?_)
    refine N_iald sk_117 z5E (by (first | decide +kernel | omega)) d_Mod_purse_15 (fun z6 z6Z z6E z6e => ?_)
    refine V_goto 20 d_Mod_purse_16 (by decide) ?_
    exact V_iret rfl d_Mod_purse_20 ⟨z6, rfl, ⟨rfl, (Or.inl ⟨by (first | decide +kernel | omega), z6e⟩)⟩⟩
end
section
theorem BE_cg {h h' : Hp} {kp ip kb ib : Nat} {G : Prop} {l o p b w c q d r l2 p2 b2 w2 : Int32} (f : BE h h' kp ip kb ib G l o p b w c q d r) (e : G → l = l2 ∧ p = p2 ∧ b = b2 ∧ w = w2) : BE h h' kp ip kb ib G l2 o p2 b2 w2 c q d r := by
  by_cases g : G
  · obtain ⟨rfl, rfl, rfl, rfl⟩ := e g
    exact f
  · rcases f with f | ⟨f, _⟩
    · exact Or.inl f
    · exact absurd f g
theorem JB_bore2 {S : List (Nat × Option Nat)} {h h1 h2 : Hp} {o c dd W : Int} {ow d r s : Int32} (ra : JA h) (rb : JB h) (f : fr S h h1) (ck : ckS S 116 117 = true) (hW : W ≤ 16) (E1 : BE h h1 8 o.toNat 6 c.toNat (0 ≤ o ∧ o ≤ 3 ∧ 0 ≤ c ∧ c < W ∧ 1 ≤ dd ∧ dd ≤ 9) (h.1 5 c.toNat) ow (h.1 8 o.toNat) (h.1 6 c.toNat) (h.1 2 c.toNat) (h.1 1 2) (h.1 1 3) d r)
    (E2 : BE h1 h2 117 (80 + o).toNat 117 (64 + c).toNat (0 ≤ o ∧ o ≤ 3 ∧ 0 ≤ c ∧ c < W ∧ 1 ≤ dd ∧ dd ≤ 9) (h1.1 117 (48 + c).toNat) ow (h1.1 117 (80 + o).toNat) (h1.1 117 (64 + c).toNat) (h1.1 117 (0 + c).toNat) (h1.1 116 4) (h1.1 116 5) d s) : JB h2 ∧ r = s := by
  have m1 : ∀ k i : Nat, 116 ≤ k → k ≤ 117 → h1.1 k i = h.1 k i := fun k i p q => f.1 _ _ (ckS_no ck p q)
  rw [m1 116 4 (by (first | decide +kernel | omega)) (by (first | decide +kernel | omega)), m1 116 5 (by (first | decide +kernel | omega)) (by (first | decide +kernel | omega)), ← show h.1 1 2 = h.1 116 4 from JA_wh ra (i := 2) (by decide), ← show h.1 1 3 = h.1 116 5 from JA_wh ra (i := 3) (by decide)] at E2
  have E3 := BE_cg (l2 := h.1 5 c.toNat) (p2 := h.1 8 o.toNat) (b2 := h.1 6 c.toNat) (w2 := h.1 2 c.toNat) E2 (fun g => by
    rw [m1 117 _ (by (first | decide +kernel | omega)) (by (first | decide +kernel | omega)), m1 117 _ (by (first | decide +kernel | omega)) (by (first | decide +kernel | omega)), m1 117 _ (by (first | decide +kernel | omega)) (by (first | decide +kernel | omega)), m1 117 _ (by (first | decide +kernel | omega)) (by (first | decide +kernel | omega)), show (48 + c).toNat = 48 + c.toNat by (first | decide +kernel | omega), show (80 + o).toNat = 80 + o.toNat by (first | decide +kernel | omega), show (64 + c).toNat = 64 + c.toNat by (first | decide +kernel | omega), show (0 + c).toNat = c.toNat by (first | decide +kernel | omega)]
    exact ⟨(JA_cell ra (dof_5 (by (first | decide +kernel | omega))) (by unfold aP; omega) (by (first | decide +kernel | omega))).symm, (JB_p rb (by (first | decide +kernel | omega))).symm, (JB_b rb (by (first | decide +kernel | omega))).symm, (JB_w rb (by (first | decide +kernel | omega))).1.symm⟩)
  exact JB_bore rb E1 E3 (fun g => by (first | decide +kernel | omega))
theorem nA_rain {h h' : Hp} {G : Prop} {v : Int32} {W : Int} (E : G ∧ rW h h' 117 v W ∧ (∀ j : Nat, 16 ≤ j → h'.1 117 j = h.1 117 j) ∨ ¬ G ∧ h' = h) : nA h h' := fun i hi => by
  rcases E with ⟨_, _, e⟩ | ⟨_, e⟩
  · exact e i (by (first | decide +kernel | omega))
  · rw [e]
theorem cA_RD {h h' : Hp} {RB : Prop} {k : Nat} {l f n W : Int} {r : Int32} (E : RB ∧ h' = h ∧ r.toInt = -1 ∨ ¬ RB ∧ RDc h h' k l f n W r) : cA h h' := fun k i hk hn => by
  rcases E with ⟨_, e, _⟩ | ⟨_, e⟩
  · rw [e]
  · exact e.2 k i hk ⟨hn.2.1, hn.2.2⟩
theorem nA_RD {h h' : Hp} {RB : Prop} {k : Nat} {l f n W : Int} {r : Int32} (E : RB ∧ h' = h ∧ r.toInt = -1 ∨ ¬ RB ∧ RDm h h' k l f n W r) : nA h h' := by
  rcases E with ⟨_, e, _⟩ | ⟨_, e⟩
  · intro i _; rw [e]
  · exact nA_nC e.2
theorem wg16 {h : Hp} (hI : Inv h) : 4 ≤ (h.1 1 0).toInt * (h.1 1 1).toInt ∧ (h.1 1 0).toInt * (h.1 1 1).toInt ≤ 16 := mul24 (show 2 ≤ (h.1 1 0).toInt ∧ (h.1 1 0).toInt ≤ 4 from hI 1 0) (show 2 ≤ (h.1 1 1).toInt ∧ (h.1 1 1).toInt ≤ 4 from hI 1 1)
theorem JB_wl {h : Hp} (rb : JB h) {W : Int} (hW : 0 ≤ W ∧ W ≤ 16) : ct (WQ (h.1 2) (h.1 6) W) 32 = ct (WQ (fun i => h.1 117 i) (fun i => h.1 117 (64 + i)) W) W.toNat := by
  rw [WQ_ct (by (first | decide +kernel | omega))]
  exact ct_cg _ (fun i hi => WQ_cg (fun j hj => (JB_w rb (by (first | decide +kernel | omega))).1) (fun j hj => JB_b rb (by (first | decide +kernel | omega))) i)
end
section
def BK (K0 K1 k : Int) (r : Int32) (n : Nat) : Prop := (k = 0 ∧ K0 ≠ 0 ∨ k = 1 ∧ K1 ≠ 0) ∧ r.toInt = (n : Int) ∨ (k = 0 ∧ K0 = 0 ∨ k = 1 ∧ K1 = 0) ∧ r.toInt = -2 ∨ (k < 0 ∨ 1 < k) ∧ r.toInt = -1
def CN (a : Int) (r v2 v4 v5 v6 : Int32) (n0 n1 : Nat) (k0 k1 : Int32) (t no : Int) : Prop := a = 0 ∧ r.toInt = (n0 : Int) ∨ a = 1 ∧ r.toInt = (n1 : Int) ∨ a = 2 ∧ r = v2 ∨ (a = 3 ∧ ∃ f g : Int32, FQ k0 f ∧ FQ k1 g ∧ r = f + g) ∨ a = 4 ∧ r = v4 ∨ a = 5 ∧ (t = no ∧ r.toInt = -4 ∨ t ≠ no ∧ r = v5) ∨ a = 6 ∧ r = v6 ∨ (a < 0 ∨ 6 < a) ∧ r.toInt = -1
theorem CN_un {a t no t2 no2 : Int} {r s v2 v4 v5 v6 k0 k1 : Int32} {n0 n1 : Nat} (p : CN a r v2 v4 v5 v6 n0 n1 k0 k1 t no) (q : CN a s v2 v4 v5 v6 n0 n1 k0 k1 t2 no2) (e : t = no ↔ t2 = no2) : r = s := by
  rcases p with ⟨p1, p2⟩ | ⟨p1, p2⟩ | ⟨p1, p2⟩ | ⟨p1, f, g, pf, pg, p2⟩ | ⟨p1, p2⟩ | ⟨p1, p2⟩ | ⟨p1, p2⟩ | ⟨p1, p2⟩ <;> rcases q with ⟨q1, q2⟩ | ⟨q1, q2⟩ | ⟨q1, q2⟩ | ⟨q1, f', g', qf, qg, q2⟩ | ⟨q1, q2⟩ | ⟨q1, q2⟩ | ⟨q1, q2⟩ | ⟨q1, q2⟩
  all_goals first | (exfalso; omega) | (exact same_of p2 q2) | (exact p2.trans q2.symm) | (rw [p2, q2, FQ_un pf qf, FQ_un pg qg]) | skip
  rcases p2 with ⟨x, y⟩ | ⟨x, y⟩ <;> rcases q2 with ⟨z, w⟩ | ⟨z, w⟩
  · exact same_of y w
  · exact absurd (e.mp x) z
  · exact absurd (e.mpr z) x
  · exact y.trans w.symm
def S_Rod_rainW : List (Nat × Option Nat) := [(2, none)]
abbrev q_Rod_rainW (h : Hp) (v : Int32) (vZ : Int) (w : Int32) (wZ : Int) (g : Int32) (gZ : Int) : Option Value → Hp → Prop := pInt (fun r h' => Inv h' ∧ fr S_Rod_rainW h h' ∧ (((0 ≤ vZ ∧ vZ ≤ 8) ∧ rW h h' 2 v (wZ * gZ) ∨ ¬ (0 ≤ vZ ∧ vZ ≤ 8) ∧ h' = h) ∧ ((0 ≤ vZ ∧ vZ ≤ 8) ∧ r.toInt = (ct (WQ (h'.1 2) (h'.1 6) (wZ * gZ)) 32 : Nat) ∨ ¬ (0 ≤ vZ ∧ vZ ≤ 8) ∧ r.toInt = -1)))
set_option maxRecDepth 100000 in
theorem c_Rod_rainW (h : Hp) (hI : Inv h) (v : Int32) (vZ : Int) (vE : v.toInt = vZ) (w : Int32) (wZ : Int) (wE : w.toInt = wZ) (wK : h.1 1 0 = w) (g : Int32) (gZ : Int) (gE : g.toInt = gZ) (gK : h.1 1 1 = g) : Ct y_Rod_rain b_Rod_rain 2 (some .int) 3 63 [.ref 85, .int v] h (q_Rod_rainW h v vZ w wZ g gZ) := by
  refine ct_ow R_Rod [some (.ref 85), some (.int v)] rfl (by decide) rfl (Nat.le_of_ble_eq_true rfl) ?_
  have f0 : fr S_Rod_rainW h h := fr_rf
  have g1 : 2 ≤ wZ ∧ wZ ≤ 4 := inv_at hI wE wK.symm rfl
  have g2 : 2 ≤ gZ ∧ gZ ≤ 4 := inv_at hI gE gK.symm rfl
  refine V_iload_n 1 d_Rod_rain_0 rfl rfl ?_
  refine V_if_lt 10 vE d_Rod_rain_1 (by decide) (fun c3 => ?_) (fun c3 => ?_)
  ·
    refine V_iconst (-1) d_Rod_rain_10 (by decide) ?_
    exact V_iret rfl d_Rod_rain_11 ⟨(-1), rfl, ⟨hI, f0, ⟨Or.inr ⟨by (first | decide +kernel | omega), rfl⟩, Or.inr ⟨by (first | decide +kernel | omega), tc_m1⟩⟩⟩⟩
  ·
    refine V_iload_n 1 d_Rod_rain_4 rfl rfl ?_
    refine V_bipush 8 d_Rod_rain_5 (by decide) ?_
    refine V_icmp_le 12 vE tc_8 d_Rod_rain_7 (by decide) (fun c4 => ?_) (fun c4 => ?_)
    ·
      refine V_aload_n 0 d_Rod_rain_12 rfl rfl ?_
      refine V_getR fa_Rod_12 sk_85 rfl d_Rod_rain_13 ?_
      refine V_getR fa_Rod_91 sk_0 rfl d_Rod_rain_16 ?_
      refine V_iload_n 1 d_Rod_rain_19 rfl rfl ?_
      refine N_callVV [.int v] [] cv_Rod_164 sk_1 rfl d_Rod_rain_20 rfl (Nat.le_of_ble_eq_true rfl) (by decide) (by decide) (c_Land_raiseWaterX_0 h hI v vZ vE w wZ wE wK g gZ gE gK) (fun h6 p7 => ?_)
      obtain ⟨hI8, fh6, p7⟩ := p7
      have f9 : fr S_Rod_rainW h h6 := fr_call f0 fh6 rfl
      refine V_aload_n 0 d_Rod_rain_23 rfl rfl ?_
      refine V_getR fa_Rod_12 sk_85 rfl d_Rod_rain_24 ?_
      refine V_getR fa_Rod_91 sk_0 rfl d_Rod_rain_27 ?_
      refine N_callVI [] [] cv_Rod_168 sk_1 rfl d_Rod_rain_30 rfl (Nat.le_of_ble_eq_true rfl) (by decide) (by decide) (c_Land_wellsX_0 h6 hI8 w wZ wE (kn_call fh6 wK rfl) g gZ gE (kn_call fh6 gK rfl)) (fun z10 h11 z10Z z10E p12 => ?_)
      obtain ⟨eh11, p12⟩ := p12
      subst eh11
      exact V_iret rfl d_Rod_rain_33 ⟨z10, rfl, ⟨hI8, f9, ⟨Or.inl ⟨by (first | decide +kernel | omega), p7⟩, Or.inl ⟨by (first | decide +kernel | omega), p12⟩⟩⟩⟩
    ·
      refine V_iconst (-1) d_Rod_rain_10 (by decide) ?_
      exact V_iret rfl d_Rod_rain_11 ⟨(-1), rfl, ⟨hI, f0, ⟨Or.inr ⟨by (first | decide +kernel | omega), rfl⟩, Or.inr ⟨by (first | decide +kernel | omega), tc_m1⟩⟩⟩⟩
def S_Mod_rainW : List (Nat × Option Nat) := [(117, none)]
abbrev q_Mod_rainW (h : Hp) (v : Int32) (vZ : Int) (w : Int32) (wZ : Int) (g : Int32) (gZ : Int) : Option Value → Hp → Prop := pInt (fun r h' => Inv h' ∧ fr S_Mod_rainW h h' ∧ (((0 ≤ vZ ∧ vZ ≤ 8) ∧ rW h h' 117 v (wZ * gZ) ∧ (∀ j : Nat, 16 ≤ j → h'.1 117 j = h.1 117 j) ∨ ¬ (0 ≤ vZ ∧ vZ ≤ 8) ∧ h' = h) ∧ ((0 ≤ vZ ∧ vZ ≤ 8) ∧ r.toInt = (ct (WQ (fun i => h'.1 117 i) (fun i => h'.1 117 (64 + i)) (wZ * gZ)) (wZ * gZ).toNat : Nat) ∨ ¬ (0 ≤ vZ ∧ vZ ≤ 8) ∧ r.toInt = -1)))
set_option maxRecDepth 100000 in
theorem c_Mod_rainW (h : Hp) (hI : Inv h) (v : Int32) (vZ : Int) (vE : v.toInt = vZ) (w : Int32) (wZ : Int) (wE : w.toInt = wZ) (wK : h.1 116 2 = w) (g : Int32) (gZ : Int) (gE : g.toInt = gZ) (gK : h.1 116 3 = g) (hy0 : ∀ i : Nat, i < 16 → 0 ≤ (h.1 117 i).toInt) : Ct y_Mod_rain b_Mod_rain 4 (some .int) 3 64 [.ref 116, .int v] h (q_Mod_rainW h v vZ w wZ g gZ) := by
  refine ct_ow R_Mod [some (.ref 116), some (.int v), none, none] rfl (by decide) rfl (Nat.le_of_ble_eq_true rfl) ?_
  have f0 : fr S_Mod_rainW h h := fr_rf
  have g1 : 2 ≤ wZ ∧ wZ ≤ 4 := inv_at hI wE wK.symm rfl
  have g2 : 2 ≤ gZ ∧ gZ ≤ 4 := inv_at hI gE gK.symm rfl
  have m24 := mul24 (A := wZ) (B := gZ) (by (first | decide +kernel | omega)) (by (first | decide +kernel | omega))
  refine V_iload_n 1 d_Mod_rain_0 rfl rfl ?_
  refine V_i2l d_Mod_rain_1 (fun z3 z3e z3E => ?_)
  have z3F : z3.toInt = vZ := z3E.trans vE
  refine V_lconst 0 d_Mod_rain_2 (by decide) ?_
  refine V_ldc2 d_Mod_rain_3 wl_Mod_221 ?_
  refine N_callSI [.long z3, .long 0, .long 8] [] cs_Mod_95 d_Mod_rain_6 rfl (Nat.le_of_ble_eq_true rfl) (by decide) (by decide) (c_Mod_in h z3 vZ z3F 0 0 tl_0 8 8 tl_8) (fun z4 h5 z4Z z4E p6 => ?_)
  obtain ⟨eh5, p6⟩ := p6
  subst eh5
  refine V_if_ne 14 z4E d_Mod_rain_9 (by decide) (fun c7 => ?_) (fun c7 => ?_)
  ·
    refine V_iconst 0 d_Mod_rain_14 (by decide) ?_
    refine V_istore_n 2 [some (.ref 116), some (.int v), some (.int 0), none] d_Mod_rain_15 rfl (by decide) rfl rfl ?_
    have L8 : ∀ (nn : Nat) (v10 : Int32) (v10Z : Int) (h11 : Hp), v10.toInt = v10Z → Inv h11 → fr S_Mod_rainW h h11 → h11.1 116 2 = w → h11.1 116 3 = g → 0 ≤ v10Z ∧ v10Z ≤ wZ * gZ → rW h h11 117 v v10Z → (∀ j : Nat, 16 ≤ j → h11.1 117 j = h.1 117 j) → 16 - v10Z < (nn : Int) → V R_Mod b_Mod_rain 4 (some .int) 3 64 (q_Mod_rainW h v vZ w wZ g gZ) h11 16 [some (.ref 116), some (.int v), some (.int v10), none] [] := by
      intro nn
      induction nn with
      | zero => intro v10 v10Z h11 v10E Ih11 Fh11 K12 K13 q14 q15 q16 hm17; exact absurd hm17 (by (first | decide +kernel | omega))
      | succ nn ihL8 =>
        intro v10 v10Z h11 v10E Ih11 Fh11 K12 K13 q14 q15 q16 hm17
        refine V_iload_n 2 d_Mod_rain_16 rfl rfl ?_
        refine V_aload_n 0 d_Mod_rain_17 rfl rfl ?_
        refine N_callVI [] [.int v10] cv_Mod_183 sk_116 rfl d_Mod_rain_18 rfl (Nat.le_of_ble_eq_true rfl) (by decide) (by decide) (c_Mod_cellMany h11 Ih11 w wZ wE K12 g gZ gE K13) (fun z18 h19 z18Z z18E p20 => ?_)
        obtain ⟨eh19, p20⟩ := p20
        subst eh19
        refine V_icmp_ge 69 v10E z18E d_Mod_rain_21 (by decide) (fun c21 => ?_) (fun c21 => ?_)
        ·
          refine V_aload_n 0 d_Mod_rain_69 rfl rfl ?_
          refine N_callVI [] [] cv_Mod_223 sk_116 rfl d_Mod_rain_70 rfl (Nat.le_of_ble_eq_true rfl) (by decide) (by decide) (c_Mod_wellsX h11 Ih11 w wZ wE K12 g gZ gE K13) (fun z22 h23 z22Z z22E p24 => ?_)
          obtain ⟨eh23, p24⟩ := p24
          subst eh23
          exact V_iret rfl d_Mod_rain_73 ⟨z22, rfl, ⟨Ih11, Fh11, ⟨Or.inl ⟨by (first | decide +kernel | omega), (by rw [show wZ * gZ = v10Z by (first | decide +kernel | omega)]; assumption), by assumption⟩, Or.inl ⟨by (first | decide +kernel | omega), p24⟩⟩⟩⟩
        ·
          refine V_aload_n 0 d_Mod_rain_24 rfl rfl ?_
          refine V_getR fa_Mod_7 sk_116 rfl d_Mod_rain_25 ?_
          refine V_iconst 0 d_Mod_rain_28 (by decide) ?_
          refine V_iload_n 2 d_Mod_rain_29 rfl rfl ?_
          refine V_iadd tc_0 v10E (by (first | decide +kernel | omega)) d_Mod_rain_30 (fun z25 z25e z25E => ?_)
          refine N_iald sk_117 z25E (by (first | decide +kernel | omega)) d_Mod_rain_31 (fun z26 z26Z z26E z26e => ?_)
          have g27 := rM_nn hy0 (show rW h h11 117 v v10Z from by assumption) (by (first | decide +kernel | omega)) z26e z26E
          refine V_istore_n 3 [some (.ref 116), some (.int v), some (.int v10), some (.int z26)] d_Mod_rain_32 rfl (by decide) rfl rfl ?_
          refine V_aload_n 0 d_Mod_rain_33 rfl rfl ?_
          refine V_getR fa_Mod_7 sk_116 rfl d_Mod_rain_34 ?_
          refine V_iconst 0 d_Mod_rain_37 (by decide) ?_
          refine V_iload_n 2 d_Mod_rain_38 rfl rfl ?_
          refine V_iadd tc_0 v10E (by (first | decide +kernel | omega)) d_Mod_rain_39 (fun z28 z28e z28E => ?_)
          refine V_iload_n 3 d_Mod_rain_40 rfl rfl ?_
          refine V_if_ne 48 z26E d_Mod_rain_41 (by decide) (fun c29 => ?_) (fun c29 => ?_)
          ·
            refine V_iload_n 3 d_Mod_rain_48 rfl rfl ?_
            refine V_iload_n 1 d_Mod_rain_49 rfl rfl ?_
            refine N_isubw d_Mod_rain_50 (fun z30 z30Z z30E z30e => ?_)
            refine V_iconst 1 d_Mod_rain_51 (by decide) ?_
            refine V_icmp_ge 59 z30E tc_1 d_Mod_rain_52 (by decide) (fun c31 => ?_) (fun c31 => ?_)
            ·
              refine V_iload_n 3 d_Mod_rain_59 rfl rfl ?_
              refine V_iload_n 1 d_Mod_rain_60 rfl rfl ?_
              refine N_isubw d_Mod_rain_61 (fun z32 z32Z z32E z32e => ?_)
              refine N_iast sk_117 z28E (by (first | decide +kernel | omega)) d_Mod_rain_62 (fun h33 eh33 => ?_)
              have hI34 : Inv h33 := inv_full Ih11 eh33 (st_lo (by (first | decide +kernel | omega)))
              have f35 : fr S_Mod_rainW h h33 := fr_put Fh11 eh33 rfl
              obtain ⟨z36, z36E, z36e⟩ : ∃ y : Int32, y.toInt = v10Z + 1 ∧ y = v10 + Int32.ofInt 1 := ⟨_, ti_add v10E (by decide) (by (first | decide +kernel | omega)), rfl⟩
              refine V_iinc 2 [some (.ref 116), some (.int v), some (.int z36), some (.int z26)] d_Mod_rain_63 rfl z36e.symm (by decide) rfl rfl ?_
              refine V_goto 16 d_Mod_rain_66 (by decide) ?_
              refine V_drop 3 [some (.ref 116), some (.int v), some (.int z36), none] rfl ?_
              exact ihL8 z36 ((v10Z + 1)) h33 z36E hI34 f35 (kn_ne eh33 K12 (by decide)) (kn_ne eh33 K13 (by decide)) (by (first | decide +kernel | omega)) (rW_s1 (by assumption) (by (first | decide +kernel | omega)) (z26e.trans (by rw [Int.zero_add])) (rn1_m2 z26E (by (first | decide +kernel | omega)) z30e z32e z30E (by (first | decide +kernel | omega))) (show _ = pI _ 117 (v10Z).toNat _ from by rw [← Int.zero_add v10Z]; exact eh33)) (fun j hj => by rw [eh33, pI_at, if_neg (by (first | decide +kernel | omega))]; exact (show ∀ j : Nat, 16 ≤ j → h11.1 117 j = h.1 117 j from by assumption) j hj) (by (first | decide +kernel | omega))
            ·
              refine V_iconst 1 d_Mod_rain_55 (by decide) ?_
              refine V_goto 62 d_Mod_rain_56 (by decide) ?_
              refine N_iast sk_117 z28E (by (first | decide +kernel | omega)) d_Mod_rain_62 (fun h37 eh37 => ?_)
              have hI38 : Inv h37 := inv_full Ih11 eh37 (st_lo (by (first | decide +kernel | omega)))
              have f39 : fr S_Mod_rainW h h37 := fr_put Fh11 eh37 rfl
              obtain ⟨z40, z40E, z40e⟩ : ∃ y : Int32, y.toInt = v10Z + 1 ∧ y = v10 + Int32.ofInt 1 := ⟨_, ti_add v10E (by decide) (by (first | decide +kernel | omega)), rfl⟩
              refine V_iinc 2 [some (.ref 116), some (.int v), some (.int z40), some (.int z26)] d_Mod_rain_63 rfl z40e.symm (by decide) rfl rfl ?_
              refine V_goto 16 d_Mod_rain_66 (by decide) ?_
              refine V_drop 3 [some (.ref 116), some (.int v), some (.int z40), none] rfl ?_
              exact ihL8 z40 ((v10Z + 1)) h37 z40E hI38 f39 (kn_ne eh37 K12 (by decide)) (kn_ne eh37 K13 (by decide)) (by (first | decide +kernel | omega)) (rW_s1 (by assumption) (by (first | decide +kernel | omega)) (z26e.trans (by rw [Int.zero_add])) (rn1_m1 z26E (by (first | decide +kernel | omega)) z30e z30E (by (first | decide +kernel | omega))) (show _ = pI _ 117 (v10Z).toNat _ from by rw [← Int.zero_add v10Z]; exact eh37)) (fun j hj => by rw [eh37, pI_at, if_neg (by (first | decide +kernel | omega))]; exact (show ∀ j : Nat, 16 ≤ j → h11.1 117 j = h.1 117 j from by assumption) j hj) (by (first | decide +kernel | omega))
          ·
            refine V_iconst 0 d_Mod_rain_44 (by decide) ?_
            refine V_goto 62 d_Mod_rain_45 (by decide) ?_
            refine N_iast sk_117 z28E (by (first | decide +kernel | omega)) d_Mod_rain_62 (fun h41 eh41 => ?_)
            have hI42 : Inv h41 := inv_full Ih11 eh41 (st_lo (by (first | decide +kernel | omega)))
            have f43 : fr S_Mod_rainW h h41 := fr_put Fh11 eh41 rfl
            obtain ⟨z44, z44E, z44e⟩ : ∃ y : Int32, y.toInt = v10Z + 1 ∧ y = v10 + Int32.ofInt 1 := ⟨_, ti_add v10E (by decide) (by (first | decide +kernel | omega)), rfl⟩
            refine V_iinc 2 [some (.ref 116), some (.int v), some (.int z44), some (.int z26)] d_Mod_rain_63 rfl z44e.symm (by decide) rfl rfl ?_
            refine V_goto 16 d_Mod_rain_66 (by decide) ?_
            refine V_drop 3 [some (.ref 116), some (.int v), some (.int z44), none] rfl ?_
            exact ihL8 z44 ((v10Z + 1)) h41 z44E hI42 f43 (kn_ne eh41 K12 (by decide)) (kn_ne eh41 K13 (by decide)) (by (first | decide +kernel | omega)) (rW_s1 (by assumption) (by (first | decide +kernel | omega)) (z26e.trans (by rw [Int.zero_add])) (rn1_m0 (by rw [z26E]; omega)) (show _ = pI _ 117 (v10Z).toNat _ from by rw [← Int.zero_add v10Z]; exact eh41)) (fun j hj => by rw [eh41, pI_at, if_neg (by (first | decide +kernel | omega))]; exact (show ∀ j : Nat, 16 ≤ j → h11.1 117 j = h.1 117 j from by assumption) j hj) (by (first | decide +kernel | omega))
    exact L8 (Int.toNat ((16 - 0 : Int) + 1)) 0 0 h tc_0 hI f0 wK gK (by (first | decide +kernel | omega)) rW_0 (fun _ _ => rfl) (by (first | decide +kernel | omega))
  ·
    refine V_iconst (-1) d_Mod_rain_12 (by decide) ?_
    exact V_iret rfl d_Mod_rain_13 ⟨(-1), rfl, ⟨hI, f0, ⟨Or.inr ⟨by (first | decide +kernel | omega), rfl⟩, Or.inr ⟨by (first | decide +kernel | omega), tc_m1⟩⟩⟩⟩
def S_Rod_backW : List (Nat × Option Nat) := [(0, some 3), (0, some 4), (1, none), (2, none), (3, none), (4, none), (5, none), (6, none), (7, some 4), (8, none), (9, none), (10, none), (11, none), (12, some 4), (13, none), (14, none), (15, none), (16, none)]
abbrev q_Rod_backW (h : Hp) (k : Int32) (kZ : Int) : Option Value → Hp → Prop := pInt (fun r h' => Inv h' ∧ fr S_Rod_backW h h' ∧ ((kZ = 0 ∧ (h.1 87 0).toInt ≠ 0 ∧ cpy h h' 0 34 ∨ kZ = 1 ∧ (h.1 87 1).toInt ≠ 0 ∧ cpy h h' 0 51 ∨ (kZ = 0 ∧ (h.1 87 0).toInt = 0 ∨ kZ = 1 ∧ (h.1 87 1).toInt = 0 ∨ kZ < 0 ∨ 1 < kZ) ∧ h' = h) ∧ (BK (h.1 87 0).toInt (h.1 87 1).toInt kZ r (ct (WQ (h'.1 2) (h'.1 6) ((h'.1 1 0).toInt * (h'.1 1 1).toInt)) 32))))
set_option maxRecDepth 100000 in
theorem c_Rod_backW (h : Hp) (hI : Inv h) (k : Int32) (kZ : Int) (kE : k.toInt = kZ) : Ct y_Rod_back b_Rod_back 2 (some .int) 3 102 [.ref 85, .int k] h (q_Rod_backW h k kZ) := by
  refine ct_ow R_Rod [some (.ref 85), some (.int k)] rfl (by decide) rfl (Nat.le_of_ble_eq_true rfl) ?_
  have f0 : fr S_Rod_backW h h := fr_rf
  refine V_iload_n 1 d_Rod_back_0 rfl rfl ?_
  refine V_if_lt 9 kE d_Rod_back_1 (by decide) (fun c1 => ?_) (fun c1 => ?_)
  ·
    refine V_iconst (-1) d_Rod_back_9 (by decide) ?_
    exact V_iret rfl d_Rod_back_10 ⟨(-1), rfl, ⟨hI, f0, ⟨Or.inr (Or.inr ⟨by (first | decide +kernel | omega), rfl⟩), Or.inr (Or.inr ⟨by (first | decide +kernel | omega), tc_m1⟩)⟩⟩⟩
  ·
    refine V_iload_n 1 d_Rod_back_4 rfl rfl ?_
    refine V_iconst 2 d_Rod_back_5 (by decide) ?_
    refine V_icmp_lt 11 kE tc_2 d_Rod_back_6 (by decide) (fun c2 => ?_) (fun c2 => ?_)
    ·
      rcases (by (first | decide +kernel | omega) : kZ = 0 ∨ kZ = 1) with c3 | c3
      ·
        refine V_aload_n 0 d_Rod_back_11 rfl rfl ?_
        refine V_getR fa_Rod_23 sk_85 rfl d_Rod_back_12 ?_
        refine V_iload_n 1 d_Rod_back_15 rfl rfl ?_
        refine N_zald sk_87 kE (by (first | decide +kernel | omega)) d_Rod_back_16 (fun z4 z4Z z4E z4e => ?_)
        refine V_if_ne 23 z4E d_Rod_back_17 (by decide) (fun c5 => ?_) (fun c5 => ?_)
        ·
          refine V_aload_n 0 d_Rod_back_23 rfl rfl ?_
          refine V_getR fa_Rod_12 sk_85 rfl d_Rod_back_24 ?_
          refine V_aload_n 0 d_Rod_back_27 rfl rfl ?_
          refine V_getR fa_Rod_19 sk_85 rfl d_Rod_back_28 ?_
          refine V_iload_n 1 d_Rod_back_31 rfl rfl ?_
          rcases (by (first | decide +kernel | omega) : kZ = 0 ∨ kZ = 1) with c6 | c6
          ·
            refine V_aald (r := 34) sk_86 (by decide) kE (by (first | decide +kernel | omega)) (by rw [c6]; rfl) d_Rod_back_32 ?_
            obtain ⟨z7, z7Z, z7E, z7e⟩ : ∃ (y : Int32) (Y : Int), y.toInt = Y ∧ y = h.1 34 3 := ⟨_, _, rfl, rfl⟩
            obtain ⟨z8, z8Z, z8E, z8e⟩ : ∃ (y : Int32) (Y : Int), y.toInt = Y ∧ y = h.1 34 4 := ⟨_, _, rfl, rfl⟩
            refine N_callVV [.ref 34] [] cv_Rod_84 sk_0 rfl d_Rod_back_33 rfl (Nat.le_of_ble_eq_true rfl) (by decide) (by decide) (c_County_copyX_0_2 h hI z7 z7Z z7E z7e.symm z8 z8Z z8E z8e.symm) (fun h10 p11 => ?_)
            obtain ⟨hI12, fh10, p11⟩ := p11
            have f13 : fr S_Rod_backW h h10 := fr_call f0 fh10 rfl
            refine V_aload_n 0 d_Rod_back_36 rfl rfl ?_
            refine V_getR fa_Rod_12 sk_85 rfl d_Rod_back_37 ?_
            refine V_getR fa_Rod_91 sk_0 rfl d_Rod_back_40 ?_
            obtain ⟨z14, z14Z, z14E, z14e⟩ : ∃ (y : Int32) (Y : Int), y.toInt = Y ∧ y = h10.1 1 0 := ⟨_, _, rfl, rfl⟩
            have g15 : 2 ≤ z14Z ∧ z14Z ≤ 4 := inv_at hI12 z14E z14e rfl
            obtain ⟨z16, z16Z, z16E, z16e⟩ : ∃ (y : Int32) (Y : Int), y.toInt = Y ∧ y = h10.1 1 1 := ⟨_, _, rfl, rfl⟩
            have g17 : 2 ≤ z16Z ∧ z16Z ≤ 4 := inv_at hI12 z16E z16e rfl
            refine N_callVI [] [] cv_Rod_168 sk_1 rfl d_Rod_back_43 rfl (Nat.le_of_ble_eq_true rfl) (by decide) (by decide) (c_Land_wellsX_0 h10 hI12 z14 z14Z z14E z14e.symm z16 z16Z z16E z16e.symm) (fun z18 h19 z18Z z18E p20 => ?_)
            obtain ⟨eh19, p20⟩ := p20
            subst eh19
            exact V_iret rfl d_Rod_back_46 ⟨z18, rfl, ⟨hI12, f13, ⟨Or.inl ⟨by (first | decide +kernel | omega), (by rw [show h.1 87 0 = z4 from by rw [z4e]; exact congrArg (h.1 87) (by (first | decide +kernel | omega)), z4E]; omega), p11⟩, Or.inl ⟨Or.inl ⟨by (first | decide +kernel | omega), (by rw [show h.1 87 0 = z4 from by rw [z4e]; exact congrArg (h.1 87) (by (first | decide +kernel | omega)), z4E]; omega)⟩, (by rw [show h10.1 1 0 = z14 from z14e.symm, show h10.1 1 1 = z16 from z16e.symm, z14E, z16E]; exact p20)⟩⟩⟩⟩
          ·
            refine V_aald (r := 51) sk_86 (by decide) kE (by (first | decide +kernel | omega)) (by rw [c6]; rfl) d_Rod_back_32 ?_
            obtain ⟨z21, z21Z, z21E, z21e⟩ : ∃ (y : Int32) (Y : Int), y.toInt = Y ∧ y = h.1 51 3 := ⟨_, _, rfl, rfl⟩
            obtain ⟨z22, z22Z, z22E, z22e⟩ : ∃ (y : Int32) (Y : Int), y.toInt = Y ∧ y = h.1 51 4 := ⟨_, _, rfl, rfl⟩
            refine N_callVV [.ref 51] [] cv_Rod_84 sk_0 rfl d_Rod_back_33 rfl (Nat.le_of_ble_eq_true rfl) (by decide) (by decide) (c_County_copyX_0_3 h hI z21 z21Z z21E z21e.symm z22 z22Z z22E z22e.symm) (fun h24 p25 => ?_)
            obtain ⟨hI26, fh24, p25⟩ := p25
            have f27 : fr S_Rod_backW h h24 := fr_call f0 fh24 rfl
            refine V_aload_n 0 d_Rod_back_36 rfl rfl ?_
            refine V_getR fa_Rod_12 sk_85 rfl d_Rod_back_37 ?_
            refine V_getR fa_Rod_91 sk_0 rfl d_Rod_back_40 ?_
            obtain ⟨z28, z28Z, z28E, z28e⟩ : ∃ (y : Int32) (Y : Int), y.toInt = Y ∧ y = h24.1 1 0 := ⟨_, _, rfl, rfl⟩
            have g29 : 2 ≤ z28Z ∧ z28Z ≤ 4 := inv_at hI26 z28E z28e rfl
            obtain ⟨z30, z30Z, z30E, z30e⟩ : ∃ (y : Int32) (Y : Int), y.toInt = Y ∧ y = h24.1 1 1 := ⟨_, _, rfl, rfl⟩
            have g31 : 2 ≤ z30Z ∧ z30Z ≤ 4 := inv_at hI26 z30E z30e rfl
            refine N_callVI [] [] cv_Rod_168 sk_1 rfl d_Rod_back_43 rfl (Nat.le_of_ble_eq_true rfl) (by decide) (by decide) (c_Land_wellsX_0 h24 hI26 z28 z28Z z28E z28e.symm z30 z30Z z30E z30e.symm) (fun z32 h33 z32Z z32E p34 => ?_)
            obtain ⟨eh33, p34⟩ := p34
            subst eh33
            exact V_iret rfl d_Rod_back_46 ⟨z32, rfl, ⟨hI26, f27, (by exfalso; omega)⟩⟩
        ·
          refine V_bipush (-2) d_Rod_back_20 (by decide) ?_
          exact V_iret rfl d_Rod_back_22 ⟨(-2), rfl, ⟨hI, f0, ⟨Or.inr (Or.inr ⟨Or.inl ⟨by (first | decide +kernel | omega), (by rw [show h.1 87 0 = z4 from by rw [z4e]; exact congrArg (h.1 87) (by (first | decide +kernel | omega)), z4E]; omega)⟩, rfl⟩), Or.inr (Or.inl ⟨Or.inl ⟨by (first | decide +kernel | omega), (by rw [show h.1 87 0 = z4 from by rw [z4e]; exact congrArg (h.1 87) (by (first | decide +kernel | omega)), z4E]; omega)⟩, tc_m2⟩)⟩⟩⟩
      ·
        refine V_aload_n 0 d_Rod_back_11 rfl rfl ?_
        refine V_getR fa_Rod_23 sk_85 rfl d_Rod_back_12 ?_
        refine V_iload_n 1 d_Rod_back_15 rfl rfl ?_
        refine N_zald sk_87 kE (by (first | decide +kernel | omega)) d_Rod_back_16 (fun z35 z35Z z35E z35e => ?_)
        refine V_if_ne 23 z35E d_Rod_back_17 (by decide) (fun c36 => ?_) (fun c36 => ?_)
        ·
          refine V_aload_n 0 d_Rod_back_23 rfl rfl ?_
          refine V_getR fa_Rod_12 sk_85 rfl d_Rod_back_24 ?_
          refine V_aload_n 0 d_Rod_back_27 rfl rfl ?_
          refine V_getR fa_Rod_19 sk_85 rfl d_Rod_back_28 ?_
          refine V_iload_n 1 d_Rod_back_31 rfl rfl ?_
          rcases (by (first | decide +kernel | omega) : kZ = 0 ∨ kZ = 1) with c37 | c37
          ·
            refine V_aald (r := 34) sk_86 (by decide) kE (by (first | decide +kernel | omega)) (by rw [c37]; rfl) d_Rod_back_32 ?_
            obtain ⟨z38, z38Z, z38E, z38e⟩ : ∃ (y : Int32) (Y : Int), y.toInt = Y ∧ y = h.1 34 3 := ⟨_, _, rfl, rfl⟩
            obtain ⟨z39, z39Z, z39E, z39e⟩ : ∃ (y : Int32) (Y : Int), y.toInt = Y ∧ y = h.1 34 4 := ⟨_, _, rfl, rfl⟩
            refine N_callVV [.ref 34] [] cv_Rod_84 sk_0 rfl d_Rod_back_33 rfl (Nat.le_of_ble_eq_true rfl) (by decide) (by decide) (c_County_copyX_0_2 h hI z38 z38Z z38E z38e.symm z39 z39Z z39E z39e.symm) (fun h41 p42 => ?_)
            obtain ⟨hI43, fh41, p42⟩ := p42
            have f44 : fr S_Rod_backW h h41 := fr_call f0 fh41 rfl
            refine V_aload_n 0 d_Rod_back_36 rfl rfl ?_
            refine V_getR fa_Rod_12 sk_85 rfl d_Rod_back_37 ?_
            refine V_getR fa_Rod_91 sk_0 rfl d_Rod_back_40 ?_
            obtain ⟨z45, z45Z, z45E, z45e⟩ : ∃ (y : Int32) (Y : Int), y.toInt = Y ∧ y = h41.1 1 0 := ⟨_, _, rfl, rfl⟩
            have g46 : 2 ≤ z45Z ∧ z45Z ≤ 4 := inv_at hI43 z45E z45e rfl
            obtain ⟨z47, z47Z, z47E, z47e⟩ : ∃ (y : Int32) (Y : Int), y.toInt = Y ∧ y = h41.1 1 1 := ⟨_, _, rfl, rfl⟩
            have g48 : 2 ≤ z47Z ∧ z47Z ≤ 4 := inv_at hI43 z47E z47e rfl
            refine N_callVI [] [] cv_Rod_168 sk_1 rfl d_Rod_back_43 rfl (Nat.le_of_ble_eq_true rfl) (by decide) (by decide) (c_Land_wellsX_0 h41 hI43 z45 z45Z z45E z45e.symm z47 z47Z z47E z47e.symm) (fun z49 h50 z49Z z49E p51 => ?_)
            obtain ⟨eh50, p51⟩ := p51
            subst eh50
            exact V_iret rfl d_Rod_back_46 ⟨z49, rfl, ⟨hI43, f44, (by exfalso; omega)⟩⟩
          ·
            refine V_aald (r := 51) sk_86 (by decide) kE (by (first | decide +kernel | omega)) (by rw [c37]; rfl) d_Rod_back_32 ?_
            obtain ⟨z52, z52Z, z52E, z52e⟩ : ∃ (y : Int32) (Y : Int), y.toInt = Y ∧ y = h.1 51 3 := ⟨_, _, rfl, rfl⟩
            obtain ⟨z53, z53Z, z53E, z53e⟩ : ∃ (y : Int32) (Y : Int), y.toInt = Y ∧ y = h.1 51 4 := ⟨_, _, rfl, rfl⟩
            refine N_callVV [.ref 51] [] cv_Rod_84 sk_0 rfl d_Rod_back_33 rfl (Nat.le_of_ble_eq_true rfl) (by decide) (by decide) (c_County_copyX_0_3 h hI z52 z52Z z52E z52e.symm z53 z53Z z53E z53e.symm) (fun h55 p56 => ?_)
            obtain ⟨hI57, fh55, p56⟩ := p56
            have f58 : fr S_Rod_backW h h55 := fr_call f0 fh55 rfl
            refine V_aload_n 0 d_Rod_back_36 rfl rfl ?_
            refine V_getR fa_Rod_12 sk_85 rfl d_Rod_back_37 ?_
            refine V_getR fa_Rod_91 sk_0 rfl d_Rod_back_40 ?_
            obtain ⟨z59, z59Z, z59E, z59e⟩ : ∃ (y : Int32) (Y : Int), y.toInt = Y ∧ y = h55.1 1 0 := ⟨_, _, rfl, rfl⟩
            have g60 : 2 ≤ z59Z ∧ z59Z ≤ 4 := inv_at hI57 z59E z59e rfl
            obtain ⟨z61, z61Z, z61E, z61e⟩ : ∃ (y : Int32) (Y : Int), y.toInt = Y ∧ y = h55.1 1 1 := ⟨_, _, rfl, rfl⟩
            have g62 : 2 ≤ z61Z ∧ z61Z ≤ 4 := inv_at hI57 z61E z61e rfl
            refine N_callVI [] [] cv_Rod_168 sk_1 rfl d_Rod_back_43 rfl (Nat.le_of_ble_eq_true rfl) (by decide) (by decide) (c_Land_wellsX_0 h55 hI57 z59 z59Z z59E z59e.symm z61 z61Z z61E z61e.symm) (fun z63 h64 z63Z z63E p65 => ?_)
            obtain ⟨eh64, p65⟩ := p65
            subst eh64
            exact V_iret rfl d_Rod_back_46 ⟨z63, rfl, ⟨hI57, f58, ⟨Or.inr (Or.inl ⟨by (first | decide +kernel | omega), (by rw [show h.1 87 1 = z35 from by rw [z35e]; exact congrArg (h.1 87) (by (first | decide +kernel | omega)), z35E]; omega), p56⟩), Or.inl ⟨Or.inr ⟨by (first | decide +kernel | omega), (by rw [show h.1 87 1 = z35 from by rw [z35e]; exact congrArg (h.1 87) (by (first | decide +kernel | omega)), z35E]; omega)⟩, (by rw [show h55.1 1 0 = z59 from z59e.symm, show h55.1 1 1 = z61 from z61e.symm, z59E, z61E]; exact p65)⟩⟩⟩⟩
        ·
          refine V_bipush (-2) d_Rod_back_20 (by decide) ?_
          exact V_iret rfl d_Rod_back_22 ⟨(-2), rfl, ⟨hI, f0, ⟨Or.inr (Or.inr ⟨Or.inr (Or.inl ⟨by (first | decide +kernel | omega), (by rw [show h.1 87 1 = z35 from by rw [z35e]; exact congrArg (h.1 87) (by (first | decide +kernel | omega)), z35E]; omega)⟩), rfl⟩), Or.inr (Or.inl ⟨Or.inr ⟨by (first | decide +kernel | omega), (by rw [show h.1 87 1 = z35 from by rw [z35e]; exact congrArg (h.1 87) (by (first | decide +kernel | omega)), z35E]; omega)⟩, tc_m2⟩)⟩⟩⟩
    ·
      refine V_iconst (-1) d_Rod_back_9 (by decide) ?_
      exact V_iret rfl d_Rod_back_10 ⟨(-1), rfl, ⟨hI, f0, ⟨Or.inr (Or.inr ⟨by (first | decide +kernel | omega), rfl⟩), Or.inr (Or.inr ⟨by (first | decide +kernel | omega), tc_m1⟩)⟩⟩⟩
def S_Mod_backW : List (Nat × Option Nat) := [(117, none)]
abbrev q_Mod_backW (h : Hp) (k : Int32) (kZ : Int) (w : Int32) (wZ : Int) (g : Int32) (gZ : Int) : Option Value → Hp → Prop := pInt (fun r h' => Inv h' ∧ fr S_Mod_backW h h' ∧ ((kZ = 0 ∧ (h.1 118 0).toInt ≠ 0 ∧ mcl h h' 0 144 144 ∨ kZ = 1 ∧ (h.1 118 1).toInt ≠ 0 ∧ mcl h h' 0 288 144 ∨ (kZ = 0 ∧ (h.1 118 0).toInt = 0 ∨ kZ = 1 ∧ (h.1 118 1).toInt = 0 ∨ kZ < 0 ∨ 1 < kZ) ∧ h' = h) ∧ (BK (h.1 118 0).toInt (h.1 118 1).toInt kZ r (ct (WQ (fun i => h'.1 117 i) (fun i => h'.1 117 (64 + i)) (wZ * gZ)) (wZ * gZ).toNat))))
set_option maxRecDepth 100000 in
theorem c_Mod_backW (h : Hp) (hI : Inv h) (k : Int32) (kZ : Int) (kE : k.toInt = kZ) (w : Int32) (wZ : Int) (wE : w.toInt = wZ) (wK : h.1 116 2 = w) (g : Int32) (gZ : Int) (gE : g.toInt = gZ) (gK : h.1 116 3 = g) : Ct y_Mod_back b_Mod_back 2 (some .int) 3 64 [.ref 116, .int k] h (q_Mod_backW h k kZ w wZ g gZ) := by
  refine ct_ow R_Mod [some (.ref 116), some (.int k)] rfl (by decide) rfl (Nat.le_of_ble_eq_true rfl) ?_
  have f0 : fr S_Mod_backW h h := fr_rf
  have g1 : 2 ≤ wZ ∧ wZ ≤ 4 := inv_at hI wE wK.symm rfl
  have g2 : 2 ≤ gZ ∧ gZ ≤ 4 := inv_at hI gE gK.symm rfl
  refine V_iload_n 1 d_Mod_back_0 rfl rfl ?_
  refine V_i2l d_Mod_back_1 (fun z3 z3e z3E => ?_)
  have z3F : z3.toInt = kZ := z3E.trans kE
  refine V_lconst 0 d_Mod_back_2 (by decide) ?_
  refine V_lconst 1 d_Mod_back_3 (by decide) ?_
  refine N_callSI [.long z3, .long 0, .long 1] [] cs_Mod_95 d_Mod_back_4 rfl (Nat.le_of_ble_eq_true rfl) (by decide) (by decide) (c_Mod_in h z3 kZ z3F 0 0 tl_0 1 1 tl_1) (fun z4 h5 z4Z z4E p6 => ?_)
  obtain ⟨eh5, p6⟩ := p6
  subst eh5
  refine V_if_ne 12 z4E d_Mod_back_7 (by decide) (fun c7 => ?_) (fun c7 => ?_)
  ·
    rcases (by (first | decide +kernel | omega) : kZ = 0 ∨ kZ = 1) with c8 | c8
    ·
      refine V_aload_n 0 d_Mod_back_12 rfl rfl ?_
      refine V_getR fa_Mod_13 sk_116 rfl d_Mod_back_13 ?_
      refine V_iload_n 1 d_Mod_back_16 rfl rfl ?_
      refine N_zald sk_118 kE (by (first | decide +kernel | omega)) d_Mod_back_17 (fun z9 z9Z z9E z9e => ?_)
      refine V_if_ne 24 z9E d_Mod_back_18 (by decide) (fun c10 => ?_) (fun c10 => ?_)
      ·
        refine V_aload_n 0 d_Mod_back_24 rfl rfl ?_
        refine V_iconst 0 d_Mod_back_25 (by decide) ?_
        refine V_sipush 144 d_Mod_back_26 (by decide) ?_
        refine V_iload_n 1 d_Mod_back_29 rfl rfl ?_
        refine V_iconst 1 d_Mod_back_30 (by decide) ?_
        refine V_iadd kE tc_1 (by (first | decide +kernel | omega)) d_Mod_back_31 (fun z11 z11e z11E => ?_)
        refine V_imul tc_144 z11E (by (first | decide +kernel | omega)) d_Mod_back_32 (fun z12 z12e z12E => ?_)
        refine N_callVV [.int 0, .int z12] [] cv_Mod_317 sk_116 rfl d_Mod_back_33 rfl (Nat.le_of_ble_eq_true rfl) (by decide) (by decide) (c_Mod_copiesX h hI 0 0 tc_0 z12 ((144 * (kZ + 1))) z12E (by (first | decide +kernel | omega)) (by (first | decide +kernel | omega))) (fun h14 p15 => ?_)
        obtain ⟨hI16, fh14, p15⟩ := p15
        have f17 : fr S_Mod_backW h h14 := fr_call f0 fh14 rfl
        refine V_aload_n 0 d_Mod_back_36 rfl rfl ?_
        refine N_callVI [] [] cv_Mod_223 sk_116 rfl d_Mod_back_37 rfl (Nat.le_of_ble_eq_true rfl) (by decide) (by decide) (c_Mod_wellsX h14 hI16 w wZ wE (kn_call fh14 wK rfl) g gZ gE (kn_call fh14 gK rfl)) (fun z18 h19 z18Z z18E p20 => ?_)
        obtain ⟨eh19, p20⟩ := p20
        subst eh19
        exact V_iret rfl d_Mod_back_40 ⟨z18, rfl, ⟨hI16, f17, ⟨Or.inl ⟨by (first | decide +kernel | omega), (by rw [show h.1 118 0 = z9 from by rw [z9e]; exact congrArg (h.1 118) (by (first | decide +kernel | omega)), z9E]; omega), (mcl_T (by (first | decide +kernel | omega)) p15)⟩, Or.inl ⟨Or.inl ⟨by (first | decide +kernel | omega), (by rw [show h.1 118 0 = z9 from by rw [z9e]; exact congrArg (h.1 118) (by (first | decide +kernel | omega)), z9E]; omega)⟩, p20⟩⟩⟩⟩
      ·
        refine V_bipush (-2) d_Mod_back_21 (by decide) ?_
        exact V_iret rfl d_Mod_back_23 ⟨(-2), rfl, ⟨hI, f0, ⟨Or.inr (Or.inr ⟨Or.inl ⟨by (first | decide +kernel | omega), (by rw [show h.1 118 0 = z9 from by rw [z9e]; exact congrArg (h.1 118) (by (first | decide +kernel | omega)), z9E]; omega)⟩, rfl⟩), Or.inr (Or.inl ⟨Or.inl ⟨by (first | decide +kernel | omega), (by rw [show h.1 118 0 = z9 from by rw [z9e]; exact congrArg (h.1 118) (by (first | decide +kernel | omega)), z9E]; omega)⟩, tc_m2⟩)⟩⟩⟩
    ·
      refine V_aload_n 0 d_Mod_back_12 rfl rfl ?_
      refine V_getR fa_Mod_13 sk_116 rfl d_Mod_back_13 ?_
      refine V_iload_n 1 d_Mod_back_16 rfl rfl ?_
      refine N_zald sk_118 kE (by (first | decide +kernel | omega)) d_Mod_back_17 (fun z21 z21Z z21E z21e => ?_)
      refine V_if_ne 24 z21E d_Mod_back_18 (by decide) (fun c22 => ?_) (fun c22 => ?_)
      ·
        refine V_aload_n 0 d_Mod_back_24 rfl rfl ?_
        refine V_iconst 0 d_Mod_back_25 (by decide) ?_
        refine V_sipush 144 d_Mod_back_26 (by decide) ?_
        refine V_iload_n 1 d_Mod_back_29 rfl rfl ?_
        refine V_iconst 1 d_Mod_back_30 (by decide) ?_
        refine V_iadd kE tc_1 (by (first | decide +kernel | omega)) d_Mod_back_31 (fun z23 z23e z23E => ?_)
        refine V_imul tc_144 z23E (by (first | decide +kernel | omega)) d_Mod_back_32 (fun z24 z24e z24E => ?_)
        refine N_callVV [.int 0, .int z24] [] cv_Mod_317 sk_116 rfl d_Mod_back_33 rfl (Nat.le_of_ble_eq_true rfl) (by decide) (by decide) (c_Mod_copiesX h hI 0 0 tc_0 z24 ((144 * (kZ + 1))) z24E (by (first | decide +kernel | omega)) (by (first | decide +kernel | omega))) (fun h26 p27 => ?_)
        obtain ⟨hI28, fh26, p27⟩ := p27
        have f29 : fr S_Mod_backW h h26 := fr_call f0 fh26 rfl
        refine V_aload_n 0 d_Mod_back_36 rfl rfl ?_
        refine N_callVI [] [] cv_Mod_223 sk_116 rfl d_Mod_back_37 rfl (Nat.le_of_ble_eq_true rfl) (by decide) (by decide) (c_Mod_wellsX h26 hI28 w wZ wE (kn_call fh26 wK rfl) g gZ gE (kn_call fh26 gK rfl)) (fun z30 h31 z30Z z30E p32 => ?_)
        obtain ⟨eh31, p32⟩ := p32
        subst eh31
        exact V_iret rfl d_Mod_back_40 ⟨z30, rfl, ⟨hI28, f29, ⟨Or.inr (Or.inl ⟨by (first | decide +kernel | omega), (by rw [show h.1 118 1 = z21 from by rw [z21e]; exact congrArg (h.1 118) (by (first | decide +kernel | omega)), z21E]; omega), (mcl_T (by (first | decide +kernel | omega)) p27)⟩), Or.inl ⟨Or.inr ⟨by (first | decide +kernel | omega), (by rw [show h.1 118 1 = z21 from by rw [z21e]; exact congrArg (h.1 118) (by (first | decide +kernel | omega)), z21E]; omega)⟩, p32⟩⟩⟩⟩
      ·
        refine V_bipush (-2) d_Mod_back_21 (by decide) ?_
        exact V_iret rfl d_Mod_back_23 ⟨(-2), rfl, ⟨hI, f0, ⟨Or.inr (Or.inr ⟨Or.inr (Or.inl ⟨by (first | decide +kernel | omega), (by rw [show h.1 118 1 = z21 from by rw [z21e]; exact congrArg (h.1 118) (by (first | decide +kernel | omega)), z21E]; omega)⟩), rfl⟩), Or.inr (Or.inl ⟨Or.inr ⟨by (first | decide +kernel | omega), (by rw [show h.1 118 1 = z21 from by rw [z21e]; exact congrArg (h.1 118) (by (first | decide +kernel | omega)), z21E]; omega)⟩, tc_m2⟩)⟩⟩⟩
  ·
    refine V_iconst (-1) d_Mod_back_10 (by decide) ?_
    exact V_iret rfl d_Mod_back_11 ⟨(-1), rfl, ⟨hI, f0, ⟨Or.inr (Or.inr ⟨by (first | decide +kernel | omega), rfl⟩), Or.inr (Or.inr ⟨by (first | decide +kernel | omega), tc_m1⟩)⟩⟩⟩
abbrev q_Land_boredBitsX_0 (h : Hp) (d : Int32) (dZ : Int) (w : Int32) (wZ : Int) (g : Int32) (gZ : Int) : Option Value → Hp → Prop := pInt (fun r h' => h = h' ∧ (BS r (BQ (h.1 6) dZ (wZ * gZ))))
set_option maxRecDepth 100000 in
theorem c_Land_boredBitsX_0 (h : Hp) (hI : Inv h) (d : Int32) (dZ : Int) (dE : d.toInt = dZ) (w : Int32) (wZ : Int) (wE : w.toInt = wZ) (wK : h.1 1 0 = w) (g : Int32) (gZ : Int) (gE : g.toInt = gZ) (gK : h.1 1 1 = g) : Ct y_Land_boredBits b_Land_boredBits 4 (some .int) 1 20 [.ref 1, .int d] h (q_Land_boredBitsX_0 h d dZ w wZ g gZ) := by
  refine ct_ow R_Land [some (.ref 1), some (.int d), none, none] rfl (by decide) rfl (Nat.le_of_ble_eq_true rfl) ?_
  have f0 : fr [] h h := fr_rf
  have g1 : 2 ≤ wZ ∧ wZ ≤ 4 := inv_at hI wE wK.symm rfl
  have g2 : 2 ≤ gZ ∧ gZ ≤ 4 := inv_at hI gE gK.symm rfl
  have m24 := mul24 (A := wZ) (B := gZ) (by (first | decide +kernel | omega)) (by (first | decide +kernel | omega))
  refine V_iconst 0 d_Land_boredBits_0 (by decide) ?_
  refine V_istore_n 2 [some (.ref 1), some (.int d), some (.int 0), none] d_Land_boredBits_1 rfl (by decide) rfl rfl ?_
  refine V_iconst 0 d_Land_boredBits_2 (by decide) ?_
  refine V_istore_n 3 [some (.ref 1), some (.int d), some (.int 0), some (.int 0)] d_Land_boredBits_3 rfl (by decide) rfl rfl ?_
  have L3 : ∀ (nn : Nat) (v5 : Int32) (v5Z : Int) (v6 : Int32) (v6Z : Int), v5.toInt = v5Z → v6.toInt = v6Z → 0 ≤ v6Z ∧ v6Z ≤ wZ * gZ → BS v5 (BQ (h.1 6) dZ v6Z) → 16 - v6Z < (nn : Int) → V R_Land b_Land_boredBits 4 (some .int) 1 20 (q_Land_boredBitsX_0 h d dZ w wZ g gZ) h 4 [some (.ref 1), some (.int d), some (.int v5), some (.int v6)] [] := by
    intro nn
    induction nn with
    | zero => intro v5 v5Z v6 v6Z v5E v6E q7 q8 hm9; exact absurd hm9 (by (first | decide +kernel | omega))
    | succ nn ihL3 =>
      intro v5 v5Z v6 v6Z v5E v6E q7 q8 hm9
      refine V_iload_n 3 d_Land_boredBits_4 rfl rfl ?_
      refine V_aload_n 0 d_Land_boredBits_5 rfl rfl ?_
      refine N_callVI [] [.int v6] cv_Land_52 sk_1 rfl d_Land_boredBits_6 rfl (Nat.le_of_ble_eq_true rfl) (by decide) (by decide) (c_Land_cells_0 h hI w wZ wE wK g gZ gE gK) (fun z10 h11 z10Z z10E p12 => ?_)
      obtain ⟨eh11, p12⟩ := p12
      subst eh11
      refine V_icmp_ge 34 v6E z10E d_Land_boredBits_9 (by decide) (fun c13 => ?_) (fun c13 => ?_)
      ·
        refine V_iload_n 2 d_Land_boredBits_34 rfl rfl ?_
        exact V_iret rfl d_Land_boredBits_35 ⟨v5, rfl, ⟨rfl, (by rw [show wZ * gZ = v6Z by (first | decide +kernel | omega)]; assumption)⟩⟩
      ·
        refine V_aload_n 0 d_Land_boredBits_12 rfl rfl ?_
        refine V_getR fa_Land_24 sk_1 rfl d_Land_boredBits_13 ?_
        refine V_iload_n 3 d_Land_boredBits_16 rfl rfl ?_
        refine N_iald sk_6 v6E (by (first | decide +kernel | omega)) d_Land_boredBits_17 (fun z14 z14Z z14E z14e => ?_)
        refine V_iload_n 1 d_Land_boredBits_18 rfl rfl ?_
        refine V_icmp_lt 28 z14E dE d_Land_boredBits_19 (by decide) (fun c15 => ?_) (fun c15 => ?_)
        ·
          obtain ⟨z16, z16E, z16e⟩ : ∃ y : Int32, y.toInt = v6Z + 1 ∧ y = v6 + Int32.ofInt 1 := ⟨_, ti_add v6E (by decide) (by (first | decide +kernel | omega)), rfl⟩
          refine V_iinc 3 [some (.ref 1), some (.int d), some (.int v5), some (.int z16)] d_Land_boredBits_28 rfl z16e.symm (by decide) rfl rfl ?_
          refine V_goto 4 d_Land_boredBits_31 (by decide) ?_
          exact ihL3 v5 v5Z z16 ((v6Z + 1)) v5E z16E (by (first | decide +kernel | omega)) (BQ_n (by assumption) (by (first | decide +kernel | omega)) z14e z14E (by (first | decide +kernel | omega))) (by (first | decide +kernel | omega))
        ·
          refine V_iload_n 2 d_Land_boredBits_22 rfl rfl ?_
          refine V_iconst 1 d_Land_boredBits_23 (by decide) ?_
          refine V_iload_n 3 d_Land_boredBits_24 rfl rfl ?_
          refine N_ishl d_Land_boredBits_25 (fun z17 z17Z z17E z17e => ?_)
          refine N_ior d_Land_boredBits_26 (fun z18 z18Z z18E z18e => ?_)
          refine V_istore_n 2 [some (.ref 1), some (.int d), some (.int z18), some (.int v6)] d_Land_boredBits_27 rfl (by decide) rfl rfl ?_
          obtain ⟨z19, z19E, z19e⟩ : ∃ y : Int32, y.toInt = v6Z + 1 ∧ y = v6 + Int32.ofInt 1 := ⟨_, ti_add v6E (by decide) (by (first | decide +kernel | omega)), rfl⟩
          refine V_iinc 3 [some (.ref 1), some (.int d), some (.int z18), some (.int z19)] d_Land_boredBits_28 rfl z19e.symm (by decide) rfl rfl ?_
          refine V_goto 4 d_Land_boredBits_31 (by decide) ?_
          exact ihL3 z18 z18Z z19 ((v6Z + 1)) z18E z19E (by (first | decide +kernel | omega)) (BQ_1 (by assumption) v6E (by (first | decide +kernel | omega)) z14e z14E (by (first | decide +kernel | omega)) z17e z18e) (by (first | decide +kernel | omega))
  exact L3 (Int.toNat ((16 - 0 : Int) + 1)) 0 0 0 0 tc_0 tc_0 (by (first | decide +kernel | omega)) BQ_0 (by (first | decide +kernel | omega))
abbrev q_Ledger_allPursesX_0 (h : Hp)  : Option Value → Hp → Prop := pInt (fun r h' => h = h' ∧ (r = sm (h.1 8) 4))
set_option maxRecDepth 100000 in
theorem c_Ledger_allPursesX_0 (h : Hp) (hI : Inv h) : Ct y_Ledger_allPurses b_Ledger_allPurses 3 (some .int) 0 0 [.ref 7] h (q_Ledger_allPursesX_0 h ) := by
  refine ct_ow R_Ledger [some (.ref 7), none, none] rfl (by decide) rfl (Nat.le_of_ble_eq_true rfl) ?_
  have f0 : fr [] h h := fr_rf
  refine V_iconst 0 d_Ledger_allPurses_0 (by decide) ?_
  refine V_istore_n 1 [some (.ref 7), some (.int 0), none] d_Ledger_allPurses_1 rfl (by decide) rfl rfl ?_
  refine V_iconst 0 d_Ledger_allPurses_2 (by decide) ?_
  refine V_istore_n 2 [some (.ref 7), some (.int 0), some (.int 0)] d_Ledger_allPurses_3 rfl (by decide) rfl rfl ?_
  have L1 : ∀ (nn : Nat) (v3 : Int32) (v3Z : Int) (v4 : Int32) (v4Z : Int), v3.toInt = v3Z → v4.toInt = v4Z → 0 ≤ v4Z ∧ v4Z ≤ 4 → v3 = sm (h.1 8) (v4Z).toNat → 4 - v4Z < (nn : Int) → V R_Ledger b_Ledger_allPurses 3 (some .int) 0 0 (q_Ledger_allPursesX_0 h ) h 4 [some (.ref 7), some (.int v3), some (.int v4)] [] := by
    intro nn
    induction nn with
    | zero => intro v3 v3Z v4 v4Z v3E v4E q5 q6 hm7; exact absurd hm7 (by (first | decide +kernel | omega))
    | succ nn ihL1 =>
      intro v3 v3Z v4 v4Z v3E v4E q5 q6 hm7
      refine V_iload_n 2 d_Ledger_allPurses_4 rfl rfl ?_
      refine V_iconst 4 d_Ledger_allPurses_5 (by decide) ?_
      refine V_icmp_ge 24 v4E tc_4 d_Ledger_allPurses_6 (by decide) (fun c8 => ?_) (fun c8 => ?_)
      ·
        refine V_iload_n 1 d_Ledger_allPurses_24 rfl rfl ?_
        exact V_iret rfl d_Ledger_allPurses_25 ⟨v3, rfl, ⟨rfl, (by rw [show (4 : Nat) = (v4Z).toNat by (first | decide +kernel | omega)]; assumption)⟩⟩
      ·
        refine V_iload_n 1 d_Ledger_allPurses_9 rfl rfl ?_
        refine V_aload_n 0 d_Ledger_allPurses_10 rfl rfl ?_
        refine V_getR fa_Ledger_9 sk_7 rfl d_Ledger_allPurses_11 ?_
        refine V_iload_n 2 d_Ledger_allPurses_14 rfl rfl ?_
        refine N_iald sk_8 v4E (by (first | decide +kernel | omega)) d_Ledger_allPurses_15 (fun z9 z9Z z9E z9e => ?_)
        refine N_iaddw d_Ledger_allPurses_16 (fun z10 z10Z z10E z10e => ?_)
        refine V_istore_n 1 [some (.ref 7), some (.int z10), some (.int v4)] d_Ledger_allPurses_17 rfl (by decide) rfl rfl ?_
        obtain ⟨z11, z11E, z11e⟩ : ∃ y : Int32, y.toInt = v4Z + 1 ∧ y = v4 + Int32.ofInt 1 := ⟨_, ti_add v4E (by decide) (by (first | decide +kernel | omega)), rfl⟩
        refine V_iinc 2 [some (.ref 7), some (.int z10), some (.int z11)] d_Ledger_allPurses_18 rfl z11e.symm (by decide) rfl rfl ?_
        refine V_goto 4 d_Ledger_allPurses_21 (by decide) ?_
        exact ihL1 z10 z10Z z11 ((v4Z + 1)) z10E z11E (by (first | decide +kernel | omega)) (sm_s (by (first | decide +kernel | omega)) (by assumption) z9e z10e) (by (first | decide +kernel | omega))
  exact L1 (Int.toNat ((4 - 0 : Int) + 1)) 0 0 0 0 tc_0 tc_0 (by (first | decide +kernel | omega)) rfl (by (first | decide +kernel | omega))
abbrev q_Rod_countX (h : Hp) (a : Int32) (aZ : Int) (w : Int32) (wZ : Int) (g : Int32) (gZ : Int) : Option Value → Hp → Prop := pInt (fun r h' => h = h' ∧ (CN aZ r (h.1 12 4) (h.1 89 1) (h.1 108 2) (sm (h.1 8) 4) (ct (WQ (h.1 2) (h.1 6) (wZ * gZ)) 32) (ct (BQ (h.1 6) 1 (wZ * gZ)) 32) (h.1 87 0) (h.1 87 1) (h.1 108 1).toInt (-1)))
set_option maxRecDepth 100000 in
theorem c_Rod_countX (h : Hp) (hI : Inv h) (a : Int32) (aZ : Int) (aE : a.toInt = aZ) (w : Int32) (wZ : Int) (wE : w.toInt = wZ) (wK : h.1 1 0 = w) (g : Int32) (gZ : Int) (gE : g.toInt = gZ) (gK : h.1 1 1 = g) : Ct y_Rod_count b_Rod_count 2 (some .int) 3 63 [.ref 85, .int a] h (q_Rod_countX h a aZ w wZ g gZ) := by
  refine ct_ow R_Rod [some (.ref 85), some (.int a)] rfl (by decide) rfl (Nat.le_of_ble_eq_true rfl) ?_
  have f0 : fr [] h h := fr_rf
  have g1 : 2 ≤ wZ ∧ wZ ≤ 4 := inv_at hI wE wK.symm rfl
  have g2 : 2 ≤ gZ ∧ gZ ≤ 4 := inv_at hI gE gK.symm rfl
  refine V_iload_n 1 d_Rod_count_0 rfl rfl ?_
  rcases (by (first | decide +kernel | omega) : (aZ < 0 ∨ 6 < aZ) ∨ aZ = 0 ∨ aZ = 1 ∨ aZ = 2 ∨ aZ = 3 ∨ aZ = 4 ∨ aZ = 5 ∨ aZ = 6) with c3 | c3 | c3 | c3 | c3 | c3 | c3 | c3
  ·
    refine V_tabOut 148 aE d_Rod_count_1 c3 (by decide) ?_
    refine V_iconst (-1) d_Rod_count_148 (by decide) ?_
    exact V_iret rfl d_Rod_count_149 ⟨(-1), rfl, ⟨rfl, (Or.inr (Or.inr (Or.inr (Or.inr (Or.inr (Or.inr (Or.inr ⟨by (first | decide +kernel | omega), tc_m1⟩)))))))⟩⟩
  ·
    refine V_tabIn 44 aE d_Rod_count_1 (by (first | decide +kernel | omega)) (by (first | decide +kernel | omega)) (by rw [c3]; rfl) (by decide) ?_
    refine V_aload_n 0 d_Rod_count_44 rfl rfl ?_
    refine V_getR fa_Rod_12 sk_85 rfl d_Rod_count_45 ?_
    refine V_getR fa_Rod_91 sk_0 rfl d_Rod_count_48 ?_
    refine N_callVI [] [] cv_Rod_168 sk_1 rfl d_Rod_count_51 rfl (Nat.le_of_ble_eq_true rfl) (by decide) (by decide) (c_Land_wellsX_0 h hI w wZ wE wK g gZ gE gK) (fun z4 h5 z4Z z4E p6 => ?_)
    obtain ⟨eh5, p6⟩ := p6
    subst eh5
    exact V_iret rfl d_Rod_count_54 ⟨z4, rfl, ⟨rfl, (Or.inl ⟨by (first | decide +kernel | omega), p6⟩)⟩⟩
  ·
    refine V_tabIn 55 aE d_Rod_count_1 (by (first | decide +kernel | omega)) (by (first | decide +kernel | omega)) (by rw [c3]; rfl) (by decide) ?_
    refine V_aload_n 0 d_Rod_count_55 rfl rfl ?_
    refine V_getR fa_Rod_12 sk_85 rfl d_Rod_count_56 ?_
    refine V_getR fa_Rod_91 sk_0 rfl d_Rod_count_59 ?_
    refine V_iconst 1 d_Rod_count_62 (by decide) ?_
    refine N_callVI [.int 1] [] cv_Rod_312 sk_1 rfl d_Rod_count_63 rfl (Nat.le_of_ble_eq_true rfl) (by decide) (by decide) (c_Land_boredBitsX_0 h hI 1 1 tc_1 w wZ wE wK g gZ gE gK) (fun z7 h8 z7Z z7E p9 => ?_)
    obtain ⟨eh8, p9⟩ := p9
    subst eh8
    refine N_callSI [.int z7] [] cs_Rod_199 d_Rod_count_66 rfl (Nat.le_of_ble_eq_true rfl) (by decide) (by decide) (c_Int_bitCountX h z7 z7Z z7E) (fun z10 h11 z10Z z10E p12 => ?_)
    obtain ⟨eh11, p12⟩ := p12
    subst eh11
    exact V_iret rfl d_Rod_count_69 ⟨z10, rfl, ⟨rfl, (Or.inr (Or.inl ⟨by (first | decide +kernel | omega), (p12.trans (congrArg (fun q : Nat => (q : Int)) (BS_ct p9)))⟩))⟩⟩
  ·
    refine V_tabIn 70 aE d_Rod_count_1 (by (first | decide +kernel | omega)) (by (first | decide +kernel | omega)) (by rw [c3]; rfl) (by decide) ?_
    refine V_aload_n 0 d_Rod_count_70 rfl rfl ?_
    refine V_getR fa_Rod_12 sk_85 rfl d_Rod_count_71 ?_
    refine V_getR fa_Rod_178 sk_0 rfl d_Rod_count_74 ?_
    refine N_getI fa_Rod_182 sk_12 rfl d_Rod_count_77 (fun z13 z13Z z13E z13e => ?_)
    have g14 : 0 ≤ z13Z ∧ z13Z ≤ 8 := inv_at hI z13E z13e rfl
    exact V_iret rfl d_Rod_count_80 ⟨z13, rfl, ⟨rfl, (Or.inr (Or.inr (Or.inl ⟨by (first | decide +kernel | omega), (z13e.symm).symm⟩)))⟩⟩
  ·
    refine V_tabIn 81 aE d_Rod_count_1 (by (first | decide +kernel | omega)) (by (first | decide +kernel | omega)) (by rw [c3]; rfl) (by decide) ?_
    refine V_aload_n 0 d_Rod_count_81 rfl rfl ?_
    refine V_getR fa_Rod_23 sk_85 rfl d_Rod_count_82 ?_
    refine V_iconst 0 d_Rod_count_85 (by decide) ?_
    refine N_zald sk_87 tc_0 (by (first | decide +kernel | omega)) d_Rod_count_86 (fun z15 z15Z z15E z15e => ?_)
    refine N_callSI [.int z15] [] cs_Rod_147 d_Rod_count_87 rfl (Nat.le_of_ble_eq_true rfl) (by decide) (by decide) (c_Rod_oneIf h z15 z15Z z15E) (fun z16 h17 z16Z z16E p18 => ?_)
    obtain ⟨eh17, p18⟩ := p18
    subst eh17
    refine V_aload_n 0 d_Rod_count_90 rfl rfl ?_
    refine V_getR fa_Rod_23 sk_85 rfl d_Rod_count_91 ?_
    refine V_iconst 1 d_Rod_count_94 (by decide) ?_
    refine N_zald sk_87 tc_1 (by (first | decide +kernel | omega)) d_Rod_count_95 (fun z19 z19Z z19E z19e => ?_)
    refine N_callSI [.int z19] [.int z16] cs_Rod_147 d_Rod_count_96 rfl (Nat.le_of_ble_eq_true rfl) (by decide) (by decide) (c_Rod_oneIf h z19 z19Z z19E) (fun z20 h21 z20Z z20E p22 => ?_)
    obtain ⟨eh21, p22⟩ := p22
    subst eh21
    refine V_iadd z16E z20E (by (first | decide +kernel | omega)) d_Rod_count_99 (fun z23 z23e z23E => ?_)
    exact V_iret rfl d_Rod_count_100 ⟨z23, rfl, ⟨rfl, (Or.inr (Or.inr (Or.inr (Or.inl ⟨by (first | decide +kernel | omega), z16, z20, FQ_of z15e rfl z15E p18, FQ_of z19e rfl z19E p22, z23e⟩))))⟩⟩
  ·
    refine V_tabIn 101 aE d_Rod_count_1 (by (first | decide +kernel | omega)) (by (first | decide +kernel | omega)) (by rw [c3]; rfl) (by decide) ?_
    refine V_aload_n 0 d_Rod_count_101 rfl rfl ?_
    refine V_getR fa_Rod_38 sk_85 rfl d_Rod_count_102 ?_
    refine N_getI fa_Rod_67 sk_89 rfl d_Rod_count_105 (fun z24 z24Z z24E z24e => ?_)
    have g25 : 0 ≤ z24Z ∧ z24Z ≤ 160 := inv_at hI z24E z24e rfl
    exact V_iret rfl d_Rod_count_108 ⟨z24, rfl, ⟨rfl, (Or.inr (Or.inr (Or.inr (Or.inr (Or.inl ⟨by (first | decide +kernel | omega), (z24e.symm).symm⟩)))))⟩⟩
  ·
    refine V_tabIn 109 aE d_Rod_count_1 (by (first | decide +kernel | omega)) (by (first | decide +kernel | omega)) (by rw [c3]; rfl) (by decide) ?_
    refine V_aload_n 0 d_Rod_count_109 rfl rfl ?_
    refine V_getR fa_Rod_62 sk_85 rfl d_Rod_count_110 ?_
    refine V_iconst 0 d_Rod_count_113 (by decide) ?_
    refine V_aald (r := 108) sk_107 (by decide) tc_0 (by (first | decide +kernel | omega)) rfl d_Rod_count_114 ?_
    refine N_getI fa_Rod_293 sk_108 rfl d_Rod_count_115 (fun z26 z26Z z26E z26e => ?_)
    refine V_iconst (-1) d_Rod_count_118 (by decide) ?_
    refine V_icmp_ne 127 z26E tc_m1 d_Rod_count_119 (by decide) (fun c27 => ?_) (fun c27 => ?_)
    ·
      refine V_aload_n 0 d_Rod_count_127 rfl rfl ?_
      refine V_getR fa_Rod_62 sk_85 rfl d_Rod_count_128 ?_
      refine V_iconst 0 d_Rod_count_131 (by decide) ?_
      refine V_aald (r := 108) sk_107 (by decide) tc_0 (by (first | decide +kernel | omega)) rfl d_Rod_count_132 ?_
      refine N_getI fa_Rod_296 sk_108 rfl d_Rod_count_133 (fun z28 z28Z z28E z28e => ?_)
      have g29 : 0 ≤ z28Z ∧ z28Z ≤ 40 := inv_at hI z28E z28e rfl
      exact V_iret rfl d_Rod_count_136 ⟨z28, rfl, ⟨rfl, (Or.inr (Or.inr (Or.inr (Or.inr (Or.inr (Or.inl ⟨by (first | decide +kernel | omega), Or.inr ⟨by rw [show h.1 108 1 = z26 from z26e.symm, z26E]; omega, (z28e.symm).symm⟩⟩))))))⟩⟩
    ·
      refine V_bipush (-4) d_Rod_count_122 (by decide) ?_
      refine V_goto 136 d_Rod_count_124 (by decide) ?_
      exact V_iret rfl d_Rod_count_136 ⟨(-4), rfl, ⟨rfl, (Or.inr (Or.inr (Or.inr (Or.inr (Or.inr (Or.inl ⟨by (first | decide +kernel | omega), Or.inl ⟨by rw [show h.1 108 1 = z26 from z26e.symm, z26E]; omega, tc_m4⟩⟩))))))⟩⟩
  ·
    refine V_tabIn 137 aE d_Rod_count_1 (by (first | decide +kernel | omega)) (by (first | decide +kernel | omega)) (by rw [c3]; rfl) (by decide) ?_
    refine V_aload_n 0 d_Rod_count_137 rfl rfl ?_
    refine V_getR fa_Rod_12 sk_85 rfl d_Rod_count_138 ?_
    refine V_getR fa_Rod_115 sk_0 rfl d_Rod_count_141 ?_
    refine N_callVI [] [] cv_Rod_315 sk_7 rfl d_Rod_count_144 rfl (Nat.le_of_ble_eq_true rfl) (by decide) (by decide) (c_Ledger_allPursesX_0 h hI) (fun z30 h31 z30Z z30E p32 => ?_)
    obtain ⟨eh31, p32⟩ := p32
    subst eh31
    exact V_iret rfl d_Rod_count_147 ⟨z30, rfl, ⟨rfl, (Or.inr (Or.inr (Or.inr (Or.inr (Or.inr (Or.inr (Or.inl ⟨by (first | decide +kernel | omega), p32⟩)))))))⟩⟩
abbrev q_Mod_countX (h : Hp) (a : Int32) (aZ : Int) (w : Int32) (wZ : Int) (g : Int32) (gZ : Int) : Option Value → Hp → Prop := pInt (fun r h' => h = h' ∧ (CN aZ r (h.1 117 111) (h.1 116 15) (h.1 129 0) (sm (fun i => h.1 117 (80 + i)) 4) (ct (WQ (fun i => h.1 117 i) (fun i => h.1 117 (64 + i)) (wZ * gZ)) (wZ * gZ).toNat) (ct (BQ (fun i => h.1 117 (64 + i)) 1 (wZ * gZ)) (wZ * gZ).toNat) (h.1 118 0) (h.1 118 1) (h.1 128 0).toInt (-4)))
set_option maxRecDepth 100000 in
theorem c_Mod_countX (h : Hp) (hI : Inv h) (a : Int32) (aZ : Int) (aE : a.toInt = aZ) (w : Int32) (wZ : Int) (wE : w.toInt = wZ) (wK : h.1 116 2 = w) (g : Int32) (gZ : Int) (gE : g.toInt = gZ) (gK : h.1 116 3 = g) : Ct y_Mod_count b_Mod_count 5 (some .int) 3 64 [.ref 116, .int a] h (q_Mod_countX h a aZ w wZ g gZ) := by
  refine ct_ow R_Mod [some (.ref 116), some (.int a), none, none, none] rfl (by decide) rfl (Nat.le_of_ble_eq_true rfl) ?_
  have f0 : fr [] h h := fr_rf
  have g1 : 2 ≤ wZ ∧ wZ ≤ 4 := inv_at hI wE wK.symm rfl
  have g2 : 2 ≤ gZ ∧ gZ ≤ 4 := inv_at hI gE gK.symm rfl
  have m24 := mul24 (A := wZ) (B := gZ) (by (first | decide +kernel | omega)) (by (first | decide +kernel | omega))
  refine V_iconst 0 d_Mod_count_0 (by decide) ?_
  refine V_istore_n 2 [some (.ref 116), some (.int a), some (.int 0), none, none] d_Mod_count_1 rfl (by decide) rfl rfl ?_
  refine V_iconst 0 d_Mod_count_2 (by decide) ?_
  refine V_istore_n 3 [some (.ref 116), some (.int a), some (.int 0), some (.int 0), none] d_Mod_count_3 rfl (by decide) rfl rfl ?_
  refine V_iconst 0 d_Mod_count_4 (by decide) ?_
  refine V_istore 4 [some (.ref 116), some (.int a), some (.int 0), some (.int 0), some (.int 0)] d_Mod_count_5 (by decide) rfl rfl ?_
  have L3 : ∀ (nn : Nat) (v5 : Int32) (v5Z : Int) (v6 : Int32) (v6Z : Int), v5.toInt = v5Z → v6.toInt = v6Z → 0 ≤ v6Z ∧ v6Z ≤ wZ * gZ → v5Z = (ct (BQ (fun i => h.1 117 (64 + i)) 1 (wZ * gZ)) (v6Z).toNat : Nat) → 0 ≤ v5Z ∧ v5Z ≤ v6Z → 16 - v6Z < (nn : Int) → V R_Mod b_Mod_count 5 (some .int) 3 64 (q_Mod_countX h a aZ w wZ g gZ) h 7 [some (.ref 116), some (.int a), some (.int v5), some (.int 0), some (.int v6)] [] := by
    intro nn
    induction nn with
    | zero => intro v5 v5Z v6 v6Z v5E v6E q7 q8 q9 hm10; exact absurd hm10 (by (first | decide +kernel | omega))
    | succ nn ihL3 =>
      intro v5 v5Z v6 v6Z v5E v6E q7 q8 q9 hm10
      refine V_iload d_Mod_count_7 rfl ?_
      refine V_aload_n 0 d_Mod_count_9 rfl rfl ?_
      refine N_callVI [] [.int v6] cv_Mod_183 sk_116 rfl d_Mod_count_10 rfl (Nat.le_of_ble_eq_true rfl) (by decide) (by decide) (c_Mod_cellMany h hI w wZ wE wK g gZ gE gK) (fun z11 h12 z11Z z11E p13 => ?_)
      obtain ⟨eh12, p13⟩ := p13
      subst eh12
      refine V_icmp_ge 46 v6E z11E d_Mod_count_13 (by decide) (fun c14 => ?_) (fun c14 => ?_)
      ·
        have hn1 : v5Z = (ct (BQ (fun i => h.1 117 (64 + i)) 1 (wZ * gZ)) (wZ * gZ).toNat : Nat) := by rw [show (wZ * gZ).toNat = (v6Z).toNat by (first | decide +kernel | omega)]; assumption
        refine V_iconst 0 d_Mod_count_46 (by decide) ?_
        refine V_istore 4 [some (.ref 116), some (.int a), some (.int v5), some (.int 0), some (.int 0)] d_Mod_count_47 (by decide) rfl rfl ?_
        have L15 : ∀ (nn : Nat) (v17 : Int32) (v17Z : Int) (v18 : Int32) (v18Z : Int), v17.toInt = v17Z → v18.toInt = v18Z → 0 ≤ v18Z ∧ v18Z ≤ 4 → v17 = sm (fun i => h.1 117 (80 + i)) (v18Z).toNat → 4 - v18Z < (nn : Int) → V R_Mod b_Mod_count 5 (some .int) 3 64 (q_Mod_countX h a aZ w wZ g gZ) h 49 [some (.ref 116), some (.int a), some (.int v5), some (.int v17), some (.int v18)] [] := by
          intro nn
          induction nn with
          | zero => intro v17 v17Z v18 v18Z v17E v18E q19 q20 hm21; exact absurd hm21 (by (first | decide +kernel | omega))
          | succ nn ihL15 =>
            intro v17 v17Z v18 v18Z v17E v18E q19 q20 hm21
            refine V_iload d_Mod_count_49 rfl ?_
            refine V_iconst 4 d_Mod_count_51 (by decide) ?_
            refine V_icmp_ge 74 v18E tc_4 d_Mod_count_52 (by decide) (fun c22 => ?_) (fun c22 => ?_)
            ·
              have hs6 : v17 = sm (fun i => h.1 117 (80 + i)) 4 := by rw [show (4 : Nat) = (v18Z).toNat by (first | decide +kernel | omega)]; assumption
              refine V_iload_n 1 d_Mod_count_74 rfl rfl ?_
              rcases (by (first | decide +kernel | omega) : (aZ < 0 ∨ 6 < aZ) ∨ aZ = 0 ∨ aZ = 1 ∨ aZ = 2 ∨ aZ = 3 ∨ aZ = 4 ∨ aZ = 5 ∨ aZ = 6) with c23 | c23 | c23 | c23 | c23 | c23 | c23 | c23
              ·
                refine V_tabOut 181 aE d_Mod_count_75 c23 (by decide) ?_
                refine V_iconst (-1) d_Mod_count_181 (by decide) ?_
                exact V_iret rfl d_Mod_count_182 ⟨(-1), rfl, ⟨rfl, (Or.inr (Or.inr (Or.inr (Or.inr (Or.inr (Or.inr (Or.inr ⟨by (first | decide +kernel | omega), tc_m1⟩)))))))⟩⟩
              ·
                refine V_tabIn 116 aE d_Mod_count_75 (by (first | decide +kernel | omega)) (by (first | decide +kernel | omega)) (by rw [c23]; rfl) (by decide) ?_
                refine V_aload_n 0 d_Mod_count_116 rfl rfl ?_
                refine N_callVI [] [] cv_Mod_223 sk_116 rfl d_Mod_count_117 rfl (Nat.le_of_ble_eq_true rfl) (by decide) (by decide) (c_Mod_wellsX h hI w wZ wE wK g gZ gE gK) (fun z24 h25 z24Z z24E p26 => ?_)
                obtain ⟨eh25, p26⟩ := p26
                subst eh25
                exact V_iret rfl d_Mod_count_120 ⟨z24, rfl, ⟨rfl, (Or.inl ⟨by (first | decide +kernel | omega), p26⟩)⟩⟩
              ·
                refine V_tabIn 121 aE d_Mod_count_75 (by (first | decide +kernel | omega)) (by (first | decide +kernel | omega)) (by rw [c23]; rfl) (by decide) ?_
                refine V_iload_n 2 d_Mod_count_121 rfl rfl ?_
                exact V_iret rfl d_Mod_count_122 ⟨v5, rfl, ⟨rfl, (Or.inr (Or.inl ⟨by (first | decide +kernel | omega), (v5E.trans hn1)⟩))⟩⟩
              ·
                refine V_tabIn 123 aE d_Mod_count_75 (by (first | decide +kernel | omega)) (by (first | decide +kernel | omega)) (by rw [c23]; rfl) (by decide) ?_
                refine V_aload_n 0 d_Mod_count_123 rfl rfl ?_
                refine V_getR fa_Mod_7 sk_116 rfl d_Mod_count_124 ?_
                refine V_bipush 111 d_Mod_count_127 (by decide) ?_
                refine N_iald sk_117 tc_111 (by (first | decide +kernel | omega)) d_Mod_count_129 (fun z27 z27Z z27E z27e => ?_)
                have g28 : 0 ≤ z27Z ∧ z27Z ≤ 8 := inv_at hI z27E z27e rfl
                exact V_iret rfl d_Mod_count_130 ⟨z27, rfl, ⟨rfl, (Or.inr (Or.inr (Or.inl ⟨by (first | decide +kernel | omega), (z27e.symm).symm⟩)))⟩⟩
              ·
                refine V_tabIn 131 aE d_Mod_count_75 (by (first | decide +kernel | omega)) (by (first | decide +kernel | omega)) (by rw [c23]; rfl) (by decide) ?_
                refine V_aload_n 0 d_Mod_count_131 rfl rfl ?_
                refine V_getR fa_Mod_13 sk_116 rfl d_Mod_count_132 ?_
                refine V_iconst 0 d_Mod_count_135 (by decide) ?_
                refine N_zald sk_118 tc_0 (by (first | decide +kernel | omega)) d_Mod_count_136 (fun z29 z29Z z29E z29e => ?_)
                refine N_callSI [.int z29] [] cs_Mod_196 d_Mod_count_137 rfl (Nat.le_of_ble_eq_true rfl) (by decide) (by decide) (c_Mod_flag h z29 z29Z z29E) (fun z30 h31 z30Z z30E p32 => ?_)
                obtain ⟨eh31, p32⟩ := p32
                subst eh31
                refine V_aload_n 0 d_Mod_count_140 rfl rfl ?_
                refine V_getR fa_Mod_13 sk_116 rfl d_Mod_count_141 ?_
                refine V_iconst 1 d_Mod_count_144 (by decide) ?_
                refine N_zald sk_118 tc_1 (by (first | decide +kernel | omega)) d_Mod_count_145 (fun z33 z33Z z33E z33e => ?_)
                refine N_callSI [.int z33] [.int z30] cs_Mod_196 d_Mod_count_146 rfl (Nat.le_of_ble_eq_true rfl) (by decide) (by decide) (c_Mod_flag h z33 z33Z z33E) (fun z34 h35 z34Z z34E p36 => ?_)
                obtain ⟨eh35, p36⟩ := p36
                subst eh35
                refine V_iadd z30E z34E (by (first | decide +kernel | omega)) d_Mod_count_149 (fun z37 z37e z37E => ?_)
                exact V_iret rfl d_Mod_count_150 ⟨z37, rfl, ⟨rfl, (Or.inr (Or.inr (Or.inr (Or.inl ⟨by (first | decide +kernel | omega), z30, z34, FQ_of z29e rfl z29E p32, FQ_of z33e rfl z33E p36, z37e⟩))))⟩⟩
              ·
                refine V_tabIn 151 aE d_Mod_count_75 (by (first | decide +kernel | omega)) (by (first | decide +kernel | omega)) (by rw [c23]; rfl) (by decide) ?_
                refine V_aload_n 0 d_Mod_count_151 rfl rfl ?_
                refine N_getI fa_Mod_99 sk_116 rfl d_Mod_count_152 (fun z38 z38Z z38E z38e => ?_)
                have g39 : 0 ≤ z38Z ∧ z38Z ≤ 160 := inv_at hI z38E z38e rfl
                exact V_iret rfl d_Mod_count_155 ⟨z38, rfl, ⟨rfl, (Or.inr (Or.inr (Or.inr (Or.inr (Or.inl ⟨by (first | decide +kernel | omega), (z38e.symm).symm⟩)))))⟩⟩
              ·
                refine V_tabIn 156 aE d_Mod_count_75 (by (first | decide +kernel | omega)) (by (first | decide +kernel | omega)) (by rw [c23]; rfl) (by decide) ?_
                refine V_aload_n 0 d_Mod_count_156 rfl rfl ?_
                refine V_getR fa_Mod_44 sk_116 rfl d_Mod_count_157 ?_
                refine V_iconst 0 d_Mod_count_160 (by decide) ?_
                refine N_iald sk_128 tc_0 (by (first | decide +kernel | omega)) d_Mod_count_161 (fun z40 z40Z z40E z40e => ?_)
                refine V_bipush (-4) d_Mod_count_162 (by decide) ?_
                refine V_icmp_ne 172 z40E tc_m4 d_Mod_count_164 (by decide) (fun c41 => ?_) (fun c41 => ?_)
                ·
                  refine V_aload_n 0 d_Mod_count_172 rfl rfl ?_
                  refine V_getR fa_Mod_47 sk_116 rfl d_Mod_count_173 ?_
                  refine V_iconst 0 d_Mod_count_176 (by decide) ?_
                  refine N_iald sk_129 tc_0 (by (first | decide +kernel | omega)) d_Mod_count_177 (fun z42 z42Z z42E z42e => ?_)
                  have g43 : 0 ≤ z42Z ∧ z42Z ≤ 40 := inv_at hI z42E z42e rfl
                  exact V_iret rfl d_Mod_count_178 ⟨z42, rfl, ⟨rfl, (Or.inr (Or.inr (Or.inr (Or.inr (Or.inr (Or.inl ⟨by (first | decide +kernel | omega), Or.inr ⟨by rw [show h.1 128 0 = z40 from z40e.symm, z40E]; omega, (z42e.symm).symm⟩⟩))))))⟩⟩
                ·
                  refine V_bipush (-4) d_Mod_count_167 (by decide) ?_
                  refine V_goto 178 d_Mod_count_169 (by decide) ?_
                  exact V_iret rfl d_Mod_count_178 ⟨(-4), rfl, ⟨rfl, (Or.inr (Or.inr (Or.inr (Or.inr (Or.inr (Or.inl ⟨by (first | decide +kernel | omega), Or.inl ⟨by rw [show h.1 128 0 = z40 from z40e.symm, z40E]; omega, tc_m4⟩⟩))))))⟩⟩
              ·
                refine V_tabIn 179 aE d_Mod_count_75 (by (first | decide +kernel | omega)) (by (first | decide +kernel | omega)) (by rw [c23]; rfl) (by decide) ?_
                refine V_iload_n 3 d_Mod_count_179 rfl rfl ?_
                exact V_iret rfl d_Mod_count_180 ⟨v17, rfl, ⟨rfl, (Or.inr (Or.inr (Or.inr (Or.inr (Or.inr (Or.inr (Or.inl ⟨by (first | decide +kernel | omega), hs6⟩)))))))⟩⟩
            ·
              refine V_iload_n 3 d_Mod_count_55 rfl rfl ?_
              refine V_aload_n 0 d_Mod_count_56 rfl rfl ?_
              refine V_getR fa_Mod_7 sk_116 rfl d_Mod_count_57 ?_
              refine V_bipush 80 d_Mod_count_60 (by decide) ?_
              refine V_iload d_Mod_count_62 rfl ?_
              refine V_iadd tc_80 v18E (by (first | decide +kernel | omega)) d_Mod_count_64 (fun z44 z44e z44E => ?_)
              refine N_iald sk_117 z44E (by (first | decide +kernel | omega)) d_Mod_count_65 (fun z45 z45Z z45E z45e => ?_)
              refine N_iaddw d_Mod_count_66 (fun z46 z46Z z46E z46e => ?_)
              refine V_istore_n 3 [some (.ref 116), some (.int a), some (.int v5), some (.int z46), some (.int v18)] d_Mod_count_67 rfl (by decide) rfl rfl ?_
              obtain ⟨z47, z47E, z47e⟩ : ∃ y : Int32, y.toInt = v18Z + 1 ∧ y = v18 + Int32.ofInt 1 := ⟨_, ti_add v18E (by decide) (by (first | decide +kernel | omega)), rfl⟩
              refine V_iinc 4 [some (.ref 116), some (.int a), some (.int v5), some (.int z46), some (.int z47)] d_Mod_count_68 rfl z47e.symm (by decide) rfl rfl ?_
              refine V_goto 49 d_Mod_count_71 (by decide) ?_
              exact ihL15 z46 z46Z z47 ((v18Z + 1)) z46E z47E (by (first | decide +kernel | omega)) (sm_s (by (first | decide +kernel | omega)) (by assumption) (z45e.trans (by show _ = h.1 117 (80 + (v18Z).toNat); rw [show (80 + v18Z).toNat = 80 + (v18Z).toNat by (first | decide +kernel | omega)])) z46e) (by (first | decide +kernel | omega))
        exact L15 (Int.toNat ((4 - 0 : Int) + 1)) 0 0 0 0 tc_0 tc_0 (by (first | decide +kernel | omega)) rfl (by (first | decide +kernel | omega))
      ·
        refine V_iload_n 2 d_Mod_count_16 rfl rfl ?_
        refine V_aload_n 0 d_Mod_count_17 rfl rfl ?_
        refine V_getR fa_Mod_7 sk_116 rfl d_Mod_count_18 ?_
        refine V_bipush 64 d_Mod_count_21 (by decide) ?_
        refine V_iload d_Mod_count_23 rfl ?_
        refine V_iadd tc_64 v6E (by (first | decide +kernel | omega)) d_Mod_count_25 (fun z48 z48e z48E => ?_)
        refine N_iald sk_117 z48E (by (first | decide +kernel | omega)) d_Mod_count_26 (fun z49 z49Z z49E z49e => ?_)
        refine V_if_le 34 z49E d_Mod_count_27 (by decide) (fun c50 => ?_) (fun c50 => ?_)
        ·
          refine V_iconst 0 d_Mod_count_34 (by decide) ?_
          refine N_callSI [.int 0] [.int v5] cs_Mod_196 d_Mod_count_35 rfl (Nat.le_of_ble_eq_true rfl) (by decide) (by decide) (c_Mod_flag h 0 0 tc_0) (fun z51 h52 z51Z z51E p53 => ?_)
          obtain ⟨eh52, p53⟩ := p53
          subst eh52
          refine V_iadd v5E z51E (by (first | decide +kernel | omega)) d_Mod_count_38 (fun z54 z54e z54E => ?_)
          refine V_istore_n 2 [some (.ref 116), some (.int a), some (.int z54), some (.int 0), some (.int v6)] d_Mod_count_39 rfl (by decide) rfl rfl ?_
          obtain ⟨z55, z55E, z55e⟩ : ∃ y : Int32, y.toInt = v6Z + 1 ∧ y = v6 + Int32.ofInt 1 := ⟨_, ti_add v6E (by decide) (by (first | decide +kernel | omega)), rfl⟩
          refine V_iinc 4 [some (.ref 116), some (.int a), some (.int z54), some (.int 0), some (.int z55)] d_Mod_count_40 rfl z55e.symm (by decide) rfl rfl ?_
          refine V_goto 7 d_Mod_count_43 (by decide) ?_
          exact ihL3 z54 ((v5Z + z51Z)) z55 ((v6Z + 1)) z54E z55E (by (first | decide +kernel | omega)) (ct_s (by (first | decide +kernel | omega)) (by assumption) (BQ_fm (by (first | decide +kernel | omega)) z49e z49E (Or.inr ⟨rfl, by (first | decide +kernel | omega)⟩) p53 z51E)) (by (first | decide +kernel | omega)) (by (first | decide +kernel | omega))
        ·
          refine V_iconst 1 d_Mod_count_30 (by decide) ?_
          refine V_goto 35 d_Mod_count_31 (by decide) ?_
          refine N_callSI [.int 1] [.int v5] cs_Mod_196 d_Mod_count_35 rfl (Nat.le_of_ble_eq_true rfl) (by decide) (by decide) (c_Mod_flag h 1 1 tc_1) (fun z56 h57 z56Z z56E p58 => ?_)
          obtain ⟨eh57, p58⟩ := p58
          subst eh57
          refine V_iadd v5E z56E (by (first | decide +kernel | omega)) d_Mod_count_38 (fun z59 z59e z59E => ?_)
          refine V_istore_n 2 [some (.ref 116), some (.int a), some (.int z59), some (.int 0), some (.int v6)] d_Mod_count_39 rfl (by decide) rfl rfl ?_
          obtain ⟨z60, z60E, z60e⟩ : ∃ y : Int32, y.toInt = v6Z + 1 ∧ y = v6 + Int32.ofInt 1 := ⟨_, ti_add v6E (by decide) (by (first | decide +kernel | omega)), rfl⟩
          refine V_iinc 4 [some (.ref 116), some (.int a), some (.int z59), some (.int 0), some (.int z60)] d_Mod_count_40 rfl z60e.symm (by decide) rfl rfl ?_
          refine V_goto 7 d_Mod_count_43 (by decide) ?_
          exact ihL3 z59 ((v5Z + z56Z)) z60 ((v6Z + 1)) z59E z60E (by (first | decide +kernel | omega)) (ct_s (by (first | decide +kernel | omega)) (by assumption) (BQ_fm (by (first | decide +kernel | omega)) z49e z49E (Or.inl ⟨rfl, by (first | decide +kernel | omega)⟩) p58 z56E)) (by (first | decide +kernel | omega)) (by (first | decide +kernel | omega))
  exact L3 (Int.toNat ((16 - 0 : Int) + 1)) 0 0 0 0 tc_0 tc_0 (by (first | decide +kernel | omega)) rfl (by (first | decide +kernel | omega)) (by (first | decide +kernel | omega))
end
section
theorem dl_18 : decode code 18 = .ok (.iload_n 3, 1) := dc_29 (dcc (r := 18) lq_0 rfl (Nat.le_of_ble_eq_true rfl) (by decide +kernel))
theorem dl_19 : decode code 19 = .ok (.aload_n 0, 1) := dc_42 (dcc (r := 19) lq_0 rfl (Nat.le_of_ble_eq_true rfl) (by decide +kernel))
theorem dl_20 : decode code 20 = .ok (.arraylength, 1) := dc_190 (dcc (r := 20) lq_0 rfl (Nat.le_of_ble_eq_true rfl) (by decide +kernel))
theorem dl_21 : decode code 21 = .ok (.iconst 5, 1) := dc_8 (dcc (r := 21) lq_0 rfl (Nat.le_of_ble_eq_true rfl) (by decide +kernel))
theorem dl_22 : decode code 22 = .ok (.isub, 1) := dc_100 (dcc (r := 22) lq_0 rfl (Nat.le_of_ble_eq_true rfl) (by decide +kernel))
theorem dl_23 : decode code 23 = .ok (.if_icmp .gt 1342, 3) := dc_163 (a := 5) (b := 62) (dcc (r := 23) lq_0 rfl (Nat.le_of_ble_eq_true rfl) (by decide +kernel)) rfl
theorem dl_26 : decode code 26 = .ok (.aload_n 0, 1) := dc_42 (dcc (r := 26) lq_0 rfl (Nat.le_of_ble_eq_true rfl) (by decide +kernel))
theorem dl_27 : decode code 27 = .ok (.iload_n 3, 1) := dc_29 (dcc (r := 27) lq_0 rfl (Nat.le_of_ble_eq_true rfl) (by decide +kernel))
theorem dl_28 : decode code 28 = .ok (.iaload, 1) := dc_46 (dcc (r := 28) lq_0 rfl (Nat.le_of_ble_eq_true rfl) (by decide +kernel))
theorem dl_29 : decode code 29 = .ok (.bipush 63, 2) := dc_16 (a := 63) (dcc (r := 29) lq_0 rfl (Nat.le_of_ble_eq_true rfl) (by decide +kernel)) rfl
theorem dl_31 : decode code 31 = .ok (.iand, 1) := dc_126 (dcc (r := 31) lq_0 rfl (Nat.le_of_ble_eq_true rfl) (by decide +kernel))
theorem dl_32 : decode code 32 = .ok (.tableswitch 1327 0 36 #[164, 187, 210, 223, 236, 259, 292, 315, 348, 397, 430, 463, 496, 529, 572, 595, 618, 661, 730, 753, 766, 789, 822, 875, 918, 971, 994, 1027, 1050, 1073, 1106, 1129, 1152, 1195, 1238, 1291, 1304], 164) := by decide +kernel
theorem dl_196 : decode code 196 = .ok (.aload_n 1, 1) := dc_43 (dcc (r := 4) lq_3 rfl (Nat.le_of_ble_eq_true rfl) (by decide +kernel))
theorem dl_197 : decode code 197 = .ok (.aload_n 0, 1) := dc_42 (dcc (r := 5) lq_3 rfl (Nat.le_of_ble_eq_true rfl) (by decide +kernel))
theorem dl_198 : decode code 198 = .ok (.iload_n 3, 1) := dc_29 (dcc (r := 6) lq_3 rfl (Nat.le_of_ble_eq_true rfl) (by decide +kernel))
theorem dl_199 : decode code 199 = .ok (.iconst 1, 1) := dc_4 (dcc (r := 7) lq_3 rfl (Nat.le_of_ble_eq_true rfl) (by decide +kernel))
theorem dl_200 : decode code 200 = .ok (.iadd, 1) := dc_96 (dcc (r := 8) lq_3 rfl (Nat.le_of_ble_eq_true rfl) (by decide +kernel))
theorem dl_201 : decode code 201 = .ok (.iaload, 1) := dc_46 (dcc (r := 9) lq_3 rfl (Nat.le_of_ble_eq_true rfl) (by decide +kernel))
theorem dl_202 : decode code 202 = .ok (.invokevirtual 13, 3) := dc_182 (a := 0) (b := 13) (dcc (r := 10) lq_3 rfl (Nat.le_of_ble_eq_true rfl) (by decide +kernel)) rfl
theorem dl_205 : decode code 205 = .ok (.pop, 1) := dc_87 (dcc (r := 13) lq_3 rfl (Nat.le_of_ble_eq_true rfl) (by decide +kernel))
theorem dl_206 : decode code 206 = .ok (.aload_n 2, 1) := dc_44 (dcc (r := 14) lq_3 rfl (Nat.le_of_ble_eq_true rfl) (by decide +kernel))
theorem dl_207 : decode code 207 = .ok (.aload_n 0, 1) := dc_42 (dcc (r := 15) lq_3 rfl (Nat.le_of_ble_eq_true rfl) (by decide +kernel))
theorem dl_208 : decode code 208 = .ok (.iload_n 3, 1) := dc_29 (dcc (r := 16) lq_3 rfl (Nat.le_of_ble_eq_true rfl) (by decide +kernel))
theorem dl_209 : decode code 209 = .ok (.iconst 1, 1) := dc_4 (dcc (r := 17) lq_3 rfl (Nat.le_of_ble_eq_true rfl) (by decide +kernel))
theorem dl_210 : decode code 210 = .ok (.iadd, 1) := dc_96 (dcc (r := 18) lq_3 rfl (Nat.le_of_ble_eq_true rfl) (by decide +kernel))
theorem dl_211 : decode code 211 = .ok (.iaload, 1) := dc_46 (dcc (r := 19) lq_3 rfl (Nat.le_of_ble_eq_true rfl) (by decide +kernel))
theorem dl_212 : decode code 212 = .ok (.invokevirtual 17, 3) := dc_182 (a := 0) (b := 17) (dcc (r := 20) lq_3 rfl (Nat.le_of_ble_eq_true rfl) (by decide +kernel)) rfl
theorem dl_215 : decode code 215 = .ok (.pop, 1) := dc_87 (dcc (r := 23) lq_3 rfl (Nat.le_of_ble_eq_true rfl) (by decide +kernel))
theorem dl_216 : decode code 216 = .ok (.goto 1143, 3) := dc_167 (a := 4) (b := 119) (dcc (r := 24) lq_3 rfl (Nat.le_of_ble_eq_true rfl) (by decide +kernel)) rfl
theorem dl_219 : decode code 219 = .ok (.aload_n 1, 1) := dc_43 (dcc (r := 27) lq_3 rfl (Nat.le_of_ble_eq_true rfl) (by decide +kernel))
theorem dl_220 : decode code 220 = .ok (.aload_n 0, 1) := dc_42 (dcc (r := 28) lq_3 rfl (Nat.le_of_ble_eq_true rfl) (by decide +kernel))
theorem dl_221 : decode code 221 = .ok (.iload_n 3, 1) := dc_29 (dcc (r := 29) lq_3 rfl (Nat.le_of_ble_eq_true rfl) (by decide +kernel))
theorem dl_222 : decode code 222 = .ok (.iconst 1, 1) := dc_4 (dcc (r := 30) lq_3 rfl (Nat.le_of_ble_eq_true rfl) (by decide +kernel))
theorem dl_223 : decode code 223 = .ok (.iadd, 1) := dc_96 (dcc (r := 31) lq_3 rfl (Nat.le_of_ble_eq_true rfl) (by decide +kernel))
theorem dl_224 : decode code 224 = .ok (.iaload, 1) := dc_46 (dcc (r := 32) lq_3 rfl (Nat.le_of_ble_eq_true rfl) (by decide +kernel))
theorem dl_225 : decode code 225 = .ok (.invokevirtual 18, 3) := dc_182 (a := 0) (b := 18) (dcc (r := 33) lq_3 rfl (Nat.le_of_ble_eq_true rfl) (by decide +kernel)) rfl
theorem dl_228 : decode code 228 = .ok (.pop, 1) := dc_87 (dcc (r := 36) lq_3 rfl (Nat.le_of_ble_eq_true rfl) (by decide +kernel))
theorem dl_229 : decode code 229 = .ok (.aload_n 2, 1) := dc_44 (dcc (r := 37) lq_3 rfl (Nat.le_of_ble_eq_true rfl) (by decide +kernel))
theorem dl_230 : decode code 230 = .ok (.aload_n 0, 1) := dc_42 (dcc (r := 38) lq_3 rfl (Nat.le_of_ble_eq_true rfl) (by decide +kernel))
theorem dl_231 : decode code 231 = .ok (.iload_n 3, 1) := dc_29 (dcc (r := 39) lq_3 rfl (Nat.le_of_ble_eq_true rfl) (by decide +kernel))
theorem dl_232 : decode code 232 = .ok (.iconst 1, 1) := dc_4 (dcc (r := 40) lq_3 rfl (Nat.le_of_ble_eq_true rfl) (by decide +kernel))
theorem dl_233 : decode code 233 = .ok (.iadd, 1) := dc_96 (dcc (r := 41) lq_3 rfl (Nat.le_of_ble_eq_true rfl) (by decide +kernel))
theorem dl_234 : decode code 234 = .ok (.iaload, 1) := dc_46 (dcc (r := 42) lq_3 rfl (Nat.le_of_ble_eq_true rfl) (by decide +kernel))
theorem dl_235 : decode code 235 = .ok (.invokevirtual 21, 3) := dc_182 (a := 0) (b := 21) (dcc (r := 43) lq_3 rfl (Nat.le_of_ble_eq_true rfl) (by decide +kernel)) rfl
theorem dl_238 : decode code 238 = .ok (.pop, 1) := dc_87 (dcc (r := 46) lq_3 rfl (Nat.le_of_ble_eq_true rfl) (by decide +kernel))
theorem dl_239 : decode code 239 = .ok (.goto 1120, 3) := dc_167 (a := 4) (b := 96) (dcc (r := 47) lq_3 rfl (Nat.le_of_ble_eq_true rfl) (by decide +kernel)) rfl
theorem dl_242 : decode code 242 = .ok (.aload_n 1, 1) := dc_43 (dcc (r := 50) lq_3 rfl (Nat.le_of_ble_eq_true rfl) (by decide +kernel))
theorem dl_243 : decode code 243 = .ok (.invokevirtual 22, 3) := dc_182 (a := 0) (b := 22) (dcc (r := 51) lq_3 rfl (Nat.le_of_ble_eq_true rfl) (by decide +kernel)) rfl
theorem dl_246 : decode code 246 = .ok (.pop, 1) := dc_87 (dcc (r := 54) lq_3 rfl (Nat.le_of_ble_eq_true rfl) (by decide +kernel))
theorem dl_247 : decode code 247 = .ok (.aload_n 2, 1) := dc_44 (dcc (r := 55) lq_3 rfl (Nat.le_of_ble_eq_true rfl) (by decide +kernel))
theorem dl_248 : decode code 248 = .ok (.invokevirtual 26, 3) := dc_182 (a := 0) (b := 26) (dcc (r := 56) lq_3 rfl (Nat.le_of_ble_eq_true rfl) (by decide +kernel)) rfl
theorem dl_251 : decode code 251 = .ok (.pop, 1) := dc_87 (dcc (r := 59) lq_3 rfl (Nat.le_of_ble_eq_true rfl) (by decide +kernel))
theorem dl_252 : decode code 252 = .ok (.goto 1107, 3) := dc_167 (a := 4) (b := 83) (dcc (r := 60) lq_3 rfl (Nat.le_of_ble_eq_true rfl) (by decide +kernel)) rfl
theorem dl_255 : decode code 255 = .ok (.aload_n 1, 1) := dc_43 (dcc (r := 63) lq_3 rfl (Nat.le_of_ble_eq_true rfl) (by decide +kernel))
theorem dl_256 : decode code 256 = .ok (.invokevirtual 27, 3) := dc_182 (a := 0) (b := 27) (dcc (r := 0) lq_4 rfl (Nat.le_of_ble_eq_true rfl) (by decide +kernel)) rfl
theorem dl_259 : decode code 259 = .ok (.pop, 1) := dc_87 (dcc (r := 3) lq_4 rfl (Nat.le_of_ble_eq_true rfl) (by decide +kernel))
theorem dl_260 : decode code 260 = .ok (.aload_n 2, 1) := dc_44 (dcc (r := 4) lq_4 rfl (Nat.le_of_ble_eq_true rfl) (by decide +kernel))
theorem dl_261 : decode code 261 = .ok (.invokevirtual 30, 3) := dc_182 (a := 0) (b := 30) (dcc (r := 5) lq_4 rfl (Nat.le_of_ble_eq_true rfl) (by decide +kernel)) rfl
theorem dl_264 : decode code 264 = .ok (.pop, 1) := dc_87 (dcc (r := 8) lq_4 rfl (Nat.le_of_ble_eq_true rfl) (by decide +kernel))
theorem dl_265 : decode code 265 = .ok (.goto 1094, 3) := dc_167 (a := 4) (b := 70) (dcc (r := 9) lq_4 rfl (Nat.le_of_ble_eq_true rfl) (by decide +kernel)) rfl
theorem dl_268 : decode code 268 = .ok (.aload_n 1, 1) := dc_43 (dcc (r := 12) lq_4 rfl (Nat.le_of_ble_eq_true rfl) (by decide +kernel))
theorem dl_269 : decode code 269 = .ok (.aload_n 0, 1) := dc_42 (dcc (r := 13) lq_4 rfl (Nat.le_of_ble_eq_true rfl) (by decide +kernel))
theorem dl_270 : decode code 270 = .ok (.iload_n 3, 1) := dc_29 (dcc (r := 14) lq_4 rfl (Nat.le_of_ble_eq_true rfl) (by decide +kernel))
theorem dl_271 : decode code 271 = .ok (.iconst 1, 1) := dc_4 (dcc (r := 15) lq_4 rfl (Nat.le_of_ble_eq_true rfl) (by decide +kernel))
theorem dl_272 : decode code 272 = .ok (.iadd, 1) := dc_96 (dcc (r := 16) lq_4 rfl (Nat.le_of_ble_eq_true rfl) (by decide +kernel))
theorem dl_273 : decode code 273 = .ok (.iaload, 1) := dc_46 (dcc (r := 17) lq_4 rfl (Nat.le_of_ble_eq_true rfl) (by decide +kernel))
theorem dl_274 : decode code 274 = .ok (.invokevirtual 31, 3) := dc_182 (a := 0) (b := 31) (dcc (r := 18) lq_4 rfl (Nat.le_of_ble_eq_true rfl) (by decide +kernel)) rfl
theorem dl_277 : decode code 277 = .ok (.pop, 1) := dc_87 (dcc (r := 21) lq_4 rfl (Nat.le_of_ble_eq_true rfl) (by decide +kernel))
theorem dl_278 : decode code 278 = .ok (.aload_n 2, 1) := dc_44 (dcc (r := 22) lq_4 rfl (Nat.le_of_ble_eq_true rfl) (by decide +kernel))
theorem dl_279 : decode code 279 = .ok (.aload_n 0, 1) := dc_42 (dcc (r := 23) lq_4 rfl (Nat.le_of_ble_eq_true rfl) (by decide +kernel))
theorem dl_280 : decode code 280 = .ok (.iload_n 3, 1) := dc_29 (dcc (r := 24) lq_4 rfl (Nat.le_of_ble_eq_true rfl) (by decide +kernel))
theorem dl_281 : decode code 281 = .ok (.iconst 1, 1) := dc_4 (dcc (r := 25) lq_4 rfl (Nat.le_of_ble_eq_true rfl) (by decide +kernel))
theorem dl_282 : decode code 282 = .ok (.iadd, 1) := dc_96 (dcc (r := 26) lq_4 rfl (Nat.le_of_ble_eq_true rfl) (by decide +kernel))
theorem dl_283 : decode code 283 = .ok (.iaload, 1) := dc_46 (dcc (r := 27) lq_4 rfl (Nat.le_of_ble_eq_true rfl) (by decide +kernel))
theorem dl_284 : decode code 284 = .ok (.invokevirtual 34, 3) := dc_182 (a := 0) (b := 34) (dcc (r := 28) lq_4 rfl (Nat.le_of_ble_eq_true rfl) (by decide +kernel)) rfl
theorem dl_287 : decode code 287 = .ok (.pop, 1) := dc_87 (dcc (r := 31) lq_4 rfl (Nat.le_of_ble_eq_true rfl) (by decide +kernel))
theorem dl_288 : decode code 288 = .ok (.goto 1071, 3) := dc_167 (a := 4) (b := 47) (dcc (r := 32) lq_4 rfl (Nat.le_of_ble_eq_true rfl) (by decide +kernel)) rfl
theorem dl_291 : decode code 291 = .ok (.aload_n 1, 1) := dc_43 (dcc (r := 35) lq_4 rfl (Nat.le_of_ble_eq_true rfl) (by decide +kernel))
theorem dl_292 : decode code 292 = .ok (.aload_n 0, 1) := dc_42 (dcc (r := 36) lq_4 rfl (Nat.le_of_ble_eq_true rfl) (by decide +kernel))
theorem dl_293 : decode code 293 = .ok (.iload_n 3, 1) := dc_29 (dcc (r := 37) lq_4 rfl (Nat.le_of_ble_eq_true rfl) (by decide +kernel))
theorem dl_294 : decode code 294 = .ok (.iconst 1, 1) := dc_4 (dcc (r := 38) lq_4 rfl (Nat.le_of_ble_eq_true rfl) (by decide +kernel))
theorem dl_295 : decode code 295 = .ok (.iadd, 1) := dc_96 (dcc (r := 39) lq_4 rfl (Nat.le_of_ble_eq_true rfl) (by decide +kernel))
theorem dl_296 : decode code 296 = .ok (.iaload, 1) := dc_46 (dcc (r := 40) lq_4 rfl (Nat.le_of_ble_eq_true rfl) (by decide +kernel))
theorem dl_297 : decode code 297 = .ok (.aload_n 0, 1) := dc_42 (dcc (r := 41) lq_4 rfl (Nat.le_of_ble_eq_true rfl) (by decide +kernel))
theorem dl_298 : decode code 298 = .ok (.iload_n 3, 1) := dc_29 (dcc (r := 42) lq_4 rfl (Nat.le_of_ble_eq_true rfl) (by decide +kernel))
theorem dl_299 : decode code 299 = .ok (.iconst 2, 1) := dc_5 (dcc (r := 43) lq_4 rfl (Nat.le_of_ble_eq_true rfl) (by decide +kernel))
theorem dl_300 : decode code 300 = .ok (.iadd, 1) := dc_96 (dcc (r := 44) lq_4 rfl (Nat.le_of_ble_eq_true rfl) (by decide +kernel))
theorem dl_301 : decode code 301 = .ok (.iaload, 1) := dc_46 (dcc (r := 45) lq_4 rfl (Nat.le_of_ble_eq_true rfl) (by decide +kernel))
theorem dl_302 : decode code 302 = .ok (.invokevirtual 35, 3) := dc_182 (a := 0) (b := 35) (dcc (r := 46) lq_4 rfl (Nat.le_of_ble_eq_true rfl) (by decide +kernel)) rfl
theorem dl_305 : decode code 305 = .ok (.pop, 1) := dc_87 (dcc (r := 49) lq_4 rfl (Nat.le_of_ble_eq_true rfl) (by decide +kernel))
theorem dl_306 : decode code 306 = .ok (.aload_n 2, 1) := dc_44 (dcc (r := 50) lq_4 rfl (Nat.le_of_ble_eq_true rfl) (by decide +kernel))
theorem dl_307 : decode code 307 = .ok (.aload_n 0, 1) := dc_42 (dcc (r := 51) lq_4 rfl (Nat.le_of_ble_eq_true rfl) (by decide +kernel))
theorem dl_308 : decode code 308 = .ok (.iload_n 3, 1) := dc_29 (dcc (r := 52) lq_4 rfl (Nat.le_of_ble_eq_true rfl) (by decide +kernel))
theorem dl_309 : decode code 309 = .ok (.iconst 1, 1) := dc_4 (dcc (r := 53) lq_4 rfl (Nat.le_of_ble_eq_true rfl) (by decide +kernel))
theorem dl_310 : decode code 310 = .ok (.iadd, 1) := dc_96 (dcc (r := 54) lq_4 rfl (Nat.le_of_ble_eq_true rfl) (by decide +kernel))
theorem dl_311 : decode code 311 = .ok (.iaload, 1) := dc_46 (dcc (r := 55) lq_4 rfl (Nat.le_of_ble_eq_true rfl) (by decide +kernel))
theorem dl_312 : decode code 312 = .ok (.aload_n 0, 1) := dc_42 (dcc (r := 56) lq_4 rfl (Nat.le_of_ble_eq_true rfl) (by decide +kernel))
theorem dl_313 : decode code 313 = .ok (.iload_n 3, 1) := dc_29 (dcc (r := 57) lq_4 rfl (Nat.le_of_ble_eq_true rfl) (by decide +kernel))
theorem dl_314 : decode code 314 = .ok (.iconst 2, 1) := dc_5 (dcc (r := 58) lq_4 rfl (Nat.le_of_ble_eq_true rfl) (by decide +kernel))
theorem dl_315 : decode code 315 = .ok (.iadd, 1) := dc_96 (dcc (r := 59) lq_4 rfl (Nat.le_of_ble_eq_true rfl) (by decide +kernel))
theorem dl_316 : decode code 316 = .ok (.iaload, 1) := dc_46 (dcc (r := 60) lq_4 rfl (Nat.le_of_ble_eq_true rfl) (by decide +kernel))
theorem dl_317 : decode code 317 = .ok (.invokevirtual 39, 3) := dc_182 (a := 0) (b := 39) (dcc (r := 61) lq_4 rfl (Nat.le_of_ble_eq_true rfl) (by decide +kernel)) rfl
theorem dl_320 : decode code 320 = .ok (.pop, 1) := dc_87 (dcc (r := 0) lq_5 rfl (Nat.le_of_ble_eq_true rfl) (by decide +kernel))
theorem dl_321 : decode code 321 = .ok (.goto 1038, 3) := dc_167 (a := 4) (b := 14) (dcc (r := 1) lq_5 rfl (Nat.le_of_ble_eq_true rfl) (by decide +kernel)) rfl
theorem dl_324 : decode code 324 = .ok (.aload_n 1, 1) := dc_43 (dcc (r := 4) lq_5 rfl (Nat.le_of_ble_eq_true rfl) (by decide +kernel))
theorem dl_325 : decode code 325 = .ok (.aload_n 0, 1) := dc_42 (dcc (r := 5) lq_5 rfl (Nat.le_of_ble_eq_true rfl) (by decide +kernel))
theorem dl_326 : decode code 326 = .ok (.iload_n 3, 1) := dc_29 (dcc (r := 6) lq_5 rfl (Nat.le_of_ble_eq_true rfl) (by decide +kernel))
theorem dl_327 : decode code 327 = .ok (.iconst 1, 1) := dc_4 (dcc (r := 7) lq_5 rfl (Nat.le_of_ble_eq_true rfl) (by decide +kernel))
theorem dl_328 : decode code 328 = .ok (.iadd, 1) := dc_96 (dcc (r := 8) lq_5 rfl (Nat.le_of_ble_eq_true rfl) (by decide +kernel))
theorem dl_329 : decode code 329 = .ok (.iaload, 1) := dc_46 (dcc (r := 9) lq_5 rfl (Nat.le_of_ble_eq_true rfl) (by decide +kernel))
theorem dl_330 : decode code 330 = .ok (.invokevirtual 40, 3) := dc_182 (a := 0) (b := 40) (dcc (r := 10) lq_5 rfl (Nat.le_of_ble_eq_true rfl) (by decide +kernel)) rfl
theorem dl_333 : decode code 333 = .ok (.pop, 1) := dc_87 (dcc (r := 13) lq_5 rfl (Nat.le_of_ble_eq_true rfl) (by decide +kernel))
theorem dl_334 : decode code 334 = .ok (.aload_n 2, 1) := dc_44 (dcc (r := 14) lq_5 rfl (Nat.le_of_ble_eq_true rfl) (by decide +kernel))
theorem dl_335 : decode code 335 = .ok (.aload_n 0, 1) := dc_42 (dcc (r := 15) lq_5 rfl (Nat.le_of_ble_eq_true rfl) (by decide +kernel))
theorem dl_336 : decode code 336 = .ok (.iload_n 3, 1) := dc_29 (dcc (r := 16) lq_5 rfl (Nat.le_of_ble_eq_true rfl) (by decide +kernel))
theorem dl_337 : decode code 337 = .ok (.iconst 1, 1) := dc_4 (dcc (r := 17) lq_5 rfl (Nat.le_of_ble_eq_true rfl) (by decide +kernel))
theorem dl_338 : decode code 338 = .ok (.iadd, 1) := dc_96 (dcc (r := 18) lq_5 rfl (Nat.le_of_ble_eq_true rfl) (by decide +kernel))
theorem dl_339 : decode code 339 = .ok (.iaload, 1) := dc_46 (dcc (r := 19) lq_5 rfl (Nat.le_of_ble_eq_true rfl) (by decide +kernel))
theorem dl_340 : decode code 340 = .ok (.invokevirtual 43, 3) := dc_182 (a := 0) (b := 43) (dcc (r := 20) lq_5 rfl (Nat.le_of_ble_eq_true rfl) (by decide +kernel)) rfl
theorem dl_343 : decode code 343 = .ok (.pop, 1) := dc_87 (dcc (r := 23) lq_5 rfl (Nat.le_of_ble_eq_true rfl) (by decide +kernel))
theorem dl_344 : decode code 344 = .ok (.goto 1015, 3) := dc_167 (a := 3) (b := 247) (dcc (r := 24) lq_5 rfl (Nat.le_of_ble_eq_true rfl) (by decide +kernel)) rfl
theorem dl_347 : decode code 347 = .ok (.aload_n 1, 1) := dc_43 (dcc (r := 27) lq_5 rfl (Nat.le_of_ble_eq_true rfl) (by decide +kernel))
theorem dl_348 : decode code 348 = .ok (.aload_n 0, 1) := dc_42 (dcc (r := 28) lq_5 rfl (Nat.le_of_ble_eq_true rfl) (by decide +kernel))
theorem dl_349 : decode code 349 = .ok (.iload_n 3, 1) := dc_29 (dcc (r := 29) lq_5 rfl (Nat.le_of_ble_eq_true rfl) (by decide +kernel))
theorem dl_350 : decode code 350 = .ok (.iconst 1, 1) := dc_4 (dcc (r := 30) lq_5 rfl (Nat.le_of_ble_eq_true rfl) (by decide +kernel))
theorem dl_351 : decode code 351 = .ok (.iadd, 1) := dc_96 (dcc (r := 31) lq_5 rfl (Nat.le_of_ble_eq_true rfl) (by decide +kernel))
theorem dl_352 : decode code 352 = .ok (.iaload, 1) := dc_46 (dcc (r := 32) lq_5 rfl (Nat.le_of_ble_eq_true rfl) (by decide +kernel))
theorem dl_353 : decode code 353 = .ok (.aload_n 0, 1) := dc_42 (dcc (r := 33) lq_5 rfl (Nat.le_of_ble_eq_true rfl) (by decide +kernel))
theorem dl_354 : decode code 354 = .ok (.iload_n 3, 1) := dc_29 (dcc (r := 34) lq_5 rfl (Nat.le_of_ble_eq_true rfl) (by decide +kernel))
theorem dl_355 : decode code 355 = .ok (.iconst 2, 1) := dc_5 (dcc (r := 35) lq_5 rfl (Nat.le_of_ble_eq_true rfl) (by decide +kernel))
theorem dl_356 : decode code 356 = .ok (.iadd, 1) := dc_96 (dcc (r := 36) lq_5 rfl (Nat.le_of_ble_eq_true rfl) (by decide +kernel))
theorem dl_357 : decode code 357 = .ok (.iaload, 1) := dc_46 (dcc (r := 37) lq_5 rfl (Nat.le_of_ble_eq_true rfl) (by decide +kernel))
theorem dl_358 : decode code 358 = .ok (.invokevirtual 44, 3) := dc_182 (a := 0) (b := 44) (dcc (r := 38) lq_5 rfl (Nat.le_of_ble_eq_true rfl) (by decide +kernel)) rfl
theorem dl_361 : decode code 361 = .ok (.pop, 1) := dc_87 (dcc (r := 41) lq_5 rfl (Nat.le_of_ble_eq_true rfl) (by decide +kernel))
theorem dl_362 : decode code 362 = .ok (.aload_n 2, 1) := dc_44 (dcc (r := 42) lq_5 rfl (Nat.le_of_ble_eq_true rfl) (by decide +kernel))
theorem dl_363 : decode code 363 = .ok (.aload_n 0, 1) := dc_42 (dcc (r := 43) lq_5 rfl (Nat.le_of_ble_eq_true rfl) (by decide +kernel))
theorem dl_364 : decode code 364 = .ok (.iload_n 3, 1) := dc_29 (dcc (r := 44) lq_5 rfl (Nat.le_of_ble_eq_true rfl) (by decide +kernel))
theorem dl_365 : decode code 365 = .ok (.iconst 1, 1) := dc_4 (dcc (r := 45) lq_5 rfl (Nat.le_of_ble_eq_true rfl) (by decide +kernel))
theorem dl_366 : decode code 366 = .ok (.iadd, 1) := dc_96 (dcc (r := 46) lq_5 rfl (Nat.le_of_ble_eq_true rfl) (by decide +kernel))
theorem dl_367 : decode code 367 = .ok (.iaload, 1) := dc_46 (dcc (r := 47) lq_5 rfl (Nat.le_of_ble_eq_true rfl) (by decide +kernel))
theorem dl_368 : decode code 368 = .ok (.aload_n 0, 1) := dc_42 (dcc (r := 48) lq_5 rfl (Nat.le_of_ble_eq_true rfl) (by decide +kernel))
theorem dl_369 : decode code 369 = .ok (.iload_n 3, 1) := dc_29 (dcc (r := 49) lq_5 rfl (Nat.le_of_ble_eq_true rfl) (by decide +kernel))
theorem dl_370 : decode code 370 = .ok (.iconst 2, 1) := dc_5 (dcc (r := 50) lq_5 rfl (Nat.le_of_ble_eq_true rfl) (by decide +kernel))
theorem dl_371 : decode code 371 = .ok (.iadd, 1) := dc_96 (dcc (r := 51) lq_5 rfl (Nat.le_of_ble_eq_true rfl) (by decide +kernel))
theorem dl_372 : decode code 372 = .ok (.iaload, 1) := dc_46 (dcc (r := 52) lq_5 rfl (Nat.le_of_ble_eq_true rfl) (by decide +kernel))
theorem dl_373 : decode code 373 = .ok (.invokevirtual 47, 3) := dc_182 (a := 0) (b := 47) (dcc (r := 53) lq_5 rfl (Nat.le_of_ble_eq_true rfl) (by decide +kernel)) rfl
theorem dl_376 : decode code 376 = .ok (.pop, 1) := dc_87 (dcc (r := 56) lq_5 rfl (Nat.le_of_ble_eq_true rfl) (by decide +kernel))
theorem dl_377 : decode code 377 = .ok (.goto 982, 3) := dc_167 (a := 3) (b := 214) (dcc (r := 57) lq_5 rfl (Nat.le_of_ble_eq_true rfl) (by decide +kernel)) rfl
theorem dl_380 : decode code 380 = .ok (.aload_n 1, 1) := dc_43 (dcc (r := 60) lq_5 rfl (Nat.le_of_ble_eq_true rfl) (by decide +kernel))
theorem dl_381 : decode code 381 = .ok (.aload_n 0, 1) := dc_42 (dcc (r := 61) lq_5 rfl (Nat.le_of_ble_eq_true rfl) (by decide +kernel))
theorem dl_382 : decode code 382 = .ok (.iload_n 3, 1) := dc_29 (dcc (r := 62) lq_5 rfl (Nat.le_of_ble_eq_true rfl) (by decide +kernel))
theorem dl_383 : decode code 383 = .ok (.iconst 1, 1) := dc_4 (dcc (r := 63) lq_5 rfl (Nat.le_of_ble_eq_true rfl) (by decide +kernel))
theorem dl_384 : decode code 384 = .ok (.iadd, 1) := dc_96 (dcc (r := 0) lq_6 rfl (Nat.le_of_ble_eq_true rfl) (by decide +kernel))
theorem dl_385 : decode code 385 = .ok (.iaload, 1) := dc_46 (dcc (r := 1) lq_6 rfl (Nat.le_of_ble_eq_true rfl) (by decide +kernel))
theorem dl_386 : decode code 386 = .ok (.aload_n 0, 1) := dc_42 (dcc (r := 2) lq_6 rfl (Nat.le_of_ble_eq_true rfl) (by decide +kernel))
theorem dl_387 : decode code 387 = .ok (.iload_n 3, 1) := dc_29 (dcc (r := 3) lq_6 rfl (Nat.le_of_ble_eq_true rfl) (by decide +kernel))
theorem dl_388 : decode code 388 = .ok (.iconst 2, 1) := dc_5 (dcc (r := 4) lq_6 rfl (Nat.le_of_ble_eq_true rfl) (by decide +kernel))
theorem dl_389 : decode code 389 = .ok (.iadd, 1) := dc_96 (dcc (r := 5) lq_6 rfl (Nat.le_of_ble_eq_true rfl) (by decide +kernel))
theorem dl_390 : decode code 390 = .ok (.iaload, 1) := dc_46 (dcc (r := 6) lq_6 rfl (Nat.le_of_ble_eq_true rfl) (by decide +kernel))
theorem dl_391 : decode code 391 = .ok (.ifCond .eq 7, 3) := dc_153 (a := 0) (b := 7) (dcc (r := 7) lq_6 rfl (Nat.le_of_ble_eq_true rfl) (by decide +kernel)) rfl
theorem dl_394 : decode code 394 = .ok (.iconst 1, 1) := dc_4 (dcc (r := 10) lq_6 rfl (Nat.le_of_ble_eq_true rfl) (by decide +kernel))
theorem dl_395 : decode code 395 = .ok (.goto 4, 3) := dc_167 (a := 0) (b := 4) (dcc (r := 11) lq_6 rfl (Nat.le_of_ble_eq_true rfl) (by decide +kernel)) rfl
theorem dl_398 : decode code 398 = .ok (.iconst 0, 1) := dc_3 (dcc (r := 14) lq_6 rfl (Nat.le_of_ble_eq_true rfl) (by decide +kernel))
theorem dl_399 : decode code 399 = .ok (.invokevirtual 48, 3) := dc_182 (a := 0) (b := 48) (dcc (r := 15) lq_6 rfl (Nat.le_of_ble_eq_true rfl) (by decide +kernel)) rfl
theorem dl_402 : decode code 402 = .ok (.pop, 1) := dc_87 (dcc (r := 18) lq_6 rfl (Nat.le_of_ble_eq_true rfl) (by decide +kernel))
theorem dl_403 : decode code 403 = .ok (.aload_n 2, 1) := dc_44 (dcc (r := 19) lq_6 rfl (Nat.le_of_ble_eq_true rfl) (by decide +kernel))
theorem dl_404 : decode code 404 = .ok (.aload_n 0, 1) := dc_42 (dcc (r := 20) lq_6 rfl (Nat.le_of_ble_eq_true rfl) (by decide +kernel))
theorem dl_405 : decode code 405 = .ok (.iload_n 3, 1) := dc_29 (dcc (r := 21) lq_6 rfl (Nat.le_of_ble_eq_true rfl) (by decide +kernel))
theorem dl_406 : decode code 406 = .ok (.iconst 1, 1) := dc_4 (dcc (r := 22) lq_6 rfl (Nat.le_of_ble_eq_true rfl) (by decide +kernel))
theorem dl_407 : decode code 407 = .ok (.iadd, 1) := dc_96 (dcc (r := 23) lq_6 rfl (Nat.le_of_ble_eq_true rfl) (by decide +kernel))
theorem dl_408 : decode code 408 = .ok (.iaload, 1) := dc_46 (dcc (r := 24) lq_6 rfl (Nat.le_of_ble_eq_true rfl) (by decide +kernel))
theorem dl_409 : decode code 409 = .ok (.aload_n 0, 1) := dc_42 (dcc (r := 25) lq_6 rfl (Nat.le_of_ble_eq_true rfl) (by decide +kernel))
theorem dl_410 : decode code 410 = .ok (.iload_n 3, 1) := dc_29 (dcc (r := 26) lq_6 rfl (Nat.le_of_ble_eq_true rfl) (by decide +kernel))
theorem dl_411 : decode code 411 = .ok (.iconst 2, 1) := dc_5 (dcc (r := 27) lq_6 rfl (Nat.le_of_ble_eq_true rfl) (by decide +kernel))
theorem dl_412 : decode code 412 = .ok (.iadd, 1) := dc_96 (dcc (r := 28) lq_6 rfl (Nat.le_of_ble_eq_true rfl) (by decide +kernel))
theorem dl_413 : decode code 413 = .ok (.iaload, 1) := dc_46 (dcc (r := 29) lq_6 rfl (Nat.le_of_ble_eq_true rfl) (by decide +kernel))
theorem dl_414 : decode code 414 = .ok (.ifCond .eq 7, 3) := dc_153 (a := 0) (b := 7) (dcc (r := 30) lq_6 rfl (Nat.le_of_ble_eq_true rfl) (by decide +kernel)) rfl
theorem dl_417 : decode code 417 = .ok (.iconst 1, 1) := dc_4 (dcc (r := 33) lq_6 rfl (Nat.le_of_ble_eq_true rfl) (by decide +kernel))
theorem dl_418 : decode code 418 = .ok (.goto 4, 3) := dc_167 (a := 0) (b := 4) (dcc (r := 34) lq_6 rfl (Nat.le_of_ble_eq_true rfl) (by decide +kernel)) rfl
theorem dl_421 : decode code 421 = .ok (.iconst 0, 1) := dc_3 (dcc (r := 37) lq_6 rfl (Nat.le_of_ble_eq_true rfl) (by decide +kernel))
theorem dl_422 : decode code 422 = .ok (.invokevirtual 52, 3) := dc_182 (a := 0) (b := 52) (dcc (r := 38) lq_6 rfl (Nat.le_of_ble_eq_true rfl) (by decide +kernel)) rfl
theorem dl_425 : decode code 425 = .ok (.pop, 1) := dc_87 (dcc (r := 41) lq_6 rfl (Nat.le_of_ble_eq_true rfl) (by decide +kernel))
theorem dl_426 : decode code 426 = .ok (.goto 933, 3) := dc_167 (a := 3) (b := 165) (dcc (r := 42) lq_6 rfl (Nat.le_of_ble_eq_true rfl) (by decide +kernel)) rfl
theorem dl_429 : decode code 429 = .ok (.aload_n 1, 1) := dc_43 (dcc (r := 45) lq_6 rfl (Nat.le_of_ble_eq_true rfl) (by decide +kernel))
theorem dl_430 : decode code 430 = .ok (.aload_n 0, 1) := dc_42 (dcc (r := 46) lq_6 rfl (Nat.le_of_ble_eq_true rfl) (by decide +kernel))
theorem dl_431 : decode code 431 = .ok (.iload_n 3, 1) := dc_29 (dcc (r := 47) lq_6 rfl (Nat.le_of_ble_eq_true rfl) (by decide +kernel))
theorem dl_432 : decode code 432 = .ok (.iconst 1, 1) := dc_4 (dcc (r := 48) lq_6 rfl (Nat.le_of_ble_eq_true rfl) (by decide +kernel))
theorem dl_433 : decode code 433 = .ok (.iadd, 1) := dc_96 (dcc (r := 49) lq_6 rfl (Nat.le_of_ble_eq_true rfl) (by decide +kernel))
theorem dl_434 : decode code 434 = .ok (.iaload, 1) := dc_46 (dcc (r := 50) lq_6 rfl (Nat.le_of_ble_eq_true rfl) (by decide +kernel))
theorem dl_435 : decode code 435 = .ok (.aload_n 0, 1) := dc_42 (dcc (r := 51) lq_6 rfl (Nat.le_of_ble_eq_true rfl) (by decide +kernel))
theorem dl_436 : decode code 436 = .ok (.iload_n 3, 1) := dc_29 (dcc (r := 52) lq_6 rfl (Nat.le_of_ble_eq_true rfl) (by decide +kernel))
theorem dl_437 : decode code 437 = .ok (.iconst 2, 1) := dc_5 (dcc (r := 53) lq_6 rfl (Nat.le_of_ble_eq_true rfl) (by decide +kernel))
theorem dl_438 : decode code 438 = .ok (.iadd, 1) := dc_96 (dcc (r := 54) lq_6 rfl (Nat.le_of_ble_eq_true rfl) (by decide +kernel))
theorem dl_439 : decode code 439 = .ok (.iaload, 1) := dc_46 (dcc (r := 55) lq_6 rfl (Nat.le_of_ble_eq_true rfl) (by decide +kernel))
theorem dl_440 : decode code 440 = .ok (.invokevirtual 53, 3) := dc_182 (a := 0) (b := 53) (dcc (r := 56) lq_6 rfl (Nat.le_of_ble_eq_true rfl) (by decide +kernel)) rfl
theorem dl_443 : decode code 443 = .ok (.pop, 1) := dc_87 (dcc (r := 59) lq_6 rfl (Nat.le_of_ble_eq_true rfl) (by decide +kernel))
theorem dl_444 : decode code 444 = .ok (.aload_n 2, 1) := dc_44 (dcc (r := 60) lq_6 rfl (Nat.le_of_ble_eq_true rfl) (by decide +kernel))
theorem dl_445 : decode code 445 = .ok (.aload_n 0, 1) := dc_42 (dcc (r := 61) lq_6 rfl (Nat.le_of_ble_eq_true rfl) (by decide +kernel))
theorem dl_446 : decode code 446 = .ok (.iload_n 3, 1) := dc_29 (dcc (r := 62) lq_6 rfl (Nat.le_of_ble_eq_true rfl) (by decide +kernel))
theorem dl_447 : decode code 447 = .ok (.iconst 1, 1) := dc_4 (dcc (r := 63) lq_6 rfl (Nat.le_of_ble_eq_true rfl) (by decide +kernel))
theorem dl_448 : decode code 448 = .ok (.iadd, 1) := dc_96 (dcc (r := 0) lq_7 rfl (Nat.le_of_ble_eq_true rfl) (by decide +kernel))
theorem dl_449 : decode code 449 = .ok (.iaload, 1) := dc_46 (dcc (r := 1) lq_7 rfl (Nat.le_of_ble_eq_true rfl) (by decide +kernel))
theorem dl_450 : decode code 450 = .ok (.aload_n 0, 1) := dc_42 (dcc (r := 2) lq_7 rfl (Nat.le_of_ble_eq_true rfl) (by decide +kernel))
theorem dl_451 : decode code 451 = .ok (.iload_n 3, 1) := dc_29 (dcc (r := 3) lq_7 rfl (Nat.le_of_ble_eq_true rfl) (by decide +kernel))
theorem dl_452 : decode code 452 = .ok (.iconst 2, 1) := dc_5 (dcc (r := 4) lq_7 rfl (Nat.le_of_ble_eq_true rfl) (by decide +kernel))
theorem dl_453 : decode code 453 = .ok (.iadd, 1) := dc_96 (dcc (r := 5) lq_7 rfl (Nat.le_of_ble_eq_true rfl) (by decide +kernel))
theorem dl_454 : decode code 454 = .ok (.iaload, 1) := dc_46 (dcc (r := 6) lq_7 rfl (Nat.le_of_ble_eq_true rfl) (by decide +kernel))
theorem dl_455 : decode code 455 = .ok (.invokevirtual 56, 3) := dc_182 (a := 0) (b := 56) (dcc (r := 7) lq_7 rfl (Nat.le_of_ble_eq_true rfl) (by decide +kernel)) rfl
theorem dl_458 : decode code 458 = .ok (.pop, 1) := dc_87 (dcc (r := 10) lq_7 rfl (Nat.le_of_ble_eq_true rfl) (by decide +kernel))
theorem dl_459 : decode code 459 = .ok (.goto 900, 3) := dc_167 (a := 3) (b := 132) (dcc (r := 11) lq_7 rfl (Nat.le_of_ble_eq_true rfl) (by decide +kernel)) rfl
theorem dl_462 : decode code 462 = .ok (.aload_n 1, 1) := dc_43 (dcc (r := 14) lq_7 rfl (Nat.le_of_ble_eq_true rfl) (by decide +kernel))
theorem dl_463 : decode code 463 = .ok (.aload_n 0, 1) := dc_42 (dcc (r := 15) lq_7 rfl (Nat.le_of_ble_eq_true rfl) (by decide +kernel))
theorem dl_464 : decode code 464 = .ok (.iload_n 3, 1) := dc_29 (dcc (r := 16) lq_7 rfl (Nat.le_of_ble_eq_true rfl) (by decide +kernel))
theorem dl_465 : decode code 465 = .ok (.iconst 1, 1) := dc_4 (dcc (r := 17) lq_7 rfl (Nat.le_of_ble_eq_true rfl) (by decide +kernel))
theorem dl_466 : decode code 466 = .ok (.iadd, 1) := dc_96 (dcc (r := 18) lq_7 rfl (Nat.le_of_ble_eq_true rfl) (by decide +kernel))
theorem dl_467 : decode code 467 = .ok (.iaload, 1) := dc_46 (dcc (r := 19) lq_7 rfl (Nat.le_of_ble_eq_true rfl) (by decide +kernel))
theorem dl_468 : decode code 468 = .ok (.aload_n 0, 1) := dc_42 (dcc (r := 20) lq_7 rfl (Nat.le_of_ble_eq_true rfl) (by decide +kernel))
theorem dl_469 : decode code 469 = .ok (.iload_n 3, 1) := dc_29 (dcc (r := 21) lq_7 rfl (Nat.le_of_ble_eq_true rfl) (by decide +kernel))
theorem dl_470 : decode code 470 = .ok (.iconst 2, 1) := dc_5 (dcc (r := 22) lq_7 rfl (Nat.le_of_ble_eq_true rfl) (by decide +kernel))
theorem dl_471 : decode code 471 = .ok (.iadd, 1) := dc_96 (dcc (r := 23) lq_7 rfl (Nat.le_of_ble_eq_true rfl) (by decide +kernel))
theorem dl_472 : decode code 472 = .ok (.iaload, 1) := dc_46 (dcc (r := 24) lq_7 rfl (Nat.le_of_ble_eq_true rfl) (by decide +kernel))
theorem dl_473 : decode code 473 = .ok (.invokevirtual 57, 3) := dc_182 (a := 0) (b := 57) (dcc (r := 25) lq_7 rfl (Nat.le_of_ble_eq_true rfl) (by decide +kernel)) rfl
theorem dl_476 : decode code 476 = .ok (.pop, 1) := dc_87 (dcc (r := 28) lq_7 rfl (Nat.le_of_ble_eq_true rfl) (by decide +kernel))
theorem dl_477 : decode code 477 = .ok (.aload_n 2, 1) := dc_44 (dcc (r := 29) lq_7 rfl (Nat.le_of_ble_eq_true rfl) (by decide +kernel))
theorem dl_478 : decode code 478 = .ok (.aload_n 0, 1) := dc_42 (dcc (r := 30) lq_7 rfl (Nat.le_of_ble_eq_true rfl) (by decide +kernel))
theorem dl_479 : decode code 479 = .ok (.iload_n 3, 1) := dc_29 (dcc (r := 31) lq_7 rfl (Nat.le_of_ble_eq_true rfl) (by decide +kernel))
theorem dl_480 : decode code 480 = .ok (.iconst 1, 1) := dc_4 (dcc (r := 32) lq_7 rfl (Nat.le_of_ble_eq_true rfl) (by decide +kernel))
theorem dl_481 : decode code 481 = .ok (.iadd, 1) := dc_96 (dcc (r := 33) lq_7 rfl (Nat.le_of_ble_eq_true rfl) (by decide +kernel))
theorem dl_482 : decode code 482 = .ok (.iaload, 1) := dc_46 (dcc (r := 34) lq_7 rfl (Nat.le_of_ble_eq_true rfl) (by decide +kernel))
theorem dl_483 : decode code 483 = .ok (.aload_n 0, 1) := dc_42 (dcc (r := 35) lq_7 rfl (Nat.le_of_ble_eq_true rfl) (by decide +kernel))
theorem dl_484 : decode code 484 = .ok (.iload_n 3, 1) := dc_29 (dcc (r := 36) lq_7 rfl (Nat.le_of_ble_eq_true rfl) (by decide +kernel))
theorem dl_485 : decode code 485 = .ok (.iconst 2, 1) := dc_5 (dcc (r := 37) lq_7 rfl (Nat.le_of_ble_eq_true rfl) (by decide +kernel))
theorem dl_486 : decode code 486 = .ok (.iadd, 1) := dc_96 (dcc (r := 38) lq_7 rfl (Nat.le_of_ble_eq_true rfl) (by decide +kernel))
theorem dl_487 : decode code 487 = .ok (.iaload, 1) := dc_46 (dcc (r := 39) lq_7 rfl (Nat.le_of_ble_eq_true rfl) (by decide +kernel))
theorem dl_488 : decode code 488 = .ok (.invokevirtual 60, 3) := dc_182 (a := 0) (b := 60) (dcc (r := 40) lq_7 rfl (Nat.le_of_ble_eq_true rfl) (by decide +kernel)) rfl
theorem dl_491 : decode code 491 = .ok (.pop, 1) := dc_87 (dcc (r := 43) lq_7 rfl (Nat.le_of_ble_eq_true rfl) (by decide +kernel))
theorem dl_492 : decode code 492 = .ok (.goto 867, 3) := dc_167 (a := 3) (b := 99) (dcc (r := 44) lq_7 rfl (Nat.le_of_ble_eq_true rfl) (by decide +kernel)) rfl
theorem dl_495 : decode code 495 = .ok (.aload_n 1, 1) := dc_43 (dcc (r := 47) lq_7 rfl (Nat.le_of_ble_eq_true rfl) (by decide +kernel))
theorem dl_496 : decode code 496 = .ok (.aload_n 0, 1) := dc_42 (dcc (r := 48) lq_7 rfl (Nat.le_of_ble_eq_true rfl) (by decide +kernel))
theorem dl_497 : decode code 497 = .ok (.iload_n 3, 1) := dc_29 (dcc (r := 49) lq_7 rfl (Nat.le_of_ble_eq_true rfl) (by decide +kernel))
theorem dl_498 : decode code 498 = .ok (.iconst 1, 1) := dc_4 (dcc (r := 50) lq_7 rfl (Nat.le_of_ble_eq_true rfl) (by decide +kernel))
theorem dl_499 : decode code 499 = .ok (.iadd, 1) := dc_96 (dcc (r := 51) lq_7 rfl (Nat.le_of_ble_eq_true rfl) (by decide +kernel))
theorem dl_500 : decode code 500 = .ok (.iaload, 1) := dc_46 (dcc (r := 52) lq_7 rfl (Nat.le_of_ble_eq_true rfl) (by decide +kernel))
theorem dl_501 : decode code 501 = .ok (.aload_n 0, 1) := dc_42 (dcc (r := 53) lq_7 rfl (Nat.le_of_ble_eq_true rfl) (by decide +kernel))
theorem dl_502 : decode code 502 = .ok (.iload_n 3, 1) := dc_29 (dcc (r := 54) lq_7 rfl (Nat.le_of_ble_eq_true rfl) (by decide +kernel))
theorem dl_503 : decode code 503 = .ok (.iconst 2, 1) := dc_5 (dcc (r := 55) lq_7 rfl (Nat.le_of_ble_eq_true rfl) (by decide +kernel))
theorem dl_504 : decode code 504 = .ok (.iadd, 1) := dc_96 (dcc (r := 56) lq_7 rfl (Nat.le_of_ble_eq_true rfl) (by decide +kernel))
theorem dl_505 : decode code 505 = .ok (.iaload, 1) := dc_46 (dcc (r := 57) lq_7 rfl (Nat.le_of_ble_eq_true rfl) (by decide +kernel))
theorem dl_506 : decode code 506 = .ok (.invokevirtual 61, 3) := dc_182 (a := 0) (b := 61) (dcc (r := 58) lq_7 rfl (Nat.le_of_ble_eq_true rfl) (by decide +kernel)) rfl
theorem dl_509 : decode code 509 = .ok (.pop, 1) := dc_87 (dcc (r := 61) lq_7 rfl (Nat.le_of_ble_eq_true rfl) (by decide +kernel))
theorem dl_510 : decode code 510 = .ok (.aload_n 2, 1) := dc_44 (dcc (r := 62) lq_7 rfl (Nat.le_of_ble_eq_true rfl) (by decide +kernel))
theorem dl_511 : decode code 511 = .ok (.aload_n 0, 1) := dc_42 (dcc (r := 63) lq_7 rfl (Nat.le_of_ble_eq_true rfl) (by decide +kernel))
theorem dl_512 : decode code 512 = .ok (.iload_n 3, 1) := dc_29 (dcc (r := 0) lq_8 rfl (Nat.le_of_ble_eq_true rfl) (by decide +kernel))
theorem dl_513 : decode code 513 = .ok (.iconst 1, 1) := dc_4 (dcc (r := 1) lq_8 rfl (Nat.le_of_ble_eq_true rfl) (by decide +kernel))
theorem dl_514 : decode code 514 = .ok (.iadd, 1) := dc_96 (dcc (r := 2) lq_8 rfl (Nat.le_of_ble_eq_true rfl) (by decide +kernel))
theorem dl_515 : decode code 515 = .ok (.iaload, 1) := dc_46 (dcc (r := 3) lq_8 rfl (Nat.le_of_ble_eq_true rfl) (by decide +kernel))
theorem dl_516 : decode code 516 = .ok (.aload_n 0, 1) := dc_42 (dcc (r := 4) lq_8 rfl (Nat.le_of_ble_eq_true rfl) (by decide +kernel))
theorem dl_517 : decode code 517 = .ok (.iload_n 3, 1) := dc_29 (dcc (r := 5) lq_8 rfl (Nat.le_of_ble_eq_true rfl) (by decide +kernel))
theorem dl_518 : decode code 518 = .ok (.iconst 2, 1) := dc_5 (dcc (r := 6) lq_8 rfl (Nat.le_of_ble_eq_true rfl) (by decide +kernel))
theorem dl_519 : decode code 519 = .ok (.iadd, 1) := dc_96 (dcc (r := 7) lq_8 rfl (Nat.le_of_ble_eq_true rfl) (by decide +kernel))
theorem dl_520 : decode code 520 = .ok (.iaload, 1) := dc_46 (dcc (r := 8) lq_8 rfl (Nat.le_of_ble_eq_true rfl) (by decide +kernel))
theorem dl_521 : decode code 521 = .ok (.invokevirtual 64, 3) := dc_182 (a := 0) (b := 64) (dcc (r := 9) lq_8 rfl (Nat.le_of_ble_eq_true rfl) (by decide +kernel)) rfl
theorem dl_524 : decode code 524 = .ok (.pop, 1) := dc_87 (dcc (r := 12) lq_8 rfl (Nat.le_of_ble_eq_true rfl) (by decide +kernel))
theorem dl_525 : decode code 525 = .ok (.goto 834, 3) := dc_167 (a := 3) (b := 66) (dcc (r := 13) lq_8 rfl (Nat.le_of_ble_eq_true rfl) (by decide +kernel)) rfl
theorem dl_528 : decode code 528 = .ok (.aload_n 1, 1) := dc_43 (dcc (r := 16) lq_8 rfl (Nat.le_of_ble_eq_true rfl) (by decide +kernel))
theorem dl_529 : decode code 529 = .ok (.aload_n 0, 1) := dc_42 (dcc (r := 17) lq_8 rfl (Nat.le_of_ble_eq_true rfl) (by decide +kernel))
theorem dl_530 : decode code 530 = .ok (.iload_n 3, 1) := dc_29 (dcc (r := 18) lq_8 rfl (Nat.le_of_ble_eq_true rfl) (by decide +kernel))
theorem dl_531 : decode code 531 = .ok (.iconst 1, 1) := dc_4 (dcc (r := 19) lq_8 rfl (Nat.le_of_ble_eq_true rfl) (by decide +kernel))
theorem dl_532 : decode code 532 = .ok (.iadd, 1) := dc_96 (dcc (r := 20) lq_8 rfl (Nat.le_of_ble_eq_true rfl) (by decide +kernel))
theorem dl_533 : decode code 533 = .ok (.iaload, 1) := dc_46 (dcc (r := 21) lq_8 rfl (Nat.le_of_ble_eq_true rfl) (by decide +kernel))
theorem dl_534 : decode code 534 = .ok (.aload_n 0, 1) := dc_42 (dcc (r := 22) lq_8 rfl (Nat.le_of_ble_eq_true rfl) (by decide +kernel))
theorem dl_535 : decode code 535 = .ok (.iload_n 3, 1) := dc_29 (dcc (r := 23) lq_8 rfl (Nat.le_of_ble_eq_true rfl) (by decide +kernel))
theorem dl_536 : decode code 536 = .ok (.iconst 2, 1) := dc_5 (dcc (r := 24) lq_8 rfl (Nat.le_of_ble_eq_true rfl) (by decide +kernel))
theorem dl_537 : decode code 537 = .ok (.iadd, 1) := dc_96 (dcc (r := 25) lq_8 rfl (Nat.le_of_ble_eq_true rfl) (by decide +kernel))
theorem dl_538 : decode code 538 = .ok (.iaload, 1) := dc_46 (dcc (r := 26) lq_8 rfl (Nat.le_of_ble_eq_true rfl) (by decide +kernel))
theorem dl_539 : decode code 539 = .ok (.invokevirtual 65, 3) := dc_182 (a := 0) (b := 65) (dcc (r := 27) lq_8 rfl (Nat.le_of_ble_eq_true rfl) (by decide +kernel)) rfl
theorem dl_542 : decode code 542 = .ok (.pop, 1) := dc_87 (dcc (r := 30) lq_8 rfl (Nat.le_of_ble_eq_true rfl) (by decide +kernel))
theorem dl_543 : decode code 543 = .ok (.aload_n 2, 1) := dc_44 (dcc (r := 31) lq_8 rfl (Nat.le_of_ble_eq_true rfl) (by decide +kernel))
theorem dl_544 : decode code 544 = .ok (.aload_n 0, 1) := dc_42 (dcc (r := 32) lq_8 rfl (Nat.le_of_ble_eq_true rfl) (by decide +kernel))
theorem dl_545 : decode code 545 = .ok (.iload_n 3, 1) := dc_29 (dcc (r := 33) lq_8 rfl (Nat.le_of_ble_eq_true rfl) (by decide +kernel))
theorem dl_546 : decode code 546 = .ok (.iconst 1, 1) := dc_4 (dcc (r := 34) lq_8 rfl (Nat.le_of_ble_eq_true rfl) (by decide +kernel))
theorem dl_547 : decode code 547 = .ok (.iadd, 1) := dc_96 (dcc (r := 35) lq_8 rfl (Nat.le_of_ble_eq_true rfl) (by decide +kernel))
theorem dl_548 : decode code 548 = .ok (.iaload, 1) := dc_46 (dcc (r := 36) lq_8 rfl (Nat.le_of_ble_eq_true rfl) (by decide +kernel))
theorem dl_549 : decode code 549 = .ok (.aload_n 0, 1) := dc_42 (dcc (r := 37) lq_8 rfl (Nat.le_of_ble_eq_true rfl) (by decide +kernel))
theorem dl_550 : decode code 550 = .ok (.iload_n 3, 1) := dc_29 (dcc (r := 38) lq_8 rfl (Nat.le_of_ble_eq_true rfl) (by decide +kernel))
theorem dl_551 : decode code 551 = .ok (.iconst 2, 1) := dc_5 (dcc (r := 39) lq_8 rfl (Nat.le_of_ble_eq_true rfl) (by decide +kernel))
theorem dl_552 : decode code 552 = .ok (.iadd, 1) := dc_96 (dcc (r := 40) lq_8 rfl (Nat.le_of_ble_eq_true rfl) (by decide +kernel))
theorem dl_553 : decode code 553 = .ok (.iaload, 1) := dc_46 (dcc (r := 41) lq_8 rfl (Nat.le_of_ble_eq_true rfl) (by decide +kernel))
theorem dl_554 : decode code 554 = .ok (.invokevirtual 68, 3) := dc_182 (a := 0) (b := 68) (dcc (r := 42) lq_8 rfl (Nat.le_of_ble_eq_true rfl) (by decide +kernel)) rfl
theorem dl_557 : decode code 557 = .ok (.pop, 1) := dc_87 (dcc (r := 45) lq_8 rfl (Nat.le_of_ble_eq_true rfl) (by decide +kernel))
theorem dl_558 : decode code 558 = .ok (.goto 801, 3) := dc_167 (a := 3) (b := 33) (dcc (r := 46) lq_8 rfl (Nat.le_of_ble_eq_true rfl) (by decide +kernel)) rfl
theorem dl_561 : decode code 561 = .ok (.aload_n 1, 1) := dc_43 (dcc (r := 49) lq_8 rfl (Nat.le_of_ble_eq_true rfl) (by decide +kernel))
theorem dl_562 : decode code 562 = .ok (.aload_n 0, 1) := dc_42 (dcc (r := 50) lq_8 rfl (Nat.le_of_ble_eq_true rfl) (by decide +kernel))
theorem dl_563 : decode code 563 = .ok (.iload_n 3, 1) := dc_29 (dcc (r := 51) lq_8 rfl (Nat.le_of_ble_eq_true rfl) (by decide +kernel))
theorem dl_564 : decode code 564 = .ok (.iconst 1, 1) := dc_4 (dcc (r := 52) lq_8 rfl (Nat.le_of_ble_eq_true rfl) (by decide +kernel))
theorem dl_565 : decode code 565 = .ok (.iadd, 1) := dc_96 (dcc (r := 53) lq_8 rfl (Nat.le_of_ble_eq_true rfl) (by decide +kernel))
theorem dl_566 : decode code 566 = .ok (.iaload, 1) := dc_46 (dcc (r := 54) lq_8 rfl (Nat.le_of_ble_eq_true rfl) (by decide +kernel))
theorem dl_567 : decode code 567 = .ok (.aload_n 0, 1) := dc_42 (dcc (r := 55) lq_8 rfl (Nat.le_of_ble_eq_true rfl) (by decide +kernel))
theorem dl_568 : decode code 568 = .ok (.iload_n 3, 1) := dc_29 (dcc (r := 56) lq_8 rfl (Nat.le_of_ble_eq_true rfl) (by decide +kernel))
theorem dl_569 : decode code 569 = .ok (.iconst 2, 1) := dc_5 (dcc (r := 57) lq_8 rfl (Nat.le_of_ble_eq_true rfl) (by decide +kernel))
theorem dl_570 : decode code 570 = .ok (.iadd, 1) := dc_96 (dcc (r := 58) lq_8 rfl (Nat.le_of_ble_eq_true rfl) (by decide +kernel))
theorem dl_571 : decode code 571 = .ok (.iaload, 1) := dc_46 (dcc (r := 59) lq_8 rfl (Nat.le_of_ble_eq_true rfl) (by decide +kernel))
theorem dl_572 : decode code 572 = .ok (.aload_n 0, 1) := dc_42 (dcc (r := 60) lq_8 rfl (Nat.le_of_ble_eq_true rfl) (by decide +kernel))
theorem dl_573 : decode code 573 = .ok (.iload_n 3, 1) := dc_29 (dcc (r := 61) lq_8 rfl (Nat.le_of_ble_eq_true rfl) (by decide +kernel))
theorem dl_574 : decode code 574 = .ok (.iconst 3, 1) := dc_6 (dcc (r := 62) lq_8 rfl (Nat.le_of_ble_eq_true rfl) (by decide +kernel))
theorem dl_575 : decode code 575 = .ok (.iadd, 1) := dc_96 (dcc (r := 63) lq_8 rfl (Nat.le_of_ble_eq_true rfl) (by decide +kernel))
theorem dl_576 : decode code 576 = .ok (.iaload, 1) := dc_46 (dcc (r := 0) lq_9 rfl (Nat.le_of_ble_eq_true rfl) (by decide +kernel))
theorem dl_577 : decode code 577 = .ok (.invokevirtual 69, 3) := dc_182 (a := 0) (b := 69) (dcc (r := 1) lq_9 rfl (Nat.le_of_ble_eq_true rfl) (by decide +kernel)) rfl
theorem dl_580 : decode code 580 = .ok (.pop, 1) := dc_87 (dcc (r := 4) lq_9 rfl (Nat.le_of_ble_eq_true rfl) (by decide +kernel))
theorem dl_581 : decode code 581 = .ok (.aload_n 2, 1) := dc_44 (dcc (r := 5) lq_9 rfl (Nat.le_of_ble_eq_true rfl) (by decide +kernel))
theorem dl_582 : decode code 582 = .ok (.aload_n 0, 1) := dc_42 (dcc (r := 6) lq_9 rfl (Nat.le_of_ble_eq_true rfl) (by decide +kernel))
theorem dl_583 : decode code 583 = .ok (.iload_n 3, 1) := dc_29 (dcc (r := 7) lq_9 rfl (Nat.le_of_ble_eq_true rfl) (by decide +kernel))
theorem dl_584 : decode code 584 = .ok (.iconst 1, 1) := dc_4 (dcc (r := 8) lq_9 rfl (Nat.le_of_ble_eq_true rfl) (by decide +kernel))
theorem dl_585 : decode code 585 = .ok (.iadd, 1) := dc_96 (dcc (r := 9) lq_9 rfl (Nat.le_of_ble_eq_true rfl) (by decide +kernel))
theorem dl_586 : decode code 586 = .ok (.iaload, 1) := dc_46 (dcc (r := 10) lq_9 rfl (Nat.le_of_ble_eq_true rfl) (by decide +kernel))
theorem dl_587 : decode code 587 = .ok (.aload_n 0, 1) := dc_42 (dcc (r := 11) lq_9 rfl (Nat.le_of_ble_eq_true rfl) (by decide +kernel))
theorem dl_588 : decode code 588 = .ok (.iload_n 3, 1) := dc_29 (dcc (r := 12) lq_9 rfl (Nat.le_of_ble_eq_true rfl) (by decide +kernel))
theorem dl_589 : decode code 589 = .ok (.iconst 2, 1) := dc_5 (dcc (r := 13) lq_9 rfl (Nat.le_of_ble_eq_true rfl) (by decide +kernel))
theorem dl_590 : decode code 590 = .ok (.iadd, 1) := dc_96 (dcc (r := 14) lq_9 rfl (Nat.le_of_ble_eq_true rfl) (by decide +kernel))
theorem dl_591 : decode code 591 = .ok (.iaload, 1) := dc_46 (dcc (r := 15) lq_9 rfl (Nat.le_of_ble_eq_true rfl) (by decide +kernel))
theorem dl_592 : decode code 592 = .ok (.aload_n 0, 1) := dc_42 (dcc (r := 16) lq_9 rfl (Nat.le_of_ble_eq_true rfl) (by decide +kernel))
theorem dl_593 : decode code 593 = .ok (.iload_n 3, 1) := dc_29 (dcc (r := 17) lq_9 rfl (Nat.le_of_ble_eq_true rfl) (by decide +kernel))
theorem dl_594 : decode code 594 = .ok (.iconst 3, 1) := dc_6 (dcc (r := 18) lq_9 rfl (Nat.le_of_ble_eq_true rfl) (by decide +kernel))
theorem dl_595 : decode code 595 = .ok (.iadd, 1) := dc_96 (dcc (r := 19) lq_9 rfl (Nat.le_of_ble_eq_true rfl) (by decide +kernel))
theorem dl_596 : decode code 596 = .ok (.iaload, 1) := dc_46 (dcc (r := 20) lq_9 rfl (Nat.le_of_ble_eq_true rfl) (by decide +kernel))
theorem dl_597 : decode code 597 = .ok (.invokevirtual 73, 3) := dc_182 (a := 0) (b := 73) (dcc (r := 21) lq_9 rfl (Nat.le_of_ble_eq_true rfl) (by decide +kernel)) rfl
theorem dl_600 : decode code 600 = .ok (.pop, 1) := dc_87 (dcc (r := 24) lq_9 rfl (Nat.le_of_ble_eq_true rfl) (by decide +kernel))
theorem dl_601 : decode code 601 = .ok (.goto 758, 3) := dc_167 (a := 2) (b := 246) (dcc (r := 25) lq_9 rfl (Nat.le_of_ble_eq_true rfl) (by decide +kernel)) rfl
theorem dl_604 : decode code 604 = .ok (.aload_n 1, 1) := dc_43 (dcc (r := 28) lq_9 rfl (Nat.le_of_ble_eq_true rfl) (by decide +kernel))
theorem dl_605 : decode code 605 = .ok (.aload_n 0, 1) := dc_42 (dcc (r := 29) lq_9 rfl (Nat.le_of_ble_eq_true rfl) (by decide +kernel))
theorem dl_606 : decode code 606 = .ok (.iload_n 3, 1) := dc_29 (dcc (r := 30) lq_9 rfl (Nat.le_of_ble_eq_true rfl) (by decide +kernel))
theorem dl_607 : decode code 607 = .ok (.iconst 1, 1) := dc_4 (dcc (r := 31) lq_9 rfl (Nat.le_of_ble_eq_true rfl) (by decide +kernel))
theorem dl_608 : decode code 608 = .ok (.iadd, 1) := dc_96 (dcc (r := 32) lq_9 rfl (Nat.le_of_ble_eq_true rfl) (by decide +kernel))
theorem dl_609 : decode code 609 = .ok (.iaload, 1) := dc_46 (dcc (r := 33) lq_9 rfl (Nat.le_of_ble_eq_true rfl) (by decide +kernel))
theorem dl_610 : decode code 610 = .ok (.invokevirtual 74, 3) := dc_182 (a := 0) (b := 74) (dcc (r := 34) lq_9 rfl (Nat.le_of_ble_eq_true rfl) (by decide +kernel)) rfl
theorem dl_613 : decode code 613 = .ok (.pop, 1) := dc_87 (dcc (r := 37) lq_9 rfl (Nat.le_of_ble_eq_true rfl) (by decide +kernel))
theorem dl_614 : decode code 614 = .ok (.aload_n 2, 1) := dc_44 (dcc (r := 38) lq_9 rfl (Nat.le_of_ble_eq_true rfl) (by decide +kernel))
theorem dl_615 : decode code 615 = .ok (.aload_n 0, 1) := dc_42 (dcc (r := 39) lq_9 rfl (Nat.le_of_ble_eq_true rfl) (by decide +kernel))
theorem dl_616 : decode code 616 = .ok (.iload_n 3, 1) := dc_29 (dcc (r := 40) lq_9 rfl (Nat.le_of_ble_eq_true rfl) (by decide +kernel))
theorem dl_617 : decode code 617 = .ok (.iconst 1, 1) := dc_4 (dcc (r := 41) lq_9 rfl (Nat.le_of_ble_eq_true rfl) (by decide +kernel))
theorem dl_618 : decode code 618 = .ok (.iadd, 1) := dc_96 (dcc (r := 42) lq_9 rfl (Nat.le_of_ble_eq_true rfl) (by decide +kernel))
theorem dl_619 : decode code 619 = .ok (.iaload, 1) := dc_46 (dcc (r := 43) lq_9 rfl (Nat.le_of_ble_eq_true rfl) (by decide +kernel))
theorem dl_620 : decode code 620 = .ok (.invokevirtual 77, 3) := dc_182 (a := 0) (b := 77) (dcc (r := 44) lq_9 rfl (Nat.le_of_ble_eq_true rfl) (by decide +kernel)) rfl
theorem dl_623 : decode code 623 = .ok (.pop, 1) := dc_87 (dcc (r := 47) lq_9 rfl (Nat.le_of_ble_eq_true rfl) (by decide +kernel))
theorem dl_624 : decode code 624 = .ok (.goto 735, 3) := dc_167 (a := 2) (b := 223) (dcc (r := 48) lq_9 rfl (Nat.le_of_ble_eq_true rfl) (by decide +kernel)) rfl
theorem dl_627 : decode code 627 = .ok (.aload_n 1, 1) := dc_43 (dcc (r := 51) lq_9 rfl (Nat.le_of_ble_eq_true rfl) (by decide +kernel))
theorem dl_628 : decode code 628 = .ok (.aload_n 0, 1) := dc_42 (dcc (r := 52) lq_9 rfl (Nat.le_of_ble_eq_true rfl) (by decide +kernel))
theorem dl_629 : decode code 629 = .ok (.iload_n 3, 1) := dc_29 (dcc (r := 53) lq_9 rfl (Nat.le_of_ble_eq_true rfl) (by decide +kernel))
theorem dl_630 : decode code 630 = .ok (.iconst 1, 1) := dc_4 (dcc (r := 54) lq_9 rfl (Nat.le_of_ble_eq_true rfl) (by decide +kernel))
theorem dl_631 : decode code 631 = .ok (.iadd, 1) := dc_96 (dcc (r := 55) lq_9 rfl (Nat.le_of_ble_eq_true rfl) (by decide +kernel))
theorem dl_632 : decode code 632 = .ok (.iaload, 1) := dc_46 (dcc (r := 56) lq_9 rfl (Nat.le_of_ble_eq_true rfl) (by decide +kernel))
theorem dl_633 : decode code 633 = .ok (.invokevirtual 78, 3) := dc_182 (a := 0) (b := 78) (dcc (r := 57) lq_9 rfl (Nat.le_of_ble_eq_true rfl) (by decide +kernel)) rfl
theorem dl_636 : decode code 636 = .ok (.pop, 1) := dc_87 (dcc (r := 60) lq_9 rfl (Nat.le_of_ble_eq_true rfl) (by decide +kernel))
theorem dl_637 : decode code 637 = .ok (.aload_n 2, 1) := dc_44 (dcc (r := 61) lq_9 rfl (Nat.le_of_ble_eq_true rfl) (by decide +kernel))
theorem dl_638 : decode code 638 = .ok (.aload_n 0, 1) := dc_42 (dcc (r := 62) lq_9 rfl (Nat.le_of_ble_eq_true rfl) (by decide +kernel))
theorem dl_639 : decode code 639 = .ok (.iload_n 3, 1) := dc_29 (dcc (r := 63) lq_9 rfl (Nat.le_of_ble_eq_true rfl) (by decide +kernel))
theorem dl_640 : decode code 640 = .ok (.iconst 1, 1) := dc_4 (dcc (r := 0) lq_10 rfl (Nat.le_of_ble_eq_true rfl) (by decide +kernel))
theorem dl_641 : decode code 641 = .ok (.iadd, 1) := dc_96 (dcc (r := 1) lq_10 rfl (Nat.le_of_ble_eq_true rfl) (by decide +kernel))
theorem dl_642 : decode code 642 = .ok (.iaload, 1) := dc_46 (dcc (r := 2) lq_10 rfl (Nat.le_of_ble_eq_true rfl) (by decide +kernel))
theorem dl_643 : decode code 643 = .ok (.invokevirtual 81, 3) := dc_182 (a := 0) (b := 81) (dcc (r := 3) lq_10 rfl (Nat.le_of_ble_eq_true rfl) (by decide +kernel)) rfl
theorem dl_646 : decode code 646 = .ok (.pop, 1) := dc_87 (dcc (r := 6) lq_10 rfl (Nat.le_of_ble_eq_true rfl) (by decide +kernel))
theorem dl_647 : decode code 647 = .ok (.goto 712, 3) := dc_167 (a := 2) (b := 200) (dcc (r := 7) lq_10 rfl (Nat.le_of_ble_eq_true rfl) (by decide +kernel)) rfl
theorem dl_650 : decode code 650 = .ok (.aload_n 1, 1) := dc_43 (dcc (r := 10) lq_10 rfl (Nat.le_of_ble_eq_true rfl) (by decide +kernel))
theorem dl_651 : decode code 651 = .ok (.aload_n 0, 1) := dc_42 (dcc (r := 11) lq_10 rfl (Nat.le_of_ble_eq_true rfl) (by decide +kernel))
theorem dl_652 : decode code 652 = .ok (.iload_n 3, 1) := dc_29 (dcc (r := 12) lq_10 rfl (Nat.le_of_ble_eq_true rfl) (by decide +kernel))
theorem dl_653 : decode code 653 = .ok (.iconst 1, 1) := dc_4 (dcc (r := 13) lq_10 rfl (Nat.le_of_ble_eq_true rfl) (by decide +kernel))
theorem dl_654 : decode code 654 = .ok (.iadd, 1) := dc_96 (dcc (r := 14) lq_10 rfl (Nat.le_of_ble_eq_true rfl) (by decide +kernel))
theorem dl_655 : decode code 655 = .ok (.iaload, 1) := dc_46 (dcc (r := 15) lq_10 rfl (Nat.le_of_ble_eq_true rfl) (by decide +kernel))
theorem dl_656 : decode code 656 = .ok (.aload_n 0, 1) := dc_42 (dcc (r := 16) lq_10 rfl (Nat.le_of_ble_eq_true rfl) (by decide +kernel))
theorem dl_657 : decode code 657 = .ok (.iload_n 3, 1) := dc_29 (dcc (r := 17) lq_10 rfl (Nat.le_of_ble_eq_true rfl) (by decide +kernel))
theorem dl_658 : decode code 658 = .ok (.iconst 2, 1) := dc_5 (dcc (r := 18) lq_10 rfl (Nat.le_of_ble_eq_true rfl) (by decide +kernel))
theorem dl_659 : decode code 659 = .ok (.iadd, 1) := dc_96 (dcc (r := 19) lq_10 rfl (Nat.le_of_ble_eq_true rfl) (by decide +kernel))
theorem dl_660 : decode code 660 = .ok (.iaload, 1) := dc_46 (dcc (r := 20) lq_10 rfl (Nat.le_of_ble_eq_true rfl) (by decide +kernel))
theorem dl_661 : decode code 661 = .ok (.aload_n 0, 1) := dc_42 (dcc (r := 21) lq_10 rfl (Nat.le_of_ble_eq_true rfl) (by decide +kernel))
theorem dl_662 : decode code 662 = .ok (.iload_n 3, 1) := dc_29 (dcc (r := 22) lq_10 rfl (Nat.le_of_ble_eq_true rfl) (by decide +kernel))
theorem dl_663 : decode code 663 = .ok (.iconst 3, 1) := dc_6 (dcc (r := 23) lq_10 rfl (Nat.le_of_ble_eq_true rfl) (by decide +kernel))
theorem dl_664 : decode code 664 = .ok (.iadd, 1) := dc_96 (dcc (r := 24) lq_10 rfl (Nat.le_of_ble_eq_true rfl) (by decide +kernel))
theorem dl_665 : decode code 665 = .ok (.iaload, 1) := dc_46 (dcc (r := 25) lq_10 rfl (Nat.le_of_ble_eq_true rfl) (by decide +kernel))
theorem dl_666 : decode code 666 = .ok (.invokevirtual 82, 3) := dc_182 (a := 0) (b := 82) (dcc (r := 26) lq_10 rfl (Nat.le_of_ble_eq_true rfl) (by decide +kernel)) rfl
theorem dl_669 : decode code 669 = .ok (.pop, 1) := dc_87 (dcc (r := 29) lq_10 rfl (Nat.le_of_ble_eq_true rfl) (by decide +kernel))
theorem dl_670 : decode code 670 = .ok (.aload_n 2, 1) := dc_44 (dcc (r := 30) lq_10 rfl (Nat.le_of_ble_eq_true rfl) (by decide +kernel))
theorem dl_671 : decode code 671 = .ok (.aload_n 0, 1) := dc_42 (dcc (r := 31) lq_10 rfl (Nat.le_of_ble_eq_true rfl) (by decide +kernel))
theorem dl_672 : decode code 672 = .ok (.iload_n 3, 1) := dc_29 (dcc (r := 32) lq_10 rfl (Nat.le_of_ble_eq_true rfl) (by decide +kernel))
theorem dl_673 : decode code 673 = .ok (.iconst 1, 1) := dc_4 (dcc (r := 33) lq_10 rfl (Nat.le_of_ble_eq_true rfl) (by decide +kernel))
theorem dl_674 : decode code 674 = .ok (.iadd, 1) := dc_96 (dcc (r := 34) lq_10 rfl (Nat.le_of_ble_eq_true rfl) (by decide +kernel))
theorem dl_675 : decode code 675 = .ok (.iaload, 1) := dc_46 (dcc (r := 35) lq_10 rfl (Nat.le_of_ble_eq_true rfl) (by decide +kernel))
theorem dl_676 : decode code 676 = .ok (.aload_n 0, 1) := dc_42 (dcc (r := 36) lq_10 rfl (Nat.le_of_ble_eq_true rfl) (by decide +kernel))
theorem dl_677 : decode code 677 = .ok (.iload_n 3, 1) := dc_29 (dcc (r := 37) lq_10 rfl (Nat.le_of_ble_eq_true rfl) (by decide +kernel))
theorem dl_678 : decode code 678 = .ok (.iconst 2, 1) := dc_5 (dcc (r := 38) lq_10 rfl (Nat.le_of_ble_eq_true rfl) (by decide +kernel))
theorem dl_679 : decode code 679 = .ok (.iadd, 1) := dc_96 (dcc (r := 39) lq_10 rfl (Nat.le_of_ble_eq_true rfl) (by decide +kernel))
theorem dl_680 : decode code 680 = .ok (.iaload, 1) := dc_46 (dcc (r := 40) lq_10 rfl (Nat.le_of_ble_eq_true rfl) (by decide +kernel))
theorem dl_681 : decode code 681 = .ok (.aload_n 0, 1) := dc_42 (dcc (r := 41) lq_10 rfl (Nat.le_of_ble_eq_true rfl) (by decide +kernel))
theorem dl_682 : decode code 682 = .ok (.iload_n 3, 1) := dc_29 (dcc (r := 42) lq_10 rfl (Nat.le_of_ble_eq_true rfl) (by decide +kernel))
theorem dl_683 : decode code 683 = .ok (.iconst 3, 1) := dc_6 (dcc (r := 43) lq_10 rfl (Nat.le_of_ble_eq_true rfl) (by decide +kernel))
theorem dl_684 : decode code 684 = .ok (.iadd, 1) := dc_96 (dcc (r := 44) lq_10 rfl (Nat.le_of_ble_eq_true rfl) (by decide +kernel))
theorem dl_685 : decode code 685 = .ok (.iaload, 1) := dc_46 (dcc (r := 45) lq_10 rfl (Nat.le_of_ble_eq_true rfl) (by decide +kernel))
theorem dl_686 : decode code 686 = .ok (.invokevirtual 85, 3) := dc_182 (a := 0) (b := 85) (dcc (r := 46) lq_10 rfl (Nat.le_of_ble_eq_true rfl) (by decide +kernel)) rfl
theorem dl_689 : decode code 689 = .ok (.pop, 1) := dc_87 (dcc (r := 49) lq_10 rfl (Nat.le_of_ble_eq_true rfl) (by decide +kernel))
theorem dl_690 : decode code 690 = .ok (.goto 669, 3) := dc_167 (a := 2) (b := 157) (dcc (r := 50) lq_10 rfl (Nat.le_of_ble_eq_true rfl) (by decide +kernel)) rfl
theorem dl_693 : decode code 693 = .ok (.aload_n 1, 1) := dc_43 (dcc (r := 53) lq_10 rfl (Nat.le_of_ble_eq_true rfl) (by decide +kernel))
theorem dl_694 : decode code 694 = .ok (.aload_n 0, 1) := dc_42 (dcc (r := 54) lq_10 rfl (Nat.le_of_ble_eq_true rfl) (by decide +kernel))
theorem dl_695 : decode code 695 = .ok (.iload_n 3, 1) := dc_29 (dcc (r := 55) lq_10 rfl (Nat.le_of_ble_eq_true rfl) (by decide +kernel))
theorem dl_696 : decode code 696 = .ok (.iconst 1, 1) := dc_4 (dcc (r := 56) lq_10 rfl (Nat.le_of_ble_eq_true rfl) (by decide +kernel))
theorem dl_697 : decode code 697 = .ok (.iadd, 1) := dc_96 (dcc (r := 57) lq_10 rfl (Nat.le_of_ble_eq_true rfl) (by decide +kernel))
theorem dl_698 : decode code 698 = .ok (.iaload, 1) := dc_46 (dcc (r := 58) lq_10 rfl (Nat.le_of_ble_eq_true rfl) (by decide +kernel))
theorem dl_699 : decode code 699 = .ok (.aload_n 0, 1) := dc_42 (dcc (r := 59) lq_10 rfl (Nat.le_of_ble_eq_true rfl) (by decide +kernel))
theorem dl_700 : decode code 700 = .ok (.iload_n 3, 1) := dc_29 (dcc (r := 60) lq_10 rfl (Nat.le_of_ble_eq_true rfl) (by decide +kernel))
theorem dl_701 : decode code 701 = .ok (.iconst 2, 1) := dc_5 (dcc (r := 61) lq_10 rfl (Nat.le_of_ble_eq_true rfl) (by decide +kernel))
theorem dl_702 : decode code 702 = .ok (.iadd, 1) := dc_96 (dcc (r := 62) lq_10 rfl (Nat.le_of_ble_eq_true rfl) (by decide +kernel))
theorem dl_703 : decode code 703 = .ok (.iaload, 1) := dc_46 (dcc (r := 63) lq_10 rfl (Nat.le_of_ble_eq_true rfl) (by decide +kernel))
theorem dl_704 : decode code 704 = .ok (.aload_n 0, 1) := dc_42 (dcc (r := 0) lq_11 rfl (Nat.le_of_ble_eq_true rfl) (by decide +kernel))
theorem dl_705 : decode code 705 = .ok (.iload_n 3, 1) := dc_29 (dcc (r := 1) lq_11 rfl (Nat.le_of_ble_eq_true rfl) (by decide +kernel))
theorem dl_706 : decode code 706 = .ok (.iconst 3, 1) := dc_6 (dcc (r := 2) lq_11 rfl (Nat.le_of_ble_eq_true rfl) (by decide +kernel))
theorem dl_707 : decode code 707 = .ok (.iadd, 1) := dc_96 (dcc (r := 3) lq_11 rfl (Nat.le_of_ble_eq_true rfl) (by decide +kernel))
theorem dl_708 : decode code 708 = .ok (.iaload, 1) := dc_46 (dcc (r := 4) lq_11 rfl (Nat.le_of_ble_eq_true rfl) (by decide +kernel))
theorem dl_709 : decode code 709 = .ok (.aload_n 0, 1) := dc_42 (dcc (r := 5) lq_11 rfl (Nat.le_of_ble_eq_true rfl) (by decide +kernel))
theorem dl_710 : decode code 710 = .ok (.iload_n 3, 1) := dc_29 (dcc (r := 6) lq_11 rfl (Nat.le_of_ble_eq_true rfl) (by decide +kernel))
theorem dl_711 : decode code 711 = .ok (.iconst 4, 1) := dc_7 (dcc (r := 7) lq_11 rfl (Nat.le_of_ble_eq_true rfl) (by decide +kernel))
theorem dl_712 : decode code 712 = .ok (.iadd, 1) := dc_96 (dcc (r := 8) lq_11 rfl (Nat.le_of_ble_eq_true rfl) (by decide +kernel))
theorem dl_713 : decode code 713 = .ok (.iaload, 1) := dc_46 (dcc (r := 9) lq_11 rfl (Nat.le_of_ble_eq_true rfl) (by decide +kernel))
theorem dl_714 : decode code 714 = .ok (.ifCond .eq 7, 3) := dc_153 (a := 0) (b := 7) (dcc (r := 10) lq_11 rfl (Nat.le_of_ble_eq_true rfl) (by decide +kernel)) rfl
theorem dl_717 : decode code 717 = .ok (.iconst 1, 1) := dc_4 (dcc (r := 13) lq_11 rfl (Nat.le_of_ble_eq_true rfl) (by decide +kernel))
theorem dl_718 : decode code 718 = .ok (.goto 4, 3) := dc_167 (a := 0) (b := 4) (dcc (r := 14) lq_11 rfl (Nat.le_of_ble_eq_true rfl) (by decide +kernel)) rfl
theorem dl_721 : decode code 721 = .ok (.iconst 0, 1) := dc_3 (dcc (r := 17) lq_11 rfl (Nat.le_of_ble_eq_true rfl) (by decide +kernel))
theorem dl_722 : decode code 722 = .ok (.invokevirtual 86, 3) := dc_182 (a := 0) (b := 86) (dcc (r := 18) lq_11 rfl (Nat.le_of_ble_eq_true rfl) (by decide +kernel)) rfl
theorem dl_725 : decode code 725 = .ok (.pop, 1) := dc_87 (dcc (r := 21) lq_11 rfl (Nat.le_of_ble_eq_true rfl) (by decide +kernel))
theorem dl_726 : decode code 726 = .ok (.aload_n 2, 1) := dc_44 (dcc (r := 22) lq_11 rfl (Nat.le_of_ble_eq_true rfl) (by decide +kernel))
theorem dl_727 : decode code 727 = .ok (.aload_n 0, 1) := dc_42 (dcc (r := 23) lq_11 rfl (Nat.le_of_ble_eq_true rfl) (by decide +kernel))
theorem dl_728 : decode code 728 = .ok (.iload_n 3, 1) := dc_29 (dcc (r := 24) lq_11 rfl (Nat.le_of_ble_eq_true rfl) (by decide +kernel))
theorem dl_729 : decode code 729 = .ok (.iconst 1, 1) := dc_4 (dcc (r := 25) lq_11 rfl (Nat.le_of_ble_eq_true rfl) (by decide +kernel))
theorem dl_730 : decode code 730 = .ok (.iadd, 1) := dc_96 (dcc (r := 26) lq_11 rfl (Nat.le_of_ble_eq_true rfl) (by decide +kernel))
theorem dl_731 : decode code 731 = .ok (.iaload, 1) := dc_46 (dcc (r := 27) lq_11 rfl (Nat.le_of_ble_eq_true rfl) (by decide +kernel))
theorem dl_732 : decode code 732 = .ok (.aload_n 0, 1) := dc_42 (dcc (r := 28) lq_11 rfl (Nat.le_of_ble_eq_true rfl) (by decide +kernel))
theorem dl_733 : decode code 733 = .ok (.iload_n 3, 1) := dc_29 (dcc (r := 29) lq_11 rfl (Nat.le_of_ble_eq_true rfl) (by decide +kernel))
theorem dl_734 : decode code 734 = .ok (.iconst 2, 1) := dc_5 (dcc (r := 30) lq_11 rfl (Nat.le_of_ble_eq_true rfl) (by decide +kernel))
theorem dl_735 : decode code 735 = .ok (.iadd, 1) := dc_96 (dcc (r := 31) lq_11 rfl (Nat.le_of_ble_eq_true rfl) (by decide +kernel))
theorem dl_736 : decode code 736 = .ok (.iaload, 1) := dc_46 (dcc (r := 32) lq_11 rfl (Nat.le_of_ble_eq_true rfl) (by decide +kernel))
theorem dl_737 : decode code 737 = .ok (.aload_n 0, 1) := dc_42 (dcc (r := 33) lq_11 rfl (Nat.le_of_ble_eq_true rfl) (by decide +kernel))
theorem dl_738 : decode code 738 = .ok (.iload_n 3, 1) := dc_29 (dcc (r := 34) lq_11 rfl (Nat.le_of_ble_eq_true rfl) (by decide +kernel))
theorem dl_739 : decode code 739 = .ok (.iconst 3, 1) := dc_6 (dcc (r := 35) lq_11 rfl (Nat.le_of_ble_eq_true rfl) (by decide +kernel))
theorem dl_740 : decode code 740 = .ok (.iadd, 1) := dc_96 (dcc (r := 36) lq_11 rfl (Nat.le_of_ble_eq_true rfl) (by decide +kernel))
theorem dl_741 : decode code 741 = .ok (.iaload, 1) := dc_46 (dcc (r := 37) lq_11 rfl (Nat.le_of_ble_eq_true rfl) (by decide +kernel))
theorem dl_742 : decode code 742 = .ok (.aload_n 0, 1) := dc_42 (dcc (r := 38) lq_11 rfl (Nat.le_of_ble_eq_true rfl) (by decide +kernel))
theorem dl_743 : decode code 743 = .ok (.iload_n 3, 1) := dc_29 (dcc (r := 39) lq_11 rfl (Nat.le_of_ble_eq_true rfl) (by decide +kernel))
theorem dl_744 : decode code 744 = .ok (.iconst 4, 1) := dc_7 (dcc (r := 40) lq_11 rfl (Nat.le_of_ble_eq_true rfl) (by decide +kernel))
theorem dl_745 : decode code 745 = .ok (.iadd, 1) := dc_96 (dcc (r := 41) lq_11 rfl (Nat.le_of_ble_eq_true rfl) (by decide +kernel))
theorem dl_746 : decode code 746 = .ok (.iaload, 1) := dc_46 (dcc (r := 42) lq_11 rfl (Nat.le_of_ble_eq_true rfl) (by decide +kernel))
theorem dl_747 : decode code 747 = .ok (.ifCond .eq 7, 3) := dc_153 (a := 0) (b := 7) (dcc (r := 43) lq_11 rfl (Nat.le_of_ble_eq_true rfl) (by decide +kernel)) rfl
theorem dl_750 : decode code 750 = .ok (.iconst 1, 1) := dc_4 (dcc (r := 46) lq_11 rfl (Nat.le_of_ble_eq_true rfl) (by decide +kernel))
theorem dl_751 : decode code 751 = .ok (.goto 4, 3) := dc_167 (a := 0) (b := 4) (dcc (r := 47) lq_11 rfl (Nat.le_of_ble_eq_true rfl) (by decide +kernel)) rfl
theorem dl_754 : decode code 754 = .ok (.iconst 0, 1) := dc_3 (dcc (r := 50) lq_11 rfl (Nat.le_of_ble_eq_true rfl) (by decide +kernel))
theorem dl_755 : decode code 755 = .ok (.invokevirtual 90, 3) := dc_182 (a := 0) (b := 90) (dcc (r := 51) lq_11 rfl (Nat.le_of_ble_eq_true rfl) (by decide +kernel)) rfl
theorem dl_758 : decode code 758 = .ok (.pop, 1) := dc_87 (dcc (r := 54) lq_11 rfl (Nat.le_of_ble_eq_true rfl) (by decide +kernel))
theorem dl_759 : decode code 759 = .ok (.goto 600, 3) := dc_167 (a := 2) (b := 88) (dcc (r := 55) lq_11 rfl (Nat.le_of_ble_eq_true rfl) (by decide +kernel)) rfl
theorem dl_762 : decode code 762 = .ok (.aload_n 1, 1) := dc_43 (dcc (r := 58) lq_11 rfl (Nat.le_of_ble_eq_true rfl) (by decide +kernel))
theorem dl_763 : decode code 763 = .ok (.aload_n 0, 1) := dc_42 (dcc (r := 59) lq_11 rfl (Nat.le_of_ble_eq_true rfl) (by decide +kernel))
theorem dl_764 : decode code 764 = .ok (.iload_n 3, 1) := dc_29 (dcc (r := 60) lq_11 rfl (Nat.le_of_ble_eq_true rfl) (by decide +kernel))
theorem dl_765 : decode code 765 = .ok (.iconst 1, 1) := dc_4 (dcc (r := 61) lq_11 rfl (Nat.le_of_ble_eq_true rfl) (by decide +kernel))
theorem dl_766 : decode code 766 = .ok (.iadd, 1) := dc_96 (dcc (r := 62) lq_11 rfl (Nat.le_of_ble_eq_true rfl) (by decide +kernel))
theorem dl_767 : decode code 767 = .ok (.iaload, 1) := dc_46 (dcc (r := 63) lq_11 rfl (Nat.le_of_ble_eq_true rfl) (by decide +kernel))
theorem dl_768 : decode code 768 = .ok (.invokevirtual 91, 3) := dc_182 (a := 0) (b := 91) (dcc (r := 0) lq_12 rfl (Nat.le_of_ble_eq_true rfl) (by decide +kernel)) rfl
theorem dl_771 : decode code 771 = .ok (.pop, 1) := dc_87 (dcc (r := 3) lq_12 rfl (Nat.le_of_ble_eq_true rfl) (by decide +kernel))
theorem dl_772 : decode code 772 = .ok (.aload_n 2, 1) := dc_44 (dcc (r := 4) lq_12 rfl (Nat.le_of_ble_eq_true rfl) (by decide +kernel))
theorem dl_773 : decode code 773 = .ok (.aload_n 0, 1) := dc_42 (dcc (r := 5) lq_12 rfl (Nat.le_of_ble_eq_true rfl) (by decide +kernel))
theorem dl_774 : decode code 774 = .ok (.iload_n 3, 1) := dc_29 (dcc (r := 6) lq_12 rfl (Nat.le_of_ble_eq_true rfl) (by decide +kernel))
theorem dl_775 : decode code 775 = .ok (.iconst 1, 1) := dc_4 (dcc (r := 7) lq_12 rfl (Nat.le_of_ble_eq_true rfl) (by decide +kernel))
theorem dl_776 : decode code 776 = .ok (.iadd, 1) := dc_96 (dcc (r := 8) lq_12 rfl (Nat.le_of_ble_eq_true rfl) (by decide +kernel))
theorem dl_777 : decode code 777 = .ok (.iaload, 1) := dc_46 (dcc (r := 9) lq_12 rfl (Nat.le_of_ble_eq_true rfl) (by decide +kernel))
theorem dl_778 : decode code 778 = .ok (.invokevirtual 94, 3) := dc_182 (a := 0) (b := 94) (dcc (r := 10) lq_12 rfl (Nat.le_of_ble_eq_true rfl) (by decide +kernel)) rfl
theorem dl_781 : decode code 781 = .ok (.pop, 1) := dc_87 (dcc (r := 13) lq_12 rfl (Nat.le_of_ble_eq_true rfl) (by decide +kernel))
theorem dl_782 : decode code 782 = .ok (.goto 577, 3) := dc_167 (a := 2) (b := 65) (dcc (r := 14) lq_12 rfl (Nat.le_of_ble_eq_true rfl) (by decide +kernel)) rfl
theorem dl_785 : decode code 785 = .ok (.aload_n 1, 1) := dc_43 (dcc (r := 17) lq_12 rfl (Nat.le_of_ble_eq_true rfl) (by decide +kernel))
theorem dl_786 : decode code 786 = .ok (.invokevirtual 95, 3) := dc_182 (a := 0) (b := 95) (dcc (r := 18) lq_12 rfl (Nat.le_of_ble_eq_true rfl) (by decide +kernel)) rfl
theorem dl_789 : decode code 789 = .ok (.pop, 1) := dc_87 (dcc (r := 21) lq_12 rfl (Nat.le_of_ble_eq_true rfl) (by decide +kernel))
theorem dl_790 : decode code 790 = .ok (.aload_n 2, 1) := dc_44 (dcc (r := 22) lq_12 rfl (Nat.le_of_ble_eq_true rfl) (by decide +kernel))
theorem dl_791 : decode code 791 = .ok (.invokevirtual 98, 3) := dc_182 (a := 0) (b := 98) (dcc (r := 23) lq_12 rfl (Nat.le_of_ble_eq_true rfl) (by decide +kernel)) rfl
theorem dl_794 : decode code 794 = .ok (.pop, 1) := dc_87 (dcc (r := 26) lq_12 rfl (Nat.le_of_ble_eq_true rfl) (by decide +kernel))
theorem dl_795 : decode code 795 = .ok (.goto 564, 3) := dc_167 (a := 2) (b := 52) (dcc (r := 27) lq_12 rfl (Nat.le_of_ble_eq_true rfl) (by decide +kernel)) rfl
theorem dl_798 : decode code 798 = .ok (.aload_n 1, 1) := dc_43 (dcc (r := 30) lq_12 rfl (Nat.le_of_ble_eq_true rfl) (by decide +kernel))
theorem dl_799 : decode code 799 = .ok (.aload_n 0, 1) := dc_42 (dcc (r := 31) lq_12 rfl (Nat.le_of_ble_eq_true rfl) (by decide +kernel))
theorem dl_800 : decode code 800 = .ok (.iload_n 3, 1) := dc_29 (dcc (r := 32) lq_12 rfl (Nat.le_of_ble_eq_true rfl) (by decide +kernel))
theorem dl_801 : decode code 801 = .ok (.iconst 1, 1) := dc_4 (dcc (r := 33) lq_12 rfl (Nat.le_of_ble_eq_true rfl) (by decide +kernel))
theorem dl_802 : decode code 802 = .ok (.iadd, 1) := dc_96 (dcc (r := 34) lq_12 rfl (Nat.le_of_ble_eq_true rfl) (by decide +kernel))
theorem dl_803 : decode code 803 = .ok (.iaload, 1) := dc_46 (dcc (r := 35) lq_12 rfl (Nat.le_of_ble_eq_true rfl) (by decide +kernel))
theorem dl_804 : decode code 804 = .ok (.invokevirtual 99, 3) := dc_182 (a := 0) (b := 99) (dcc (r := 36) lq_12 rfl (Nat.le_of_ble_eq_true rfl) (by decide +kernel)) rfl
theorem dl_807 : decode code 807 = .ok (.pop, 1) := dc_87 (dcc (r := 39) lq_12 rfl (Nat.le_of_ble_eq_true rfl) (by decide +kernel))
theorem dl_808 : decode code 808 = .ok (.aload_n 2, 1) := dc_44 (dcc (r := 40) lq_12 rfl (Nat.le_of_ble_eq_true rfl) (by decide +kernel))
theorem dl_809 : decode code 809 = .ok (.aload_n 0, 1) := dc_42 (dcc (r := 41) lq_12 rfl (Nat.le_of_ble_eq_true rfl) (by decide +kernel))
theorem dl_810 : decode code 810 = .ok (.iload_n 3, 1) := dc_29 (dcc (r := 42) lq_12 rfl (Nat.le_of_ble_eq_true rfl) (by decide +kernel))
theorem dl_811 : decode code 811 = .ok (.iconst 1, 1) := dc_4 (dcc (r := 43) lq_12 rfl (Nat.le_of_ble_eq_true rfl) (by decide +kernel))
theorem dl_812 : decode code 812 = .ok (.iadd, 1) := dc_96 (dcc (r := 44) lq_12 rfl (Nat.le_of_ble_eq_true rfl) (by decide +kernel))
theorem dl_813 : decode code 813 = .ok (.iaload, 1) := dc_46 (dcc (r := 45) lq_12 rfl (Nat.le_of_ble_eq_true rfl) (by decide +kernel))
theorem dl_814 : decode code 814 = .ok (.invokevirtual 102, 3) := dc_182 (a := 0) (b := 102) (dcc (r := 46) lq_12 rfl (Nat.le_of_ble_eq_true rfl) (by decide +kernel)) rfl
theorem dl_817 : decode code 817 = .ok (.pop, 1) := dc_87 (dcc (r := 49) lq_12 rfl (Nat.le_of_ble_eq_true rfl) (by decide +kernel))
theorem dl_818 : decode code 818 = .ok (.goto 541, 3) := dc_167 (a := 2) (b := 29) (dcc (r := 50) lq_12 rfl (Nat.le_of_ble_eq_true rfl) (by decide +kernel)) rfl
theorem dl_821 : decode code 821 = .ok (.aload_n 1, 1) := dc_43 (dcc (r := 53) lq_12 rfl (Nat.le_of_ble_eq_true rfl) (by decide +kernel))
theorem dl_822 : decode code 822 = .ok (.aload_n 0, 1) := dc_42 (dcc (r := 54) lq_12 rfl (Nat.le_of_ble_eq_true rfl) (by decide +kernel))
theorem dl_823 : decode code 823 = .ok (.iload_n 3, 1) := dc_29 (dcc (r := 55) lq_12 rfl (Nat.le_of_ble_eq_true rfl) (by decide +kernel))
theorem dl_824 : decode code 824 = .ok (.iconst 1, 1) := dc_4 (dcc (r := 56) lq_12 rfl (Nat.le_of_ble_eq_true rfl) (by decide +kernel))
theorem dl_825 : decode code 825 = .ok (.iadd, 1) := dc_96 (dcc (r := 57) lq_12 rfl (Nat.le_of_ble_eq_true rfl) (by decide +kernel))
theorem dl_826 : decode code 826 = .ok (.iaload, 1) := dc_46 (dcc (r := 58) lq_12 rfl (Nat.le_of_ble_eq_true rfl) (by decide +kernel))
theorem dl_827 : decode code 827 = .ok (.aload_n 0, 1) := dc_42 (dcc (r := 59) lq_12 rfl (Nat.le_of_ble_eq_true rfl) (by decide +kernel))
theorem dl_828 : decode code 828 = .ok (.iload_n 3, 1) := dc_29 (dcc (r := 60) lq_12 rfl (Nat.le_of_ble_eq_true rfl) (by decide +kernel))
theorem dl_829 : decode code 829 = .ok (.iconst 2, 1) := dc_5 (dcc (r := 61) lq_12 rfl (Nat.le_of_ble_eq_true rfl) (by decide +kernel))
theorem dl_830 : decode code 830 = .ok (.iadd, 1) := dc_96 (dcc (r := 62) lq_12 rfl (Nat.le_of_ble_eq_true rfl) (by decide +kernel))
theorem dl_831 : decode code 831 = .ok (.iaload, 1) := dc_46 (dcc (r := 63) lq_12 rfl (Nat.le_of_ble_eq_true rfl) (by decide +kernel))
theorem dl_832 : decode code 832 = .ok (.invokevirtual 103, 3) := dc_182 (a := 0) (b := 103) (dcc (r := 0) lq_13 rfl (Nat.le_of_ble_eq_true rfl) (by decide +kernel)) rfl
theorem dl_835 : decode code 835 = .ok (.pop, 1) := dc_87 (dcc (r := 3) lq_13 rfl (Nat.le_of_ble_eq_true rfl) (by decide +kernel))
theorem dl_836 : decode code 836 = .ok (.aload_n 2, 1) := dc_44 (dcc (r := 4) lq_13 rfl (Nat.le_of_ble_eq_true rfl) (by decide +kernel))
theorem dl_837 : decode code 837 = .ok (.aload_n 0, 1) := dc_42 (dcc (r := 5) lq_13 rfl (Nat.le_of_ble_eq_true rfl) (by decide +kernel))
theorem dl_838 : decode code 838 = .ok (.iload_n 3, 1) := dc_29 (dcc (r := 6) lq_13 rfl (Nat.le_of_ble_eq_true rfl) (by decide +kernel))
theorem dl_839 : decode code 839 = .ok (.iconst 1, 1) := dc_4 (dcc (r := 7) lq_13 rfl (Nat.le_of_ble_eq_true rfl) (by decide +kernel))
theorem dl_840 : decode code 840 = .ok (.iadd, 1) := dc_96 (dcc (r := 8) lq_13 rfl (Nat.le_of_ble_eq_true rfl) (by decide +kernel))
theorem dl_841 : decode code 841 = .ok (.iaload, 1) := dc_46 (dcc (r := 9) lq_13 rfl (Nat.le_of_ble_eq_true rfl) (by decide +kernel))
theorem dl_842 : decode code 842 = .ok (.aload_n 0, 1) := dc_42 (dcc (r := 10) lq_13 rfl (Nat.le_of_ble_eq_true rfl) (by decide +kernel))
theorem dl_843 : decode code 843 = .ok (.iload_n 3, 1) := dc_29 (dcc (r := 11) lq_13 rfl (Nat.le_of_ble_eq_true rfl) (by decide +kernel))
theorem dl_844 : decode code 844 = .ok (.iconst 2, 1) := dc_5 (dcc (r := 12) lq_13 rfl (Nat.le_of_ble_eq_true rfl) (by decide +kernel))
theorem dl_845 : decode code 845 = .ok (.iadd, 1) := dc_96 (dcc (r := 13) lq_13 rfl (Nat.le_of_ble_eq_true rfl) (by decide +kernel))
theorem dl_846 : decode code 846 = .ok (.iaload, 1) := dc_46 (dcc (r := 14) lq_13 rfl (Nat.le_of_ble_eq_true rfl) (by decide +kernel))
theorem dl_847 : decode code 847 = .ok (.invokevirtual 106, 3) := dc_182 (a := 0) (b := 106) (dcc (r := 15) lq_13 rfl (Nat.le_of_ble_eq_true rfl) (by decide +kernel)) rfl
theorem dl_850 : decode code 850 = .ok (.pop, 1) := dc_87 (dcc (r := 18) lq_13 rfl (Nat.le_of_ble_eq_true rfl) (by decide +kernel))
theorem dl_851 : decode code 851 = .ok (.goto 508, 3) := dc_167 (a := 1) (b := 252) (dcc (r := 19) lq_13 rfl (Nat.le_of_ble_eq_true rfl) (by decide +kernel)) rfl
theorem dl_854 : decode code 854 = .ok (.aload_n 1, 1) := dc_43 (dcc (r := 22) lq_13 rfl (Nat.le_of_ble_eq_true rfl) (by decide +kernel))
theorem dl_855 : decode code 855 = .ok (.aload_n 0, 1) := dc_42 (dcc (r := 23) lq_13 rfl (Nat.le_of_ble_eq_true rfl) (by decide +kernel))
theorem dl_856 : decode code 856 = .ok (.iload_n 3, 1) := dc_29 (dcc (r := 24) lq_13 rfl (Nat.le_of_ble_eq_true rfl) (by decide +kernel))
theorem dl_857 : decode code 857 = .ok (.iconst 1, 1) := dc_4 (dcc (r := 25) lq_13 rfl (Nat.le_of_ble_eq_true rfl) (by decide +kernel))
theorem dl_858 : decode code 858 = .ok (.iadd, 1) := dc_96 (dcc (r := 26) lq_13 rfl (Nat.le_of_ble_eq_true rfl) (by decide +kernel))
theorem dl_859 : decode code 859 = .ok (.iaload, 1) := dc_46 (dcc (r := 27) lq_13 rfl (Nat.le_of_ble_eq_true rfl) (by decide +kernel))
theorem dl_860 : decode code 860 = .ok (.aload_n 0, 1) := dc_42 (dcc (r := 28) lq_13 rfl (Nat.le_of_ble_eq_true rfl) (by decide +kernel))
theorem dl_861 : decode code 861 = .ok (.iload_n 3, 1) := dc_29 (dcc (r := 29) lq_13 rfl (Nat.le_of_ble_eq_true rfl) (by decide +kernel))
theorem dl_862 : decode code 862 = .ok (.iconst 2, 1) := dc_5 (dcc (r := 30) lq_13 rfl (Nat.le_of_ble_eq_true rfl) (by decide +kernel))
theorem dl_863 : decode code 863 = .ok (.iadd, 1) := dc_96 (dcc (r := 31) lq_13 rfl (Nat.le_of_ble_eq_true rfl) (by decide +kernel))
theorem dl_864 : decode code 864 = .ok (.iaload, 1) := dc_46 (dcc (r := 32) lq_13 rfl (Nat.le_of_ble_eq_true rfl) (by decide +kernel))
theorem dl_865 : decode code 865 = .ok (.aload_n 0, 1) := dc_42 (dcc (r := 33) lq_13 rfl (Nat.le_of_ble_eq_true rfl) (by decide +kernel))
theorem dl_866 : decode code 866 = .ok (.iload_n 3, 1) := dc_29 (dcc (r := 34) lq_13 rfl (Nat.le_of_ble_eq_true rfl) (by decide +kernel))
theorem dl_867 : decode code 867 = .ok (.iconst 3, 1) := dc_6 (dcc (r := 35) lq_13 rfl (Nat.le_of_ble_eq_true rfl) (by decide +kernel))
theorem dl_868 : decode code 868 = .ok (.iadd, 1) := dc_96 (dcc (r := 36) lq_13 rfl (Nat.le_of_ble_eq_true rfl) (by decide +kernel))
theorem dl_869 : decode code 869 = .ok (.iaload, 1) := dc_46 (dcc (r := 37) lq_13 rfl (Nat.le_of_ble_eq_true rfl) (by decide +kernel))
theorem dl_870 : decode code 870 = .ok (.aload_n 0, 1) := dc_42 (dcc (r := 38) lq_13 rfl (Nat.le_of_ble_eq_true rfl) (by decide +kernel))
theorem dl_871 : decode code 871 = .ok (.iload_n 3, 1) := dc_29 (dcc (r := 39) lq_13 rfl (Nat.le_of_ble_eq_true rfl) (by decide +kernel))
theorem dl_872 : decode code 872 = .ok (.iconst 4, 1) := dc_7 (dcc (r := 40) lq_13 rfl (Nat.le_of_ble_eq_true rfl) (by decide +kernel))
theorem dl_873 : decode code 873 = .ok (.iadd, 1) := dc_96 (dcc (r := 41) lq_13 rfl (Nat.le_of_ble_eq_true rfl) (by decide +kernel))
theorem dl_874 : decode code 874 = .ok (.iaload, 1) := dc_46 (dcc (r := 42) lq_13 rfl (Nat.le_of_ble_eq_true rfl) (by decide +kernel))
theorem dl_875 : decode code 875 = .ok (.invokevirtual 107, 3) := dc_182 (a := 0) (b := 107) (dcc (r := 43) lq_13 rfl (Nat.le_of_ble_eq_true rfl) (by decide +kernel)) rfl
theorem dl_878 : decode code 878 = .ok (.pop, 1) := dc_87 (dcc (r := 46) lq_13 rfl (Nat.le_of_ble_eq_true rfl) (by decide +kernel))
theorem dl_879 : decode code 879 = .ok (.aload_n 2, 1) := dc_44 (dcc (r := 47) lq_13 rfl (Nat.le_of_ble_eq_true rfl) (by decide +kernel))
theorem dl_880 : decode code 880 = .ok (.aload_n 0, 1) := dc_42 (dcc (r := 48) lq_13 rfl (Nat.le_of_ble_eq_true rfl) (by decide +kernel))
theorem dl_881 : decode code 881 = .ok (.iload_n 3, 1) := dc_29 (dcc (r := 49) lq_13 rfl (Nat.le_of_ble_eq_true rfl) (by decide +kernel))
theorem dl_882 : decode code 882 = .ok (.iconst 1, 1) := dc_4 (dcc (r := 50) lq_13 rfl (Nat.le_of_ble_eq_true rfl) (by decide +kernel))
theorem dl_883 : decode code 883 = .ok (.iadd, 1) := dc_96 (dcc (r := 51) lq_13 rfl (Nat.le_of_ble_eq_true rfl) (by decide +kernel))
theorem dl_884 : decode code 884 = .ok (.iaload, 1) := dc_46 (dcc (r := 52) lq_13 rfl (Nat.le_of_ble_eq_true rfl) (by decide +kernel))
theorem dl_885 : decode code 885 = .ok (.aload_n 0, 1) := dc_42 (dcc (r := 53) lq_13 rfl (Nat.le_of_ble_eq_true rfl) (by decide +kernel))
theorem dl_886 : decode code 886 = .ok (.iload_n 3, 1) := dc_29 (dcc (r := 54) lq_13 rfl (Nat.le_of_ble_eq_true rfl) (by decide +kernel))
theorem dl_887 : decode code 887 = .ok (.iconst 2, 1) := dc_5 (dcc (r := 55) lq_13 rfl (Nat.le_of_ble_eq_true rfl) (by decide +kernel))
theorem dl_888 : decode code 888 = .ok (.iadd, 1) := dc_96 (dcc (r := 56) lq_13 rfl (Nat.le_of_ble_eq_true rfl) (by decide +kernel))
theorem dl_889 : decode code 889 = .ok (.iaload, 1) := dc_46 (dcc (r := 57) lq_13 rfl (Nat.le_of_ble_eq_true rfl) (by decide +kernel))
theorem dl_890 : decode code 890 = .ok (.aload_n 0, 1) := dc_42 (dcc (r := 58) lq_13 rfl (Nat.le_of_ble_eq_true rfl) (by decide +kernel))
theorem dl_891 : decode code 891 = .ok (.iload_n 3, 1) := dc_29 (dcc (r := 59) lq_13 rfl (Nat.le_of_ble_eq_true rfl) (by decide +kernel))
theorem dl_892 : decode code 892 = .ok (.iconst 3, 1) := dc_6 (dcc (r := 60) lq_13 rfl (Nat.le_of_ble_eq_true rfl) (by decide +kernel))
theorem dl_893 : decode code 893 = .ok (.iadd, 1) := dc_96 (dcc (r := 61) lq_13 rfl (Nat.le_of_ble_eq_true rfl) (by decide +kernel))
theorem dl_894 : decode code 894 = .ok (.iaload, 1) := dc_46 (dcc (r := 62) lq_13 rfl (Nat.le_of_ble_eq_true rfl) (by decide +kernel))
theorem dl_895 : decode code 895 = .ok (.aload_n 0, 1) := dc_42 (dcc (r := 63) lq_13 rfl (Nat.le_of_ble_eq_true rfl) (by decide +kernel))
theorem dl_896 : decode code 896 = .ok (.iload_n 3, 1) := dc_29 (dcc (r := 0) lq_14 rfl (Nat.le_of_ble_eq_true rfl) (by decide +kernel))
theorem dl_897 : decode code 897 = .ok (.iconst 4, 1) := dc_7 (dcc (r := 1) lq_14 rfl (Nat.le_of_ble_eq_true rfl) (by decide +kernel))
theorem dl_898 : decode code 898 = .ok (.iadd, 1) := dc_96 (dcc (r := 2) lq_14 rfl (Nat.le_of_ble_eq_true rfl) (by decide +kernel))
theorem dl_899 : decode code 899 = .ok (.iaload, 1) := dc_46 (dcc (r := 3) lq_14 rfl (Nat.le_of_ble_eq_true rfl) (by decide +kernel))
theorem dl_900 : decode code 900 = .ok (.invokevirtual 111, 3) := dc_182 (a := 0) (b := 111) (dcc (r := 4) lq_14 rfl (Nat.le_of_ble_eq_true rfl) (by decide +kernel)) rfl
theorem dl_903 : decode code 903 = .ok (.pop, 1) := dc_87 (dcc (r := 7) lq_14 rfl (Nat.le_of_ble_eq_true rfl) (by decide +kernel))
theorem dl_904 : decode code 904 = .ok (.goto 455, 3) := dc_167 (a := 1) (b := 199) (dcc (r := 8) lq_14 rfl (Nat.le_of_ble_eq_true rfl) (by decide +kernel)) rfl
theorem dl_907 : decode code 907 = .ok (.aload_n 1, 1) := dc_43 (dcc (r := 11) lq_14 rfl (Nat.le_of_ble_eq_true rfl) (by decide +kernel))
theorem dl_908 : decode code 908 = .ok (.aload_n 0, 1) := dc_42 (dcc (r := 12) lq_14 rfl (Nat.le_of_ble_eq_true rfl) (by decide +kernel))
theorem dl_909 : decode code 909 = .ok (.iload_n 3, 1) := dc_29 (dcc (r := 13) lq_14 rfl (Nat.le_of_ble_eq_true rfl) (by decide +kernel))
theorem dl_910 : decode code 910 = .ok (.iconst 1, 1) := dc_4 (dcc (r := 14) lq_14 rfl (Nat.le_of_ble_eq_true rfl) (by decide +kernel))
theorem dl_911 : decode code 911 = .ok (.iadd, 1) := dc_96 (dcc (r := 15) lq_14 rfl (Nat.le_of_ble_eq_true rfl) (by decide +kernel))
theorem dl_912 : decode code 912 = .ok (.iaload, 1) := dc_46 (dcc (r := 16) lq_14 rfl (Nat.le_of_ble_eq_true rfl) (by decide +kernel))
theorem dl_913 : decode code 913 = .ok (.aload_n 0, 1) := dc_42 (dcc (r := 17) lq_14 rfl (Nat.le_of_ble_eq_true rfl) (by decide +kernel))
theorem dl_914 : decode code 914 = .ok (.iload_n 3, 1) := dc_29 (dcc (r := 18) lq_14 rfl (Nat.le_of_ble_eq_true rfl) (by decide +kernel))
theorem dl_915 : decode code 915 = .ok (.iconst 2, 1) := dc_5 (dcc (r := 19) lq_14 rfl (Nat.le_of_ble_eq_true rfl) (by decide +kernel))
theorem dl_916 : decode code 916 = .ok (.iadd, 1) := dc_96 (dcc (r := 20) lq_14 rfl (Nat.le_of_ble_eq_true rfl) (by decide +kernel))
theorem dl_917 : decode code 917 = .ok (.iaload, 1) := dc_46 (dcc (r := 21) lq_14 rfl (Nat.le_of_ble_eq_true rfl) (by decide +kernel))
theorem dl_918 : decode code 918 = .ok (.aload_n 0, 1) := dc_42 (dcc (r := 22) lq_14 rfl (Nat.le_of_ble_eq_true rfl) (by decide +kernel))
theorem dl_919 : decode code 919 = .ok (.iload_n 3, 1) := dc_29 (dcc (r := 23) lq_14 rfl (Nat.le_of_ble_eq_true rfl) (by decide +kernel))
theorem dl_920 : decode code 920 = .ok (.iconst 3, 1) := dc_6 (dcc (r := 24) lq_14 rfl (Nat.le_of_ble_eq_true rfl) (by decide +kernel))
theorem dl_921 : decode code 921 = .ok (.iadd, 1) := dc_96 (dcc (r := 25) lq_14 rfl (Nat.le_of_ble_eq_true rfl) (by decide +kernel))
theorem dl_922 : decode code 922 = .ok (.iaload, 1) := dc_46 (dcc (r := 26) lq_14 rfl (Nat.le_of_ble_eq_true rfl) (by decide +kernel))
theorem dl_923 : decode code 923 = .ok (.invokevirtual 112, 3) := dc_182 (a := 0) (b := 112) (dcc (r := 27) lq_14 rfl (Nat.le_of_ble_eq_true rfl) (by decide +kernel)) rfl
theorem dl_926 : decode code 926 = .ok (.pop, 1) := dc_87 (dcc (r := 30) lq_14 rfl (Nat.le_of_ble_eq_true rfl) (by decide +kernel))
theorem dl_927 : decode code 927 = .ok (.aload_n 2, 1) := dc_44 (dcc (r := 31) lq_14 rfl (Nat.le_of_ble_eq_true rfl) (by decide +kernel))
theorem dl_928 : decode code 928 = .ok (.aload_n 0, 1) := dc_42 (dcc (r := 32) lq_14 rfl (Nat.le_of_ble_eq_true rfl) (by decide +kernel))
theorem dl_929 : decode code 929 = .ok (.iload_n 3, 1) := dc_29 (dcc (r := 33) lq_14 rfl (Nat.le_of_ble_eq_true rfl) (by decide +kernel))
theorem dl_930 : decode code 930 = .ok (.iconst 1, 1) := dc_4 (dcc (r := 34) lq_14 rfl (Nat.le_of_ble_eq_true rfl) (by decide +kernel))
theorem dl_931 : decode code 931 = .ok (.iadd, 1) := dc_96 (dcc (r := 35) lq_14 rfl (Nat.le_of_ble_eq_true rfl) (by decide +kernel))
theorem dl_932 : decode code 932 = .ok (.iaload, 1) := dc_46 (dcc (r := 36) lq_14 rfl (Nat.le_of_ble_eq_true rfl) (by decide +kernel))
theorem dl_933 : decode code 933 = .ok (.aload_n 0, 1) := dc_42 (dcc (r := 37) lq_14 rfl (Nat.le_of_ble_eq_true rfl) (by decide +kernel))
theorem dl_934 : decode code 934 = .ok (.iload_n 3, 1) := dc_29 (dcc (r := 38) lq_14 rfl (Nat.le_of_ble_eq_true rfl) (by decide +kernel))
theorem dl_935 : decode code 935 = .ok (.iconst 2, 1) := dc_5 (dcc (r := 39) lq_14 rfl (Nat.le_of_ble_eq_true rfl) (by decide +kernel))
theorem dl_936 : decode code 936 = .ok (.iadd, 1) := dc_96 (dcc (r := 40) lq_14 rfl (Nat.le_of_ble_eq_true rfl) (by decide +kernel))
theorem dl_937 : decode code 937 = .ok (.iaload, 1) := dc_46 (dcc (r := 41) lq_14 rfl (Nat.le_of_ble_eq_true rfl) (by decide +kernel))
theorem dl_938 : decode code 938 = .ok (.aload_n 0, 1) := dc_42 (dcc (r := 42) lq_14 rfl (Nat.le_of_ble_eq_true rfl) (by decide +kernel))
theorem dl_939 : decode code 939 = .ok (.iload_n 3, 1) := dc_29 (dcc (r := 43) lq_14 rfl (Nat.le_of_ble_eq_true rfl) (by decide +kernel))
theorem dl_940 : decode code 940 = .ok (.iconst 3, 1) := dc_6 (dcc (r := 44) lq_14 rfl (Nat.le_of_ble_eq_true rfl) (by decide +kernel))
theorem dl_941 : decode code 941 = .ok (.iadd, 1) := dc_96 (dcc (r := 45) lq_14 rfl (Nat.le_of_ble_eq_true rfl) (by decide +kernel))
theorem dl_942 : decode code 942 = .ok (.iaload, 1) := dc_46 (dcc (r := 46) lq_14 rfl (Nat.le_of_ble_eq_true rfl) (by decide +kernel))
theorem dl_943 : decode code 943 = .ok (.invokevirtual 115, 3) := dc_182 (a := 0) (b := 115) (dcc (r := 47) lq_14 rfl (Nat.le_of_ble_eq_true rfl) (by decide +kernel)) rfl
theorem dl_946 : decode code 946 = .ok (.pop, 1) := dc_87 (dcc (r := 50) lq_14 rfl (Nat.le_of_ble_eq_true rfl) (by decide +kernel))
theorem dl_947 : decode code 947 = .ok (.goto 412, 3) := dc_167 (a := 1) (b := 156) (dcc (r := 51) lq_14 rfl (Nat.le_of_ble_eq_true rfl) (by decide +kernel)) rfl
theorem dl_950 : decode code 950 = .ok (.aload_n 1, 1) := dc_43 (dcc (r := 54) lq_14 rfl (Nat.le_of_ble_eq_true rfl) (by decide +kernel))
theorem dl_951 : decode code 951 = .ok (.aload_n 0, 1) := dc_42 (dcc (r := 55) lq_14 rfl (Nat.le_of_ble_eq_true rfl) (by decide +kernel))
theorem dl_952 : decode code 952 = .ok (.iload_n 3, 1) := dc_29 (dcc (r := 56) lq_14 rfl (Nat.le_of_ble_eq_true rfl) (by decide +kernel))
theorem dl_953 : decode code 953 = .ok (.iconst 1, 1) := dc_4 (dcc (r := 57) lq_14 rfl (Nat.le_of_ble_eq_true rfl) (by decide +kernel))
theorem dl_954 : decode code 954 = .ok (.iadd, 1) := dc_96 (dcc (r := 58) lq_14 rfl (Nat.le_of_ble_eq_true rfl) (by decide +kernel))
theorem dl_955 : decode code 955 = .ok (.iaload, 1) := dc_46 (dcc (r := 59) lq_14 rfl (Nat.le_of_ble_eq_true rfl) (by decide +kernel))
theorem dl_956 : decode code 956 = .ok (.aload_n 0, 1) := dc_42 (dcc (r := 60) lq_14 rfl (Nat.le_of_ble_eq_true rfl) (by decide +kernel))
theorem dl_957 : decode code 957 = .ok (.iload_n 3, 1) := dc_29 (dcc (r := 61) lq_14 rfl (Nat.le_of_ble_eq_true rfl) (by decide +kernel))
theorem dl_958 : decode code 958 = .ok (.iconst 2, 1) := dc_5 (dcc (r := 62) lq_14 rfl (Nat.le_of_ble_eq_true rfl) (by decide +kernel))
theorem dl_959 : decode code 959 = .ok (.iadd, 1) := dc_96 (dcc (r := 63) lq_14 rfl (Nat.le_of_ble_eq_true rfl) (by decide +kernel))
theorem dl_960 : decode code 960 = .ok (.iaload, 1) := dc_46 (dcc (r := 0) lq_15 rfl (Nat.le_of_ble_eq_true rfl) (by decide +kernel))
theorem dl_961 : decode code 961 = .ok (.aload_n 0, 1) := dc_42 (dcc (r := 1) lq_15 rfl (Nat.le_of_ble_eq_true rfl) (by decide +kernel))
theorem dl_962 : decode code 962 = .ok (.iload_n 3, 1) := dc_29 (dcc (r := 2) lq_15 rfl (Nat.le_of_ble_eq_true rfl) (by decide +kernel))
theorem dl_963 : decode code 963 = .ok (.iconst 3, 1) := dc_6 (dcc (r := 3) lq_15 rfl (Nat.le_of_ble_eq_true rfl) (by decide +kernel))
theorem dl_964 : decode code 964 = .ok (.iadd, 1) := dc_96 (dcc (r := 4) lq_15 rfl (Nat.le_of_ble_eq_true rfl) (by decide +kernel))
theorem dl_965 : decode code 965 = .ok (.iaload, 1) := dc_46 (dcc (r := 5) lq_15 rfl (Nat.le_of_ble_eq_true rfl) (by decide +kernel))
theorem dl_966 : decode code 966 = .ok (.aload_n 0, 1) := dc_42 (dcc (r := 6) lq_15 rfl (Nat.le_of_ble_eq_true rfl) (by decide +kernel))
theorem dl_967 : decode code 967 = .ok (.iload_n 3, 1) := dc_29 (dcc (r := 7) lq_15 rfl (Nat.le_of_ble_eq_true rfl) (by decide +kernel))
theorem dl_968 : decode code 968 = .ok (.iconst 4, 1) := dc_7 (dcc (r := 8) lq_15 rfl (Nat.le_of_ble_eq_true rfl) (by decide +kernel))
theorem dl_969 : decode code 969 = .ok (.iadd, 1) := dc_96 (dcc (r := 9) lq_15 rfl (Nat.le_of_ble_eq_true rfl) (by decide +kernel))
theorem dl_970 : decode code 970 = .ok (.iaload, 1) := dc_46 (dcc (r := 10) lq_15 rfl (Nat.le_of_ble_eq_true rfl) (by decide +kernel))
theorem dl_971 : decode code 971 = .ok (.invokevirtual 116, 3) := dc_182 (a := 0) (b := 116) (dcc (r := 11) lq_15 rfl (Nat.le_of_ble_eq_true rfl) (by decide +kernel)) rfl
theorem dl_974 : decode code 974 = .ok (.pop2, 1) := dc_88 (dcc (r := 14) lq_15 rfl (Nat.le_of_ble_eq_true rfl) (by decide +kernel))
theorem dl_975 : decode code 975 = .ok (.aload_n 2, 1) := dc_44 (dcc (r := 15) lq_15 rfl (Nat.le_of_ble_eq_true rfl) (by decide +kernel))
theorem dl_976 : decode code 976 = .ok (.aload_n 0, 1) := dc_42 (dcc (r := 16) lq_15 rfl (Nat.le_of_ble_eq_true rfl) (by decide +kernel))
theorem dl_977 : decode code 977 = .ok (.iload_n 3, 1) := dc_29 (dcc (r := 17) lq_15 rfl (Nat.le_of_ble_eq_true rfl) (by decide +kernel))
theorem dl_978 : decode code 978 = .ok (.iconst 1, 1) := dc_4 (dcc (r := 18) lq_15 rfl (Nat.le_of_ble_eq_true rfl) (by decide +kernel))
theorem dl_979 : decode code 979 = .ok (.iadd, 1) := dc_96 (dcc (r := 19) lq_15 rfl (Nat.le_of_ble_eq_true rfl) (by decide +kernel))
theorem dl_980 : decode code 980 = .ok (.iaload, 1) := dc_46 (dcc (r := 20) lq_15 rfl (Nat.le_of_ble_eq_true rfl) (by decide +kernel))
theorem dl_981 : decode code 981 = .ok (.aload_n 0, 1) := dc_42 (dcc (r := 21) lq_15 rfl (Nat.le_of_ble_eq_true rfl) (by decide +kernel))
theorem dl_982 : decode code 982 = .ok (.iload_n 3, 1) := dc_29 (dcc (r := 22) lq_15 rfl (Nat.le_of_ble_eq_true rfl) (by decide +kernel))
theorem dl_983 : decode code 983 = .ok (.iconst 2, 1) := dc_5 (dcc (r := 23) lq_15 rfl (Nat.le_of_ble_eq_true rfl) (by decide +kernel))
theorem dl_984 : decode code 984 = .ok (.iadd, 1) := dc_96 (dcc (r := 24) lq_15 rfl (Nat.le_of_ble_eq_true rfl) (by decide +kernel))
theorem dl_985 : decode code 985 = .ok (.iaload, 1) := dc_46 (dcc (r := 25) lq_15 rfl (Nat.le_of_ble_eq_true rfl) (by decide +kernel))
theorem dl_986 : decode code 986 = .ok (.aload_n 0, 1) := dc_42 (dcc (r := 26) lq_15 rfl (Nat.le_of_ble_eq_true rfl) (by decide +kernel))
theorem dl_987 : decode code 987 = .ok (.iload_n 3, 1) := dc_29 (dcc (r := 27) lq_15 rfl (Nat.le_of_ble_eq_true rfl) (by decide +kernel))
theorem dl_988 : decode code 988 = .ok (.iconst 3, 1) := dc_6 (dcc (r := 28) lq_15 rfl (Nat.le_of_ble_eq_true rfl) (by decide +kernel))
theorem dl_989 : decode code 989 = .ok (.iadd, 1) := dc_96 (dcc (r := 29) lq_15 rfl (Nat.le_of_ble_eq_true rfl) (by decide +kernel))
theorem dl_990 : decode code 990 = .ok (.iaload, 1) := dc_46 (dcc (r := 30) lq_15 rfl (Nat.le_of_ble_eq_true rfl) (by decide +kernel))
theorem dl_991 : decode code 991 = .ok (.aload_n 0, 1) := dc_42 (dcc (r := 31) lq_15 rfl (Nat.le_of_ble_eq_true rfl) (by decide +kernel))
theorem dl_992 : decode code 992 = .ok (.iload_n 3, 1) := dc_29 (dcc (r := 32) lq_15 rfl (Nat.le_of_ble_eq_true rfl) (by decide +kernel))
theorem dl_993 : decode code 993 = .ok (.iconst 4, 1) := dc_7 (dcc (r := 33) lq_15 rfl (Nat.le_of_ble_eq_true rfl) (by decide +kernel))
theorem dl_994 : decode code 994 = .ok (.iadd, 1) := dc_96 (dcc (r := 34) lq_15 rfl (Nat.le_of_ble_eq_true rfl) (by decide +kernel))
theorem dl_995 : decode code 995 = .ok (.iaload, 1) := dc_46 (dcc (r := 35) lq_15 rfl (Nat.le_of_ble_eq_true rfl) (by decide +kernel))
theorem dl_996 : decode code 996 = .ok (.invokevirtual 120, 3) := dc_182 (a := 0) (b := 120) (dcc (r := 36) lq_15 rfl (Nat.le_of_ble_eq_true rfl) (by decide +kernel)) rfl
theorem dl_999 : decode code 999 = .ok (.pop2, 1) := dc_88 (dcc (r := 39) lq_15 rfl (Nat.le_of_ble_eq_true rfl) (by decide +kernel))
theorem dl_1000 : decode code 1000 = .ok (.goto 359, 3) := dc_167 (a := 1) (b := 103) (dcc (r := 40) lq_15 rfl (Nat.le_of_ble_eq_true rfl) (by decide +kernel)) rfl
theorem dl_1003 : decode code 1003 = .ok (.aload_n 1, 1) := dc_43 (dcc (r := 43) lq_15 rfl (Nat.le_of_ble_eq_true rfl) (by decide +kernel))
theorem dl_1004 : decode code 1004 = .ok (.aload_n 0, 1) := dc_42 (dcc (r := 44) lq_15 rfl (Nat.le_of_ble_eq_true rfl) (by decide +kernel))
theorem dl_1005 : decode code 1005 = .ok (.iload_n 3, 1) := dc_29 (dcc (r := 45) lq_15 rfl (Nat.le_of_ble_eq_true rfl) (by decide +kernel))
theorem dl_1006 : decode code 1006 = .ok (.iconst 1, 1) := dc_4 (dcc (r := 46) lq_15 rfl (Nat.le_of_ble_eq_true rfl) (by decide +kernel))
theorem dl_1007 : decode code 1007 = .ok (.iadd, 1) := dc_96 (dcc (r := 47) lq_15 rfl (Nat.le_of_ble_eq_true rfl) (by decide +kernel))
theorem dl_1008 : decode code 1008 = .ok (.iaload, 1) := dc_46 (dcc (r := 48) lq_15 rfl (Nat.le_of_ble_eq_true rfl) (by decide +kernel))
theorem dl_1009 : decode code 1009 = .ok (.invokevirtual 121, 3) := dc_182 (a := 0) (b := 121) (dcc (r := 49) lq_15 rfl (Nat.le_of_ble_eq_true rfl) (by decide +kernel)) rfl
theorem dl_1012 : decode code 1012 = .ok (.pop, 1) := dc_87 (dcc (r := 52) lq_15 rfl (Nat.le_of_ble_eq_true rfl) (by decide +kernel))
theorem dl_1013 : decode code 1013 = .ok (.aload_n 2, 1) := dc_44 (dcc (r := 53) lq_15 rfl (Nat.le_of_ble_eq_true rfl) (by decide +kernel))
theorem dl_1014 : decode code 1014 = .ok (.aload_n 0, 1) := dc_42 (dcc (r := 54) lq_15 rfl (Nat.le_of_ble_eq_true rfl) (by decide +kernel))
theorem dl_1015 : decode code 1015 = .ok (.iload_n 3, 1) := dc_29 (dcc (r := 55) lq_15 rfl (Nat.le_of_ble_eq_true rfl) (by decide +kernel))
theorem dl_1016 : decode code 1016 = .ok (.iconst 1, 1) := dc_4 (dcc (r := 56) lq_15 rfl (Nat.le_of_ble_eq_true rfl) (by decide +kernel))
theorem dl_1017 : decode code 1017 = .ok (.iadd, 1) := dc_96 (dcc (r := 57) lq_15 rfl (Nat.le_of_ble_eq_true rfl) (by decide +kernel))
theorem dl_1018 : decode code 1018 = .ok (.iaload, 1) := dc_46 (dcc (r := 58) lq_15 rfl (Nat.le_of_ble_eq_true rfl) (by decide +kernel))
theorem dl_1019 : decode code 1019 = .ok (.invokevirtual 124, 3) := dc_182 (a := 0) (b := 124) (dcc (r := 59) lq_15 rfl (Nat.le_of_ble_eq_true rfl) (by decide +kernel)) rfl
theorem dl_1022 : decode code 1022 = .ok (.pop, 1) := dc_87 (dcc (r := 62) lq_15 rfl (Nat.le_of_ble_eq_true rfl) (by decide +kernel))
theorem dl_1023 : decode code 1023 = .ok (.goto 336, 3) := dc_167 (a := 1) (b := 80) (dcc (r := 63) lq_15 rfl (Nat.le_of_ble_eq_true rfl) (by decide +kernel)) rfl
theorem dl_1026 : decode code 1026 = .ok (.aload_n 1, 1) := dc_43 (dcc (r := 2) lq_16 rfl (Nat.le_of_ble_eq_true rfl) (by decide +kernel))
theorem dl_1027 : decode code 1027 = .ok (.aload_n 0, 1) := dc_42 (dcc (r := 3) lq_16 rfl (Nat.le_of_ble_eq_true rfl) (by decide +kernel))
theorem dl_1028 : decode code 1028 = .ok (.iload_n 3, 1) := dc_29 (dcc (r := 4) lq_16 rfl (Nat.le_of_ble_eq_true rfl) (by decide +kernel))
theorem dl_1029 : decode code 1029 = .ok (.iconst 1, 1) := dc_4 (dcc (r := 5) lq_16 rfl (Nat.le_of_ble_eq_true rfl) (by decide +kernel))
theorem dl_1030 : decode code 1030 = .ok (.iadd, 1) := dc_96 (dcc (r := 6) lq_16 rfl (Nat.le_of_ble_eq_true rfl) (by decide +kernel))
theorem dl_1031 : decode code 1031 = .ok (.iaload, 1) := dc_46 (dcc (r := 7) lq_16 rfl (Nat.le_of_ble_eq_true rfl) (by decide +kernel))
theorem dl_1032 : decode code 1032 = .ok (.aload_n 0, 1) := dc_42 (dcc (r := 8) lq_16 rfl (Nat.le_of_ble_eq_true rfl) (by decide +kernel))
theorem dl_1033 : decode code 1033 = .ok (.iload_n 3, 1) := dc_29 (dcc (r := 9) lq_16 rfl (Nat.le_of_ble_eq_true rfl) (by decide +kernel))
theorem dl_1034 : decode code 1034 = .ok (.iconst 2, 1) := dc_5 (dcc (r := 10) lq_16 rfl (Nat.le_of_ble_eq_true rfl) (by decide +kernel))
theorem dl_1035 : decode code 1035 = .ok (.iadd, 1) := dc_96 (dcc (r := 11) lq_16 rfl (Nat.le_of_ble_eq_true rfl) (by decide +kernel))
theorem dl_1036 : decode code 1036 = .ok (.iaload, 1) := dc_46 (dcc (r := 12) lq_16 rfl (Nat.le_of_ble_eq_true rfl) (by decide +kernel))
theorem dl_1037 : decode code 1037 = .ok (.invokevirtual 125, 3) := dc_182 (a := 0) (b := 125) (dcc (r := 13) lq_16 rfl (Nat.le_of_ble_eq_true rfl) (by decide +kernel)) rfl
theorem dl_1040 : decode code 1040 = .ok (.pop, 1) := dc_87 (dcc (r := 16) lq_16 rfl (Nat.le_of_ble_eq_true rfl) (by decide +kernel))
theorem dl_1041 : decode code 1041 = .ok (.aload_n 2, 1) := dc_44 (dcc (r := 17) lq_16 rfl (Nat.le_of_ble_eq_true rfl) (by decide +kernel))
theorem dl_1042 : decode code 1042 = .ok (.aload_n 0, 1) := dc_42 (dcc (r := 18) lq_16 rfl (Nat.le_of_ble_eq_true rfl) (by decide +kernel))
theorem dl_1043 : decode code 1043 = .ok (.iload_n 3, 1) := dc_29 (dcc (r := 19) lq_16 rfl (Nat.le_of_ble_eq_true rfl) (by decide +kernel))
theorem dl_1044 : decode code 1044 = .ok (.iconst 1, 1) := dc_4 (dcc (r := 20) lq_16 rfl (Nat.le_of_ble_eq_true rfl) (by decide +kernel))
theorem dl_1045 : decode code 1045 = .ok (.iadd, 1) := dc_96 (dcc (r := 21) lq_16 rfl (Nat.le_of_ble_eq_true rfl) (by decide +kernel))
theorem dl_1046 : decode code 1046 = .ok (.iaload, 1) := dc_46 (dcc (r := 22) lq_16 rfl (Nat.le_of_ble_eq_true rfl) (by decide +kernel))
theorem dl_1047 : decode code 1047 = .ok (.aload_n 0, 1) := dc_42 (dcc (r := 23) lq_16 rfl (Nat.le_of_ble_eq_true rfl) (by decide +kernel))
theorem dl_1048 : decode code 1048 = .ok (.iload_n 3, 1) := dc_29 (dcc (r := 24) lq_16 rfl (Nat.le_of_ble_eq_true rfl) (by decide +kernel))
theorem dl_1049 : decode code 1049 = .ok (.iconst 2, 1) := dc_5 (dcc (r := 25) lq_16 rfl (Nat.le_of_ble_eq_true rfl) (by decide +kernel))
theorem dl_1050 : decode code 1050 = .ok (.iadd, 1) := dc_96 (dcc (r := 26) lq_16 rfl (Nat.le_of_ble_eq_true rfl) (by decide +kernel))
theorem dl_1051 : decode code 1051 = .ok (.iaload, 1) := dc_46 (dcc (r := 27) lq_16 rfl (Nat.le_of_ble_eq_true rfl) (by decide +kernel))
theorem dl_1052 : decode code 1052 = .ok (.invokevirtual 128, 3) := dc_182 (a := 0) (b := 128) (dcc (r := 28) lq_16 rfl (Nat.le_of_ble_eq_true rfl) (by decide +kernel)) rfl
theorem dl_1055 : decode code 1055 = .ok (.pop, 1) := dc_87 (dcc (r := 31) lq_16 rfl (Nat.le_of_ble_eq_true rfl) (by decide +kernel))
theorem dl_1056 : decode code 1056 = .ok (.goto 303, 3) := dc_167 (a := 1) (b := 47) (dcc (r := 32) lq_16 rfl (Nat.le_of_ble_eq_true rfl) (by decide +kernel)) rfl
theorem dl_1059 : decode code 1059 = .ok (.aload_n 1, 1) := dc_43 (dcc (r := 35) lq_16 rfl (Nat.le_of_ble_eq_true rfl) (by decide +kernel))
theorem dl_1060 : decode code 1060 = .ok (.aload_n 0, 1) := dc_42 (dcc (r := 36) lq_16 rfl (Nat.le_of_ble_eq_true rfl) (by decide +kernel))
theorem dl_1061 : decode code 1061 = .ok (.iload_n 3, 1) := dc_29 (dcc (r := 37) lq_16 rfl (Nat.le_of_ble_eq_true rfl) (by decide +kernel))
theorem dl_1062 : decode code 1062 = .ok (.iconst 1, 1) := dc_4 (dcc (r := 38) lq_16 rfl (Nat.le_of_ble_eq_true rfl) (by decide +kernel))
theorem dl_1063 : decode code 1063 = .ok (.iadd, 1) := dc_96 (dcc (r := 39) lq_16 rfl (Nat.le_of_ble_eq_true rfl) (by decide +kernel))
theorem dl_1064 : decode code 1064 = .ok (.iaload, 1) := dc_46 (dcc (r := 40) lq_16 rfl (Nat.le_of_ble_eq_true rfl) (by decide +kernel))
theorem dl_1065 : decode code 1065 = .ok (.invokevirtual 129, 3) := dc_182 (a := 0) (b := 129) (dcc (r := 41) lq_16 rfl (Nat.le_of_ble_eq_true rfl) (by decide +kernel)) rfl
theorem dl_1068 : decode code 1068 = .ok (.pop, 1) := dc_87 (dcc (r := 44) lq_16 rfl (Nat.le_of_ble_eq_true rfl) (by decide +kernel))
theorem dl_1069 : decode code 1069 = .ok (.aload_n 2, 1) := dc_44 (dcc (r := 45) lq_16 rfl (Nat.le_of_ble_eq_true rfl) (by decide +kernel))
theorem dl_1070 : decode code 1070 = .ok (.aload_n 0, 1) := dc_42 (dcc (r := 46) lq_16 rfl (Nat.le_of_ble_eq_true rfl) (by decide +kernel))
theorem dl_1071 : decode code 1071 = .ok (.iload_n 3, 1) := dc_29 (dcc (r := 47) lq_16 rfl (Nat.le_of_ble_eq_true rfl) (by decide +kernel))
theorem dl_1072 : decode code 1072 = .ok (.iconst 1, 1) := dc_4 (dcc (r := 48) lq_16 rfl (Nat.le_of_ble_eq_true rfl) (by decide +kernel))
theorem dl_1073 : decode code 1073 = .ok (.iadd, 1) := dc_96 (dcc (r := 49) lq_16 rfl (Nat.le_of_ble_eq_true rfl) (by decide +kernel))
theorem dl_1074 : decode code 1074 = .ok (.iaload, 1) := dc_46 (dcc (r := 50) lq_16 rfl (Nat.le_of_ble_eq_true rfl) (by decide +kernel))
theorem dl_1075 : decode code 1075 = .ok (.invokevirtual 132, 3) := dc_182 (a := 0) (b := 132) (dcc (r := 51) lq_16 rfl (Nat.le_of_ble_eq_true rfl) (by decide +kernel)) rfl
theorem dl_1078 : decode code 1078 = .ok (.pop, 1) := dc_87 (dcc (r := 54) lq_16 rfl (Nat.le_of_ble_eq_true rfl) (by decide +kernel))
theorem dl_1079 : decode code 1079 = .ok (.goto 280, 3) := dc_167 (a := 1) (b := 24) (dcc (r := 55) lq_16 rfl (Nat.le_of_ble_eq_true rfl) (by decide +kernel)) rfl
theorem dl_1082 : decode code 1082 = .ok (.aload_n 1, 1) := dc_43 (dcc (r := 58) lq_16 rfl (Nat.le_of_ble_eq_true rfl) (by decide +kernel))
theorem dl_1083 : decode code 1083 = .ok (.aload_n 0, 1) := dc_42 (dcc (r := 59) lq_16 rfl (Nat.le_of_ble_eq_true rfl) (by decide +kernel))
theorem dl_1084 : decode code 1084 = .ok (.iload_n 3, 1) := dc_29 (dcc (r := 60) lq_16 rfl (Nat.le_of_ble_eq_true rfl) (by decide +kernel))
theorem dl_1085 : decode code 1085 = .ok (.iconst 1, 1) := dc_4 (dcc (r := 61) lq_16 rfl (Nat.le_of_ble_eq_true rfl) (by decide +kernel))
theorem dl_1086 : decode code 1086 = .ok (.iadd, 1) := dc_96 (dcc (r := 62) lq_16 rfl (Nat.le_of_ble_eq_true rfl) (by decide +kernel))
theorem dl_1087 : decode code 1087 = .ok (.iaload, 1) := dc_46 (dcc (r := 63) lq_16 rfl (Nat.le_of_ble_eq_true rfl) (by decide +kernel))
theorem dl_1088 : decode code 1088 = .ok (.invokevirtual 133, 3) := dc_182 (a := 0) (b := 133) (dcc (r := 0) lq_17 rfl (Nat.le_of_ble_eq_true rfl) (by decide +kernel)) rfl
theorem dl_1091 : decode code 1091 = .ok (.pop, 1) := dc_87 (dcc (r := 3) lq_17 rfl (Nat.le_of_ble_eq_true rfl) (by decide +kernel))
theorem dl_1092 : decode code 1092 = .ok (.aload_n 2, 1) := dc_44 (dcc (r := 4) lq_17 rfl (Nat.le_of_ble_eq_true rfl) (by decide +kernel))
theorem dl_1093 : decode code 1093 = .ok (.aload_n 0, 1) := dc_42 (dcc (r := 5) lq_17 rfl (Nat.le_of_ble_eq_true rfl) (by decide +kernel))
theorem dl_1094 : decode code 1094 = .ok (.iload_n 3, 1) := dc_29 (dcc (r := 6) lq_17 rfl (Nat.le_of_ble_eq_true rfl) (by decide +kernel))
theorem dl_1095 : decode code 1095 = .ok (.iconst 1, 1) := dc_4 (dcc (r := 7) lq_17 rfl (Nat.le_of_ble_eq_true rfl) (by decide +kernel))
theorem dl_1096 : decode code 1096 = .ok (.iadd, 1) := dc_96 (dcc (r := 8) lq_17 rfl (Nat.le_of_ble_eq_true rfl) (by decide +kernel))
theorem dl_1097 : decode code 1097 = .ok (.iaload, 1) := dc_46 (dcc (r := 9) lq_17 rfl (Nat.le_of_ble_eq_true rfl) (by decide +kernel))
theorem dl_1098 : decode code 1098 = .ok (.invokevirtual 136, 3) := dc_182 (a := 0) (b := 136) (dcc (r := 10) lq_17 rfl (Nat.le_of_ble_eq_true rfl) (by decide +kernel)) rfl
theorem dl_1101 : decode code 1101 = .ok (.pop, 1) := dc_87 (dcc (r := 13) lq_17 rfl (Nat.le_of_ble_eq_true rfl) (by decide +kernel))
theorem dl_1102 : decode code 1102 = .ok (.goto 257, 3) := dc_167 (a := 1) (b := 1) (dcc (r := 14) lq_17 rfl (Nat.le_of_ble_eq_true rfl) (by decide +kernel)) rfl
theorem dl_1105 : decode code 1105 = .ok (.aload_n 1, 1) := dc_43 (dcc (r := 17) lq_17 rfl (Nat.le_of_ble_eq_true rfl) (by decide +kernel))
theorem dl_1106 : decode code 1106 = .ok (.aload_n 0, 1) := dc_42 (dcc (r := 18) lq_17 rfl (Nat.le_of_ble_eq_true rfl) (by decide +kernel))
theorem dl_1107 : decode code 1107 = .ok (.iload_n 3, 1) := dc_29 (dcc (r := 19) lq_17 rfl (Nat.le_of_ble_eq_true rfl) (by decide +kernel))
theorem dl_1108 : decode code 1108 = .ok (.iconst 1, 1) := dc_4 (dcc (r := 20) lq_17 rfl (Nat.le_of_ble_eq_true rfl) (by decide +kernel))
theorem dl_1109 : decode code 1109 = .ok (.iadd, 1) := dc_96 (dcc (r := 21) lq_17 rfl (Nat.le_of_ble_eq_true rfl) (by decide +kernel))
theorem dl_1110 : decode code 1110 = .ok (.iaload, 1) := dc_46 (dcc (r := 22) lq_17 rfl (Nat.le_of_ble_eq_true rfl) (by decide +kernel))
theorem dl_1111 : decode code 1111 = .ok (.aload_n 0, 1) := dc_42 (dcc (r := 23) lq_17 rfl (Nat.le_of_ble_eq_true rfl) (by decide +kernel))
theorem dl_1112 : decode code 1112 = .ok (.iload_n 3, 1) := dc_29 (dcc (r := 24) lq_17 rfl (Nat.le_of_ble_eq_true rfl) (by decide +kernel))
theorem dl_1113 : decode code 1113 = .ok (.iconst 2, 1) := dc_5 (dcc (r := 25) lq_17 rfl (Nat.le_of_ble_eq_true rfl) (by decide +kernel))
theorem dl_1114 : decode code 1114 = .ok (.iadd, 1) := dc_96 (dcc (r := 26) lq_17 rfl (Nat.le_of_ble_eq_true rfl) (by decide +kernel))
theorem dl_1115 : decode code 1115 = .ok (.iaload, 1) := dc_46 (dcc (r := 27) lq_17 rfl (Nat.le_of_ble_eq_true rfl) (by decide +kernel))
theorem dl_1116 : decode code 1116 = .ok (.invokevirtual 137, 3) := dc_182 (a := 0) (b := 137) (dcc (r := 28) lq_17 rfl (Nat.le_of_ble_eq_true rfl) (by decide +kernel)) rfl
theorem dl_1119 : decode code 1119 = .ok (.pop, 1) := dc_87 (dcc (r := 31) lq_17 rfl (Nat.le_of_ble_eq_true rfl) (by decide +kernel))
theorem dl_1120 : decode code 1120 = .ok (.aload_n 2, 1) := dc_44 (dcc (r := 32) lq_17 rfl (Nat.le_of_ble_eq_true rfl) (by decide +kernel))
theorem dl_1121 : decode code 1121 = .ok (.aload_n 0, 1) := dc_42 (dcc (r := 33) lq_17 rfl (Nat.le_of_ble_eq_true rfl) (by decide +kernel))
theorem dl_1122 : decode code 1122 = .ok (.iload_n 3, 1) := dc_29 (dcc (r := 34) lq_17 rfl (Nat.le_of_ble_eq_true rfl) (by decide +kernel))
theorem dl_1123 : decode code 1123 = .ok (.iconst 1, 1) := dc_4 (dcc (r := 35) lq_17 rfl (Nat.le_of_ble_eq_true rfl) (by decide +kernel))
theorem dl_1124 : decode code 1124 = .ok (.iadd, 1) := dc_96 (dcc (r := 36) lq_17 rfl (Nat.le_of_ble_eq_true rfl) (by decide +kernel))
theorem dl_1125 : decode code 1125 = .ok (.iaload, 1) := dc_46 (dcc (r := 37) lq_17 rfl (Nat.le_of_ble_eq_true rfl) (by decide +kernel))
theorem dl_1126 : decode code 1126 = .ok (.aload_n 0, 1) := dc_42 (dcc (r := 38) lq_17 rfl (Nat.le_of_ble_eq_true rfl) (by decide +kernel))
theorem dl_1127 : decode code 1127 = .ok (.iload_n 3, 1) := dc_29 (dcc (r := 39) lq_17 rfl (Nat.le_of_ble_eq_true rfl) (by decide +kernel))
theorem dl_1128 : decode code 1128 = .ok (.iconst 2, 1) := dc_5 (dcc (r := 40) lq_17 rfl (Nat.le_of_ble_eq_true rfl) (by decide +kernel))
theorem dl_1129 : decode code 1129 = .ok (.iadd, 1) := dc_96 (dcc (r := 41) lq_17 rfl (Nat.le_of_ble_eq_true rfl) (by decide +kernel))
theorem dl_1130 : decode code 1130 = .ok (.iaload, 1) := dc_46 (dcc (r := 42) lq_17 rfl (Nat.le_of_ble_eq_true rfl) (by decide +kernel))
theorem dl_1131 : decode code 1131 = .ok (.invokevirtual 140, 3) := dc_182 (a := 0) (b := 140) (dcc (r := 43) lq_17 rfl (Nat.le_of_ble_eq_true rfl) (by decide +kernel)) rfl
theorem dl_1134 : decode code 1134 = .ok (.pop, 1) := dc_87 (dcc (r := 46) lq_17 rfl (Nat.le_of_ble_eq_true rfl) (by decide +kernel))
theorem dl_1135 : decode code 1135 = .ok (.goto 224, 3) := dc_167 (a := 0) (b := 224) (dcc (r := 47) lq_17 rfl (Nat.le_of_ble_eq_true rfl) (by decide +kernel)) rfl
theorem dl_1138 : decode code 1138 = .ok (.aload_n 1, 1) := dc_43 (dcc (r := 50) lq_17 rfl (Nat.le_of_ble_eq_true rfl) (by decide +kernel))
theorem dl_1139 : decode code 1139 = .ok (.aload_n 0, 1) := dc_42 (dcc (r := 51) lq_17 rfl (Nat.le_of_ble_eq_true rfl) (by decide +kernel))
theorem dl_1140 : decode code 1140 = .ok (.iload_n 3, 1) := dc_29 (dcc (r := 52) lq_17 rfl (Nat.le_of_ble_eq_true rfl) (by decide +kernel))
theorem dl_1141 : decode code 1141 = .ok (.iconst 1, 1) := dc_4 (dcc (r := 53) lq_17 rfl (Nat.le_of_ble_eq_true rfl) (by decide +kernel))
theorem dl_1142 : decode code 1142 = .ok (.iadd, 1) := dc_96 (dcc (r := 54) lq_17 rfl (Nat.le_of_ble_eq_true rfl) (by decide +kernel))
theorem dl_1143 : decode code 1143 = .ok (.iaload, 1) := dc_46 (dcc (r := 55) lq_17 rfl (Nat.le_of_ble_eq_true rfl) (by decide +kernel))
theorem dl_1144 : decode code 1144 = .ok (.invokevirtual 141, 3) := dc_182 (a := 0) (b := 141) (dcc (r := 56) lq_17 rfl (Nat.le_of_ble_eq_true rfl) (by decide +kernel)) rfl
theorem dl_1147 : decode code 1147 = .ok (.pop, 1) := dc_87 (dcc (r := 59) lq_17 rfl (Nat.le_of_ble_eq_true rfl) (by decide +kernel))
theorem dl_1148 : decode code 1148 = .ok (.aload_n 2, 1) := dc_44 (dcc (r := 60) lq_17 rfl (Nat.le_of_ble_eq_true rfl) (by decide +kernel))
theorem dl_1149 : decode code 1149 = .ok (.aload_n 0, 1) := dc_42 (dcc (r := 61) lq_17 rfl (Nat.le_of_ble_eq_true rfl) (by decide +kernel))
theorem dl_1150 : decode code 1150 = .ok (.iload_n 3, 1) := dc_29 (dcc (r := 62) lq_17 rfl (Nat.le_of_ble_eq_true rfl) (by decide +kernel))
theorem dl_1151 : decode code 1151 = .ok (.iconst 1, 1) := dc_4 (dcc (r := 63) lq_17 rfl (Nat.le_of_ble_eq_true rfl) (by decide +kernel))
theorem dl_1152 : decode code 1152 = .ok (.iadd, 1) := dc_96 (dcc (r := 0) lq_18 rfl (Nat.le_of_ble_eq_true rfl) (by decide +kernel))
theorem dl_1153 : decode code 1153 = .ok (.iaload, 1) := dc_46 (dcc (r := 1) lq_18 rfl (Nat.le_of_ble_eq_true rfl) (by decide +kernel))
theorem dl_1154 : decode code 1154 = .ok (.invokevirtual 144, 3) := dc_182 (a := 0) (b := 144) (dcc (r := 2) lq_18 rfl (Nat.le_of_ble_eq_true rfl) (by decide +kernel)) rfl
theorem dl_1157 : decode code 1157 = .ok (.pop, 1) := dc_87 (dcc (r := 5) lq_18 rfl (Nat.le_of_ble_eq_true rfl) (by decide +kernel))
theorem dl_1158 : decode code 1158 = .ok (.goto 201, 3) := dc_167 (a := 0) (b := 201) (dcc (r := 6) lq_18 rfl (Nat.le_of_ble_eq_true rfl) (by decide +kernel)) rfl
theorem dl_1161 : decode code 1161 = .ok (.aload_n 1, 1) := dc_43 (dcc (r := 9) lq_18 rfl (Nat.le_of_ble_eq_true rfl) (by decide +kernel))
theorem dl_1162 : decode code 1162 = .ok (.aload_n 0, 1) := dc_42 (dcc (r := 10) lq_18 rfl (Nat.le_of_ble_eq_true rfl) (by decide +kernel))
theorem dl_1163 : decode code 1163 = .ok (.iload_n 3, 1) := dc_29 (dcc (r := 11) lq_18 rfl (Nat.le_of_ble_eq_true rfl) (by decide +kernel))
theorem dl_1164 : decode code 1164 = .ok (.iconst 1, 1) := dc_4 (dcc (r := 12) lq_18 rfl (Nat.le_of_ble_eq_true rfl) (by decide +kernel))
theorem dl_1165 : decode code 1165 = .ok (.iadd, 1) := dc_96 (dcc (r := 13) lq_18 rfl (Nat.le_of_ble_eq_true rfl) (by decide +kernel))
theorem dl_1166 : decode code 1166 = .ok (.iaload, 1) := dc_46 (dcc (r := 14) lq_18 rfl (Nat.le_of_ble_eq_true rfl) (by decide +kernel))
theorem dl_1167 : decode code 1167 = .ok (.invokevirtual 145, 3) := dc_182 (a := 0) (b := 145) (dcc (r := 15) lq_18 rfl (Nat.le_of_ble_eq_true rfl) (by decide +kernel)) rfl
theorem dl_1170 : decode code 1170 = .ok (.pop, 1) := dc_87 (dcc (r := 18) lq_18 rfl (Nat.le_of_ble_eq_true rfl) (by decide +kernel))
theorem dl_1171 : decode code 1171 = .ok (.aload_n 2, 1) := dc_44 (dcc (r := 19) lq_18 rfl (Nat.le_of_ble_eq_true rfl) (by decide +kernel))
theorem dl_1172 : decode code 1172 = .ok (.aload_n 0, 1) := dc_42 (dcc (r := 20) lq_18 rfl (Nat.le_of_ble_eq_true rfl) (by decide +kernel))
theorem dl_1173 : decode code 1173 = .ok (.iload_n 3, 1) := dc_29 (dcc (r := 21) lq_18 rfl (Nat.le_of_ble_eq_true rfl) (by decide +kernel))
theorem dl_1174 : decode code 1174 = .ok (.iconst 1, 1) := dc_4 (dcc (r := 22) lq_18 rfl (Nat.le_of_ble_eq_true rfl) (by decide +kernel))
theorem dl_1175 : decode code 1175 = .ok (.iadd, 1) := dc_96 (dcc (r := 23) lq_18 rfl (Nat.le_of_ble_eq_true rfl) (by decide +kernel))
theorem dl_1176 : decode code 1176 = .ok (.iaload, 1) := dc_46 (dcc (r := 24) lq_18 rfl (Nat.le_of_ble_eq_true rfl) (by decide +kernel))
theorem dl_1177 : decode code 1177 = .ok (.invokevirtual 148, 3) := dc_182 (a := 0) (b := 148) (dcc (r := 25) lq_18 rfl (Nat.le_of_ble_eq_true rfl) (by decide +kernel)) rfl
theorem dl_1180 : decode code 1180 = .ok (.pop, 1) := dc_87 (dcc (r := 28) lq_18 rfl (Nat.le_of_ble_eq_true rfl) (by decide +kernel))
theorem dl_1181 : decode code 1181 = .ok (.goto 178, 3) := dc_167 (a := 0) (b := 178) (dcc (r := 29) lq_18 rfl (Nat.le_of_ble_eq_true rfl) (by decide +kernel)) rfl
theorem dl_1184 : decode code 1184 = .ok (.aload_n 1, 1) := dc_43 (dcc (r := 32) lq_18 rfl (Nat.le_of_ble_eq_true rfl) (by decide +kernel))
theorem dl_1185 : decode code 1185 = .ok (.aload_n 0, 1) := dc_42 (dcc (r := 33) lq_18 rfl (Nat.le_of_ble_eq_true rfl) (by decide +kernel))
theorem dl_1186 : decode code 1186 = .ok (.iload_n 3, 1) := dc_29 (dcc (r := 34) lq_18 rfl (Nat.le_of_ble_eq_true rfl) (by decide +kernel))
theorem dl_1187 : decode code 1187 = .ok (.iconst 1, 1) := dc_4 (dcc (r := 35) lq_18 rfl (Nat.le_of_ble_eq_true rfl) (by decide +kernel))
theorem dl_1188 : decode code 1188 = .ok (.iadd, 1) := dc_96 (dcc (r := 36) lq_18 rfl (Nat.le_of_ble_eq_true rfl) (by decide +kernel))
theorem dl_1189 : decode code 1189 = .ok (.iaload, 1) := dc_46 (dcc (r := 37) lq_18 rfl (Nat.le_of_ble_eq_true rfl) (by decide +kernel))
theorem dl_1190 : decode code 1190 = .ok (.aload_n 0, 1) := dc_42 (dcc (r := 38) lq_18 rfl (Nat.le_of_ble_eq_true rfl) (by decide +kernel))
theorem dl_1191 : decode code 1191 = .ok (.iload_n 3, 1) := dc_29 (dcc (r := 39) lq_18 rfl (Nat.le_of_ble_eq_true rfl) (by decide +kernel))
theorem dl_1192 : decode code 1192 = .ok (.iconst 2, 1) := dc_5 (dcc (r := 40) lq_18 rfl (Nat.le_of_ble_eq_true rfl) (by decide +kernel))
theorem dl_1193 : decode code 1193 = .ok (.iadd, 1) := dc_96 (dcc (r := 41) lq_18 rfl (Nat.le_of_ble_eq_true rfl) (by decide +kernel))
theorem dl_1194 : decode code 1194 = .ok (.iaload, 1) := dc_46 (dcc (r := 42) lq_18 rfl (Nat.le_of_ble_eq_true rfl) (by decide +kernel))
theorem dl_1195 : decode code 1195 = .ok (.aload_n 0, 1) := dc_42 (dcc (r := 43) lq_18 rfl (Nat.le_of_ble_eq_true rfl) (by decide +kernel))
theorem dl_1196 : decode code 1196 = .ok (.iload_n 3, 1) := dc_29 (dcc (r := 44) lq_18 rfl (Nat.le_of_ble_eq_true rfl) (by decide +kernel))
theorem dl_1197 : decode code 1197 = .ok (.iconst 3, 1) := dc_6 (dcc (r := 45) lq_18 rfl (Nat.le_of_ble_eq_true rfl) (by decide +kernel))
theorem dl_1198 : decode code 1198 = .ok (.iadd, 1) := dc_96 (dcc (r := 46) lq_18 rfl (Nat.le_of_ble_eq_true rfl) (by decide +kernel))
theorem dl_1199 : decode code 1199 = .ok (.iaload, 1) := dc_46 (dcc (r := 47) lq_18 rfl (Nat.le_of_ble_eq_true rfl) (by decide +kernel))
theorem dl_1200 : decode code 1200 = .ok (.invokevirtual 149, 3) := dc_182 (a := 0) (b := 149) (dcc (r := 48) lq_18 rfl (Nat.le_of_ble_eq_true rfl) (by decide +kernel)) rfl
theorem dl_1203 : decode code 1203 = .ok (.pop, 1) := dc_87 (dcc (r := 51) lq_18 rfl (Nat.le_of_ble_eq_true rfl) (by decide +kernel))
theorem dl_1204 : decode code 1204 = .ok (.aload_n 2, 1) := dc_44 (dcc (r := 52) lq_18 rfl (Nat.le_of_ble_eq_true rfl) (by decide +kernel))
theorem dl_1205 : decode code 1205 = .ok (.aload_n 0, 1) := dc_42 (dcc (r := 53) lq_18 rfl (Nat.le_of_ble_eq_true rfl) (by decide +kernel))
theorem dl_1206 : decode code 1206 = .ok (.iload_n 3, 1) := dc_29 (dcc (r := 54) lq_18 rfl (Nat.le_of_ble_eq_true rfl) (by decide +kernel))
theorem dl_1207 : decode code 1207 = .ok (.iconst 1, 1) := dc_4 (dcc (r := 55) lq_18 rfl (Nat.le_of_ble_eq_true rfl) (by decide +kernel))
theorem dl_1208 : decode code 1208 = .ok (.iadd, 1) := dc_96 (dcc (r := 56) lq_18 rfl (Nat.le_of_ble_eq_true rfl) (by decide +kernel))
theorem dl_1209 : decode code 1209 = .ok (.iaload, 1) := dc_46 (dcc (r := 57) lq_18 rfl (Nat.le_of_ble_eq_true rfl) (by decide +kernel))
theorem dl_1210 : decode code 1210 = .ok (.aload_n 0, 1) := dc_42 (dcc (r := 58) lq_18 rfl (Nat.le_of_ble_eq_true rfl) (by decide +kernel))
theorem dl_1211 : decode code 1211 = .ok (.iload_n 3, 1) := dc_29 (dcc (r := 59) lq_18 rfl (Nat.le_of_ble_eq_true rfl) (by decide +kernel))
theorem dl_1212 : decode code 1212 = .ok (.iconst 2, 1) := dc_5 (dcc (r := 60) lq_18 rfl (Nat.le_of_ble_eq_true rfl) (by decide +kernel))
theorem dl_1213 : decode code 1213 = .ok (.iadd, 1) := dc_96 (dcc (r := 61) lq_18 rfl (Nat.le_of_ble_eq_true rfl) (by decide +kernel))
theorem dl_1214 : decode code 1214 = .ok (.iaload, 1) := dc_46 (dcc (r := 62) lq_18 rfl (Nat.le_of_ble_eq_true rfl) (by decide +kernel))
theorem dl_1215 : decode code 1215 = .ok (.aload_n 0, 1) := dc_42 (dcc (r := 63) lq_18 rfl (Nat.le_of_ble_eq_true rfl) (by decide +kernel))
theorem dl_1216 : decode code 1216 = .ok (.iload_n 3, 1) := dc_29 (dcc (r := 0) lq_19 rfl (Nat.le_of_ble_eq_true rfl) (by decide +kernel))
theorem dl_1217 : decode code 1217 = .ok (.iconst 3, 1) := dc_6 (dcc (r := 1) lq_19 rfl (Nat.le_of_ble_eq_true rfl) (by decide +kernel))
theorem dl_1218 : decode code 1218 = .ok (.iadd, 1) := dc_96 (dcc (r := 2) lq_19 rfl (Nat.le_of_ble_eq_true rfl) (by decide +kernel))
theorem dl_1219 : decode code 1219 = .ok (.iaload, 1) := dc_46 (dcc (r := 3) lq_19 rfl (Nat.le_of_ble_eq_true rfl) (by decide +kernel))
theorem dl_1220 : decode code 1220 = .ok (.invokevirtual 152, 3) := dc_182 (a := 0) (b := 152) (dcc (r := 4) lq_19 rfl (Nat.le_of_ble_eq_true rfl) (by decide +kernel)) rfl
theorem dl_1223 : decode code 1223 = .ok (.pop, 1) := dc_87 (dcc (r := 7) lq_19 rfl (Nat.le_of_ble_eq_true rfl) (by decide +kernel))
theorem dl_1224 : decode code 1224 = .ok (.goto 135, 3) := dc_167 (a := 0) (b := 135) (dcc (r := 8) lq_19 rfl (Nat.le_of_ble_eq_true rfl) (by decide +kernel)) rfl
theorem dl_1227 : decode code 1227 = .ok (.aload_n 1, 1) := dc_43 (dcc (r := 11) lq_19 rfl (Nat.le_of_ble_eq_true rfl) (by decide +kernel))
theorem dl_1228 : decode code 1228 = .ok (.aload_n 0, 1) := dc_42 (dcc (r := 12) lq_19 rfl (Nat.le_of_ble_eq_true rfl) (by decide +kernel))
theorem dl_1229 : decode code 1229 = .ok (.iload_n 3, 1) := dc_29 (dcc (r := 13) lq_19 rfl (Nat.le_of_ble_eq_true rfl) (by decide +kernel))
theorem dl_1230 : decode code 1230 = .ok (.iconst 1, 1) := dc_4 (dcc (r := 14) lq_19 rfl (Nat.le_of_ble_eq_true rfl) (by decide +kernel))
theorem dl_1231 : decode code 1231 = .ok (.iadd, 1) := dc_96 (dcc (r := 15) lq_19 rfl (Nat.le_of_ble_eq_true rfl) (by decide +kernel))
theorem dl_1232 : decode code 1232 = .ok (.iaload, 1) := dc_46 (dcc (r := 16) lq_19 rfl (Nat.le_of_ble_eq_true rfl) (by decide +kernel))
theorem dl_1233 : decode code 1233 = .ok (.aload_n 0, 1) := dc_42 (dcc (r := 17) lq_19 rfl (Nat.le_of_ble_eq_true rfl) (by decide +kernel))
theorem dl_1234 : decode code 1234 = .ok (.iload_n 3, 1) := dc_29 (dcc (r := 18) lq_19 rfl (Nat.le_of_ble_eq_true rfl) (by decide +kernel))
theorem dl_1235 : decode code 1235 = .ok (.iconst 2, 1) := dc_5 (dcc (r := 19) lq_19 rfl (Nat.le_of_ble_eq_true rfl) (by decide +kernel))
theorem dl_1236 : decode code 1236 = .ok (.iadd, 1) := dc_96 (dcc (r := 20) lq_19 rfl (Nat.le_of_ble_eq_true rfl) (by decide +kernel))
theorem dl_1237 : decode code 1237 = .ok (.iaload, 1) := dc_46 (dcc (r := 21) lq_19 rfl (Nat.le_of_ble_eq_true rfl) (by decide +kernel))
theorem dl_1238 : decode code 1238 = .ok (.aload_n 0, 1) := dc_42 (dcc (r := 22) lq_19 rfl (Nat.le_of_ble_eq_true rfl) (by decide +kernel))
theorem dl_1239 : decode code 1239 = .ok (.iload_n 3, 1) := dc_29 (dcc (r := 23) lq_19 rfl (Nat.le_of_ble_eq_true rfl) (by decide +kernel))
theorem dl_1240 : decode code 1240 = .ok (.iconst 3, 1) := dc_6 (dcc (r := 24) lq_19 rfl (Nat.le_of_ble_eq_true rfl) (by decide +kernel))
theorem dl_1241 : decode code 1241 = .ok (.iadd, 1) := dc_96 (dcc (r := 25) lq_19 rfl (Nat.le_of_ble_eq_true rfl) (by decide +kernel))
theorem dl_1242 : decode code 1242 = .ok (.iaload, 1) := dc_46 (dcc (r := 26) lq_19 rfl (Nat.le_of_ble_eq_true rfl) (by decide +kernel))
theorem dl_1243 : decode code 1243 = .ok (.invokevirtual 153, 3) := dc_182 (a := 0) (b := 153) (dcc (r := 27) lq_19 rfl (Nat.le_of_ble_eq_true rfl) (by decide +kernel)) rfl
theorem dl_1246 : decode code 1246 = .ok (.pop, 1) := dc_87 (dcc (r := 30) lq_19 rfl (Nat.le_of_ble_eq_true rfl) (by decide +kernel))
theorem dl_1247 : decode code 1247 = .ok (.aload_n 2, 1) := dc_44 (dcc (r := 31) lq_19 rfl (Nat.le_of_ble_eq_true rfl) (by decide +kernel))
theorem dl_1248 : decode code 1248 = .ok (.aload_n 0, 1) := dc_42 (dcc (r := 32) lq_19 rfl (Nat.le_of_ble_eq_true rfl) (by decide +kernel))
theorem dl_1249 : decode code 1249 = .ok (.iload_n 3, 1) := dc_29 (dcc (r := 33) lq_19 rfl (Nat.le_of_ble_eq_true rfl) (by decide +kernel))
theorem dl_1250 : decode code 1250 = .ok (.iconst 1, 1) := dc_4 (dcc (r := 34) lq_19 rfl (Nat.le_of_ble_eq_true rfl) (by decide +kernel))
theorem dl_1251 : decode code 1251 = .ok (.iadd, 1) := dc_96 (dcc (r := 35) lq_19 rfl (Nat.le_of_ble_eq_true rfl) (by decide +kernel))
theorem dl_1252 : decode code 1252 = .ok (.iaload, 1) := dc_46 (dcc (r := 36) lq_19 rfl (Nat.le_of_ble_eq_true rfl) (by decide +kernel))
theorem dl_1253 : decode code 1253 = .ok (.aload_n 0, 1) := dc_42 (dcc (r := 37) lq_19 rfl (Nat.le_of_ble_eq_true rfl) (by decide +kernel))
theorem dl_1254 : decode code 1254 = .ok (.iload_n 3, 1) := dc_29 (dcc (r := 38) lq_19 rfl (Nat.le_of_ble_eq_true rfl) (by decide +kernel))
theorem dl_1255 : decode code 1255 = .ok (.iconst 2, 1) := dc_5 (dcc (r := 39) lq_19 rfl (Nat.le_of_ble_eq_true rfl) (by decide +kernel))
theorem dl_1256 : decode code 1256 = .ok (.iadd, 1) := dc_96 (dcc (r := 40) lq_19 rfl (Nat.le_of_ble_eq_true rfl) (by decide +kernel))
theorem dl_1257 : decode code 1257 = .ok (.iaload, 1) := dc_46 (dcc (r := 41) lq_19 rfl (Nat.le_of_ble_eq_true rfl) (by decide +kernel))
theorem dl_1258 : decode code 1258 = .ok (.aload_n 0, 1) := dc_42 (dcc (r := 42) lq_19 rfl (Nat.le_of_ble_eq_true rfl) (by decide +kernel))
theorem dl_1259 : decode code 1259 = .ok (.iload_n 3, 1) := dc_29 (dcc (r := 43) lq_19 rfl (Nat.le_of_ble_eq_true rfl) (by decide +kernel))
theorem dl_1260 : decode code 1260 = .ok (.iconst 3, 1) := dc_6 (dcc (r := 44) lq_19 rfl (Nat.le_of_ble_eq_true rfl) (by decide +kernel))
theorem dl_1261 : decode code 1261 = .ok (.iadd, 1) := dc_96 (dcc (r := 45) lq_19 rfl (Nat.le_of_ble_eq_true rfl) (by decide +kernel))
theorem dl_1262 : decode code 1262 = .ok (.iaload, 1) := dc_46 (dcc (r := 46) lq_19 rfl (Nat.le_of_ble_eq_true rfl) (by decide +kernel))
theorem dl_1263 : decode code 1263 = .ok (.invokevirtual 156, 3) := dc_182 (a := 0) (b := 156) (dcc (r := 47) lq_19 rfl (Nat.le_of_ble_eq_true rfl) (by decide +kernel)) rfl
theorem dl_1266 : decode code 1266 = .ok (.pop, 1) := dc_87 (dcc (r := 50) lq_19 rfl (Nat.le_of_ble_eq_true rfl) (by decide +kernel))
theorem dl_1267 : decode code 1267 = .ok (.goto 92, 3) := dc_167 (a := 0) (b := 92) (dcc (r := 51) lq_19 rfl (Nat.le_of_ble_eq_true rfl) (by decide +kernel)) rfl
theorem dl_1270 : decode code 1270 = .ok (.aload_n 1, 1) := dc_43 (dcc (r := 54) lq_19 rfl (Nat.le_of_ble_eq_true rfl) (by decide +kernel))
theorem dl_1271 : decode code 1271 = .ok (.aload_n 0, 1) := dc_42 (dcc (r := 55) lq_19 rfl (Nat.le_of_ble_eq_true rfl) (by decide +kernel))
theorem dl_1272 : decode code 1272 = .ok (.iload_n 3, 1) := dc_29 (dcc (r := 56) lq_19 rfl (Nat.le_of_ble_eq_true rfl) (by decide +kernel))
theorem dl_1273 : decode code 1273 = .ok (.iconst 1, 1) := dc_4 (dcc (r := 57) lq_19 rfl (Nat.le_of_ble_eq_true rfl) (by decide +kernel))
theorem dl_1274 : decode code 1274 = .ok (.iadd, 1) := dc_96 (dcc (r := 58) lq_19 rfl (Nat.le_of_ble_eq_true rfl) (by decide +kernel))
theorem dl_1275 : decode code 1275 = .ok (.iaload, 1) := dc_46 (dcc (r := 59) lq_19 rfl (Nat.le_of_ble_eq_true rfl) (by decide +kernel))
theorem dl_1276 : decode code 1276 = .ok (.aload_n 0, 1) := dc_42 (dcc (r := 60) lq_19 rfl (Nat.le_of_ble_eq_true rfl) (by decide +kernel))
theorem dl_1277 : decode code 1277 = .ok (.iload_n 3, 1) := dc_29 (dcc (r := 61) lq_19 rfl (Nat.le_of_ble_eq_true rfl) (by decide +kernel))
theorem dl_1278 : decode code 1278 = .ok (.iconst 2, 1) := dc_5 (dcc (r := 62) lq_19 rfl (Nat.le_of_ble_eq_true rfl) (by decide +kernel))
theorem dl_1279 : decode code 1279 = .ok (.iadd, 1) := dc_96 (dcc (r := 63) lq_19 rfl (Nat.le_of_ble_eq_true rfl) (by decide +kernel))
theorem dl_1280 : decode code 1280 = .ok (.iaload, 1) := dc_46 (dcc (r := 0) lq_20 rfl (Nat.le_of_ble_eq_true rfl) (by decide +kernel))
theorem dl_1281 : decode code 1281 = .ok (.aload_n 0, 1) := dc_42 (dcc (r := 1) lq_20 rfl (Nat.le_of_ble_eq_true rfl) (by decide +kernel))
theorem dl_1282 : decode code 1282 = .ok (.iload_n 3, 1) := dc_29 (dcc (r := 2) lq_20 rfl (Nat.le_of_ble_eq_true rfl) (by decide +kernel))
theorem dl_1283 : decode code 1283 = .ok (.iconst 3, 1) := dc_6 (dcc (r := 3) lq_20 rfl (Nat.le_of_ble_eq_true rfl) (by decide +kernel))
theorem dl_1284 : decode code 1284 = .ok (.iadd, 1) := dc_96 (dcc (r := 4) lq_20 rfl (Nat.le_of_ble_eq_true rfl) (by decide +kernel))
theorem dl_1285 : decode code 1285 = .ok (.iaload, 1) := dc_46 (dcc (r := 5) lq_20 rfl (Nat.le_of_ble_eq_true rfl) (by decide +kernel))
theorem dl_1286 : decode code 1286 = .ok (.aload_n 0, 1) := dc_42 (dcc (r := 6) lq_20 rfl (Nat.le_of_ble_eq_true rfl) (by decide +kernel))
theorem dl_1287 : decode code 1287 = .ok (.iload_n 3, 1) := dc_29 (dcc (r := 7) lq_20 rfl (Nat.le_of_ble_eq_true rfl) (by decide +kernel))
theorem dl_1288 : decode code 1288 = .ok (.iconst 4, 1) := dc_7 (dcc (r := 8) lq_20 rfl (Nat.le_of_ble_eq_true rfl) (by decide +kernel))
theorem dl_1289 : decode code 1289 = .ok (.iadd, 1) := dc_96 (dcc (r := 9) lq_20 rfl (Nat.le_of_ble_eq_true rfl) (by decide +kernel))
theorem dl_1290 : decode code 1290 = .ok (.iaload, 1) := dc_46 (dcc (r := 10) lq_20 rfl (Nat.le_of_ble_eq_true rfl) (by decide +kernel))
theorem dl_1291 : decode code 1291 = .ok (.invokevirtual 157, 3) := dc_182 (a := 0) (b := 157) (dcc (r := 11) lq_20 rfl (Nat.le_of_ble_eq_true rfl) (by decide +kernel)) rfl
theorem dl_1294 : decode code 1294 = .ok (.pop, 1) := dc_87 (dcc (r := 14) lq_20 rfl (Nat.le_of_ble_eq_true rfl) (by decide +kernel))
theorem dl_1295 : decode code 1295 = .ok (.aload_n 2, 1) := dc_44 (dcc (r := 15) lq_20 rfl (Nat.le_of_ble_eq_true rfl) (by decide +kernel))
theorem dl_1296 : decode code 1296 = .ok (.aload_n 0, 1) := dc_42 (dcc (r := 16) lq_20 rfl (Nat.le_of_ble_eq_true rfl) (by decide +kernel))
theorem dl_1297 : decode code 1297 = .ok (.iload_n 3, 1) := dc_29 (dcc (r := 17) lq_20 rfl (Nat.le_of_ble_eq_true rfl) (by decide +kernel))
theorem dl_1298 : decode code 1298 = .ok (.iconst 1, 1) := dc_4 (dcc (r := 18) lq_20 rfl (Nat.le_of_ble_eq_true rfl) (by decide +kernel))
theorem dl_1299 : decode code 1299 = .ok (.iadd, 1) := dc_96 (dcc (r := 19) lq_20 rfl (Nat.le_of_ble_eq_true rfl) (by decide +kernel))
theorem dl_1300 : decode code 1300 = .ok (.iaload, 1) := dc_46 (dcc (r := 20) lq_20 rfl (Nat.le_of_ble_eq_true rfl) (by decide +kernel))
theorem dl_1301 : decode code 1301 = .ok (.aload_n 0, 1) := dc_42 (dcc (r := 21) lq_20 rfl (Nat.le_of_ble_eq_true rfl) (by decide +kernel))
theorem dl_1302 : decode code 1302 = .ok (.iload_n 3, 1) := dc_29 (dcc (r := 22) lq_20 rfl (Nat.le_of_ble_eq_true rfl) (by decide +kernel))
theorem dl_1303 : decode code 1303 = .ok (.iconst 2, 1) := dc_5 (dcc (r := 23) lq_20 rfl (Nat.le_of_ble_eq_true rfl) (by decide +kernel))
theorem dl_1304 : decode code 1304 = .ok (.iadd, 1) := dc_96 (dcc (r := 24) lq_20 rfl (Nat.le_of_ble_eq_true rfl) (by decide +kernel))
theorem dl_1305 : decode code 1305 = .ok (.iaload, 1) := dc_46 (dcc (r := 25) lq_20 rfl (Nat.le_of_ble_eq_true rfl) (by decide +kernel))
theorem dl_1306 : decode code 1306 = .ok (.aload_n 0, 1) := dc_42 (dcc (r := 26) lq_20 rfl (Nat.le_of_ble_eq_true rfl) (by decide +kernel))
theorem dl_1307 : decode code 1307 = .ok (.iload_n 3, 1) := dc_29 (dcc (r := 27) lq_20 rfl (Nat.le_of_ble_eq_true rfl) (by decide +kernel))
theorem dl_1308 : decode code 1308 = .ok (.iconst 3, 1) := dc_6 (dcc (r := 28) lq_20 rfl (Nat.le_of_ble_eq_true rfl) (by decide +kernel))
theorem dl_1309 : decode code 1309 = .ok (.iadd, 1) := dc_96 (dcc (r := 29) lq_20 rfl (Nat.le_of_ble_eq_true rfl) (by decide +kernel))
theorem dl_1310 : decode code 1310 = .ok (.iaload, 1) := dc_46 (dcc (r := 30) lq_20 rfl (Nat.le_of_ble_eq_true rfl) (by decide +kernel))
theorem dl_1311 : decode code 1311 = .ok (.aload_n 0, 1) := dc_42 (dcc (r := 31) lq_20 rfl (Nat.le_of_ble_eq_true rfl) (by decide +kernel))
theorem dl_1312 : decode code 1312 = .ok (.iload_n 3, 1) := dc_29 (dcc (r := 32) lq_20 rfl (Nat.le_of_ble_eq_true rfl) (by decide +kernel))
theorem dl_1313 : decode code 1313 = .ok (.iconst 4, 1) := dc_7 (dcc (r := 33) lq_20 rfl (Nat.le_of_ble_eq_true rfl) (by decide +kernel))
theorem dl_1314 : decode code 1314 = .ok (.iadd, 1) := dc_96 (dcc (r := 34) lq_20 rfl (Nat.le_of_ble_eq_true rfl) (by decide +kernel))
theorem dl_1315 : decode code 1315 = .ok (.iaload, 1) := dc_46 (dcc (r := 35) lq_20 rfl (Nat.le_of_ble_eq_true rfl) (by decide +kernel))
theorem dl_1316 : decode code 1316 = .ok (.invokevirtual 160, 3) := dc_182 (a := 0) (b := 160) (dcc (r := 36) lq_20 rfl (Nat.le_of_ble_eq_true rfl) (by decide +kernel)) rfl
theorem dl_1319 : decode code 1319 = .ok (.pop, 1) := dc_87 (dcc (r := 39) lq_20 rfl (Nat.le_of_ble_eq_true rfl) (by decide +kernel))
theorem dl_1320 : decode code 1320 = .ok (.goto 39, 3) := dc_167 (a := 0) (b := 39) (dcc (r := 40) lq_20 rfl (Nat.le_of_ble_eq_true rfl) (by decide +kernel)) rfl
theorem dl_1323 : decode code 1323 = .ok (.aload_n 1, 1) := dc_43 (dcc (r := 43) lq_20 rfl (Nat.le_of_ble_eq_true rfl) (by decide +kernel))
theorem dl_1324 : decode code 1324 = .ok (.invokevirtual 161, 3) := dc_182 (a := 0) (b := 161) (dcc (r := 44) lq_20 rfl (Nat.le_of_ble_eq_true rfl) (by decide +kernel)) rfl
theorem dl_1327 : decode code 1327 = .ok (.pop, 1) := dc_87 (dcc (r := 47) lq_20 rfl (Nat.le_of_ble_eq_true rfl) (by decide +kernel))
theorem dl_1328 : decode code 1328 = .ok (.aload_n 2, 1) := dc_44 (dcc (r := 48) lq_20 rfl (Nat.le_of_ble_eq_true rfl) (by decide +kernel))
theorem dl_1329 : decode code 1329 = .ok (.invokevirtual 164, 3) := dc_182 (a := 0) (b := 164) (dcc (r := 49) lq_20 rfl (Nat.le_of_ble_eq_true rfl) (by decide +kernel)) rfl
theorem dl_1332 : decode code 1332 = .ok (.pop, 1) := dc_87 (dcc (r := 52) lq_20 rfl (Nat.le_of_ble_eq_true rfl) (by decide +kernel))
theorem dl_1333 : decode code 1333 = .ok (.goto 26, 3) := dc_167 (a := 0) (b := 26) (dcc (r := 53) lq_20 rfl (Nat.le_of_ble_eq_true rfl) (by decide +kernel)) rfl
theorem dl_1336 : decode code 1336 = .ok (.aload_n 1, 1) := dc_43 (dcc (r := 56) lq_20 rfl (Nat.le_of_ble_eq_true rfl) (by decide +kernel))
theorem dl_1337 : decode code 1337 = .ok (.aload_n 0, 1) := dc_42 (dcc (r := 57) lq_20 rfl (Nat.le_of_ble_eq_true rfl) (by decide +kernel))
theorem dl_1338 : decode code 1338 = .ok (.iload_n 3, 1) := dc_29 (dcc (r := 58) lq_20 rfl (Nat.le_of_ble_eq_true rfl) (by decide +kernel))
theorem dl_1339 : decode code 1339 = .ok (.iconst 1, 1) := dc_4 (dcc (r := 59) lq_20 rfl (Nat.le_of_ble_eq_true rfl) (by decide +kernel))
theorem dl_1340 : decode code 1340 = .ok (.iadd, 1) := dc_96 (dcc (r := 60) lq_20 rfl (Nat.le_of_ble_eq_true rfl) (by decide +kernel))
theorem dl_1341 : decode code 1341 = .ok (.iaload, 1) := dc_46 (dcc (r := 61) lq_20 rfl (Nat.le_of_ble_eq_true rfl) (by decide +kernel))
theorem dl_1342 : decode code 1342 = .ok (.invokevirtual 165, 3) := dc_182 (a := 0) (b := 165) (dcc (r := 62) lq_20 rfl (Nat.le_of_ble_eq_true rfl) (by decide +kernel)) rfl
theorem dl_1345 : decode code 1345 = .ok (.aload_n 2, 1) := dc_44 (dcc (r := 1) lq_21 rfl (Nat.le_of_ble_eq_true rfl) (by decide +kernel))
theorem dl_1346 : decode code 1346 = .ok (.aload_n 0, 1) := dc_42 (dcc (r := 2) lq_21 rfl (Nat.le_of_ble_eq_true rfl) (by decide +kernel))
theorem dl_1347 : decode code 1347 = .ok (.iload_n 3, 1) := dc_29 (dcc (r := 3) lq_21 rfl (Nat.le_of_ble_eq_true rfl) (by decide +kernel))
theorem dl_1348 : decode code 1348 = .ok (.iconst 1, 1) := dc_4 (dcc (r := 4) lq_21 rfl (Nat.le_of_ble_eq_true rfl) (by decide +kernel))
theorem dl_1349 : decode code 1349 = .ok (.iadd, 1) := dc_96 (dcc (r := 5) lq_21 rfl (Nat.le_of_ble_eq_true rfl) (by decide +kernel))
theorem dl_1350 : decode code 1350 = .ok (.iaload, 1) := dc_46 (dcc (r := 6) lq_21 rfl (Nat.le_of_ble_eq_true rfl) (by decide +kernel))
theorem dl_1351 : decode code 1351 = .ok (.invokevirtual 168, 3) := dc_182 (a := 0) (b := 168) (dcc (r := 7) lq_21 rfl (Nat.le_of_ble_eq_true rfl) (by decide +kernel)) rfl
theorem dl_1354 : decode code 1354 = .ok (.if_icmp .eq 5, 3) := dc_159 (a := 0) (b := 5) (dcc (r := 10) lq_21 rfl (Nat.le_of_ble_eq_true rfl) (by decide +kernel)) rfl
theorem dl_1359 : decode code 1359 = .ok (.iinc 3 5, 3) := dc_132 (a := 3) (b := 5) (dcc (r := 15) lq_21 rfl (Nat.le_of_ble_eq_true rfl) (by decide +kernel)) rfl
theorem dl_1362 : decode code 1362 = .ok (.goto (-1344), 3) := dc_167 (a := 250) (b := 192) (dcc (r := 18) lq_21 rfl (Nat.le_of_ble_eq_true rfl) (by decide +kernel)) rfl
theorem dl_1365 : decode code 1365 = .ok (.iconst 1, 1) := dc_4 (dcc (r := 21) lq_21 rfl (Nat.le_of_ble_eq_true rfl) (by decide +kernel))
theorem dl_1366 : decode code 1366 = .ok (.ireturn, 1) := dc_172 (dcc (r := 22) lq_21 rfl (Nat.le_of_ble_eq_true rfl) (by decide +kernel))
end
