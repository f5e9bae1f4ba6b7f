def S_fillX_70 : List (Nat × Option Nat) := [(70, none)]
abbrev q_fillX_70 (h : Hp) (v : Int32) (vZ : Int) : Option Value → Hp → Prop := pVd (fun h' => Inv h' ∧ fr S_fillX_70 h h' ∧ fll h' 70 v 16)
set_option maxRecDepth 100000 in
theorem c_fillX_70 (h : Hp) (hI : Inv h) (v : Int32) (vZ : Int) (vE : v.toInt = vZ) : Ct y_Arr_fill b_Arr_fill 4 none 0 0 [.ref 70, .int v] h (q_fillX_70 h v vZ) := by
  refine ct_ow R_Arr [some (.ref 70), some (.int v), none, none] rfl (by decide) rfl (Nat.le_of_ble_eq_true rfl) ?_
  have f0 : fr S_fillX_70 h h := fr_rf
  refine V_iconst 0 d_Arr_fill_0 (by decide) ?_
  refine V_istore_n 2 [some (.ref 70), some (.int v), some (.int 0), none] d_Arr_fill_1 rfl (by decide) rfl rfl ?_
  refine V_aload_n 0 d_Arr_fill_2 rfl rfl ?_
  refine V_alen sk_70 (by decide) (by decide : Int32.ofNat 16 = 16) d_Arr_fill_3 ?_
  refine V_istore_n 3 [some (.ref 70), some (.int v), some (.int 0), some (.int 16)] d_Arr_fill_4 rfl (by decide) rfl rfl ?_
  have L1 : ∀ (nn : Nat) (v3 : Int32) (v3Z : Int) (h4 : Hp), v3.toInt = v3Z → Inv h4 → fr S_fillX_70 h h4 → 0 ≤ v3Z ∧ v3Z ≤ 16 → fll h4 70 v v3Z → 16 - v3Z < (nn : Int) → V R_Arr b_Arr_fill 4 none 0 0 (q_fillX_70 h v vZ) h4 5 [some (.ref 70), some (.int v), some (.int v3), some (.int 16)] [] := by
    intro nn
    induction nn with
    | zero => intro v3 v3Z h4 v3E Ih4 Fh4 q5 q6 hm7; exact absurd hm7 (by (first | decide +kernel | omega))
    | succ nn ihL1 =>
      intro v3 v3Z h4 v3E Ih4 Fh4 q5 q6 hm7
      refine V_iload_n 2 d_Arr_fill_5 rfl rfl ?_
      refine V_iload_n 3 d_Arr_fill_6 rfl rfl ?_
      refine V_icmp_ge 20 v3E tc_16 d_Arr_fill_7 (by decide) (fun c8 => ?_) (fun c8 => ?_)
      ·
        exact V_vret rfl d_Arr_fill_20 ⟨rfl, ⟨Ih4, Fh4, (fll_le (by assumption) (by (first | decide +kernel | omega)))⟩⟩
      ·
        refine V_aload_n 0 d_Arr_fill_10 rfl rfl ?_
        refine V_iload_n 2 d_Arr_fill_11 rfl rfl ?_
        refine V_iload_n 1 d_Arr_fill_12 rfl rfl ?_
        refine N_iast sk_70 v3E (by (first | decide +kernel | omega)) d_Arr_fill_13 (fun h9 eh9 => ?_)
        have hI10 : Inv h9 := inv_full Ih4 eh9 rfl
        have f11 : fr S_fillX_70 h h9 := fr_put Fh4 eh9 rfl
        obtain ⟨z12, z12E, z12e⟩ : ∃ y : Int32, y.toInt = v3Z + 1 ∧ y = v3 + Int32.ofInt 1 := ⟨_, ti_add v3E (by decide) (by (first | decide +kernel | omega)), rfl⟩
        refine V_iinc 2 [some (.ref 70), some (.int v), some (.int z12), some (.int 16)] d_Arr_fill_14 rfl z12e.symm (by decide) rfl rfl ?_
        refine V_goto 5 d_Arr_fill_17 (by decide) ?_
        exact ihL1 z12 ((v3Z + 1)) h9 z12E hI10 f11 (by (first | decide +kernel | omega)) (fll_s (by assumption) (by (first | decide +kernel | omega)) eh9) (by (first | decide +kernel | omega))
  exact L1 (Int.toNat ((16 - 0 : Int) + 1)) 0 0 h tc_0 hI f0 (by (first | decide +kernel | omega)) fll_0 (by (first | decide +kernel | omega))
def S_fillX_71 : List (Nat × Option Nat) := [(71, none)]
abbrev q_fillX_71 (h : Hp) (v : Int32) (vZ : Int) : Option Value → Hp → Prop := pVd (fun h' => Inv h' ∧ fr S_fillX_71 h h' ∧ fll h' 71 v 16)
set_option maxRecDepth 100000 in
theorem c_fillX_71 (h : Hp) (hI : Inv h) (v : Int32) (vZ : Int) (vE : v.toInt = vZ) : Ct y_Arr_fill b_Arr_fill 4 none 0 0 [.ref 71, .int v] h (q_fillX_71 h v vZ) := by
  refine ct_ow R_Arr [some (.ref 71), some (.int v), none, none] rfl (by decide) rfl (Nat.le_of_ble_eq_true rfl) ?_
  have f0 : fr S_fillX_71 h h := fr_rf
  refine V_iconst 0 d_Arr_fill_0 (by decide) ?_
  refine V_istore_n 2 [some (.ref 71), some (.int v), some (.int 0), none] d_Arr_fill_1 rfl (by decide) rfl rfl ?_
  refine V_aload_n 0 d_Arr_fill_2 rfl rfl ?_
  refine V_alen sk_71 (by decide) (by decide : Int32.ofNat 16 = 16) d_Arr_fill_3 ?_
  refine V_istore_n 3 [some (.ref 71), some (.int v), some (.int 0), some (.int 16)] d_Arr_fill_4 rfl (by decide) rfl rfl ?_
  have L1 : ∀ (nn : Nat) (v3 : Int32) (v3Z : Int) (h4 : Hp), v3.toInt = v3Z → Inv h4 → fr S_fillX_71 h h4 → 0 ≤ v3Z ∧ v3Z ≤ 16 → fll h4 71 v v3Z → 16 - v3Z < (nn : Int) → V R_Arr b_Arr_fill 4 none 0 0 (q_fillX_71 h v vZ) h4 5 [some (.ref 71), some (.int v), some (.int v3), some (.int 16)] [] := by
    intro nn
    induction nn with
    | zero => intro v3 v3Z h4 v3E Ih4 Fh4 q5 q6 hm7; exact absurd hm7 (by (first | decide +kernel | omega))
    | succ nn ihL1 =>
      intro v3 v3Z h4 v3E Ih4 Fh4 q5 q6 hm7
      refine V_iload_n 2 d_Arr_fill_5 rfl rfl ?_
      refine V_iload_n 3 d_Arr_fill_6 rfl rfl ?_
      refine V_icmp_ge 20 v3E tc_16 d_Arr_fill_7 (by decide) (fun c8 => ?_) (fun c8 => ?_)
      ·
        exact V_vret rfl d_Arr_fill_20 ⟨rfl, ⟨Ih4, Fh4, (fll_le (by assumption) (by (first | decide +kernel | omega)))⟩⟩
      ·
        refine V_aload_n 0 d_Arr_fill_10 rfl rfl ?_
        refine V_iload_n 2 d_Arr_fill_11 rfl rfl ?_
        refine V_iload_n 1 d_Arr_fill_12 rfl rfl ?_
        refine N_iast sk_71 v3E (by (first | decide +kernel | omega)) d_Arr_fill_13 (fun h9 eh9 => ?_)
        have hI10 : Inv h9 := inv_full Ih4 eh9 rfl
        have f11 : fr S_fillX_71 h h9 := fr_put Fh4 eh9 rfl
        obtain ⟨z12, z12E, z12e⟩ : ∃ y : Int32, y.toInt = v3Z + 1 ∧ y = v3 + Int32.ofInt 1 := ⟨_, ti_add v3E (by decide) (by (first | decide +kernel | omega)), rfl⟩
        refine V_iinc 2 [some (.ref 71), some (.int v), some (.int z12), some (.int 16)] d_Arr_fill_14 rfl z12e.symm (by decide) rfl rfl ?_
        refine V_goto 5 d_Arr_fill_17 (by decide) ?_
        exact ihL1 z12 ((v3Z + 1)) h9 z12E hI10 f11 (by (first | decide +kernel | omega)) (fll_s (by assumption) (by (first | decide +kernel | omega)) eh9) (by (first | decide +kernel | omega))
  exact L1 (Int.toNat ((16 - 0 : Int) + 1)) 0 0 h tc_0 hI f0 (by (first | decide +kernel | omega)) fll_0 (by (first | decide +kernel | omega))
def S_fillX_72 : List (Nat × Option Nat) := [(72, none)]
abbrev q_fillX_72 (h : Hp) (v : Int32) (vZ : Int) : Option Value → Hp → Prop := pVd (fun h' => Inv h' ∧ fr S_fillX_72 h h' ∧ fll h' 72 v 16)
set_option maxRecDepth 100000 in
theorem c_fillX_72 (h : Hp) (hI : Inv h) (v : Int32) (vZ : Int) (vE : v.toInt = vZ) : Ct y_Arr_fill b_Arr_fill 4 none 0 0 [.ref 72, .int v] h (q_fillX_72 h v vZ) := by
  refine ct_ow R_Arr [some (.ref 72), some (.int v), none, none] rfl (by decide) rfl (Nat.le_of_ble_eq_true rfl) ?_
  have f0 : fr S_fillX_72 h h := fr_rf
  refine V_iconst 0 d_Arr_fill_0 (by decide) ?_
  refine V_istore_n 2 [some (.ref 72), some (.int v), some (.int 0), none] d_Arr_fill_1 rfl (by decide) rfl rfl ?_
  refine V_aload_n 0 d_Arr_fill_2 rfl rfl ?_
  refine V_alen sk_72 (by decide) (by decide : Int32.ofNat 16 = 16) d_Arr_fill_3 ?_
  refine V_istore_n 3 [some (.ref 72), some (.int v), some (.int 0), some (.int 16)] d_Arr_fill_4 rfl (by decide) rfl rfl ?_
  have L1 : ∀ (nn : Nat) (v3 : Int32) (v3Z : Int) (h4 : Hp), v3.toInt = v3Z → Inv h4 → fr S_fillX_72 h h4 → 0 ≤ v3Z ∧ v3Z ≤ 16 → fll h4 72 v v3Z → 16 - v3Z < (nn : Int) → V R_Arr b_Arr_fill 4 none 0 0 (q_fillX_72 h v vZ) h4 5 [some (.ref 72), some (.int v), some (.int v3), some (.int 16)] [] := by
    intro nn
    induction nn with
    | zero => intro v3 v3Z h4 v3E Ih4 Fh4 q5 q6 hm7; exact absurd hm7 (by (first | decide +kernel | omega))
    | succ nn ihL1 =>
      intro v3 v3Z h4 v3E Ih4 Fh4 q5 q6 hm7
      refine V_iload_n 2 d_Arr_fill_5 rfl rfl ?_
      refine V_iload_n 3 d_Arr_fill_6 rfl rfl ?_
      refine V_icmp_ge 20 v3E tc_16 d_Arr_fill_7 (by decide) (fun c8 => ?_) (fun c8 => ?_)
      ·
        exact V_vret rfl d_Arr_fill_20 ⟨rfl, ⟨Ih4, Fh4, (fll_le (by assumption) (by (first | decide +kernel | omega)))⟩⟩
      ·
        refine V_aload_n 0 d_Arr_fill_10 rfl rfl ?_
        refine V_iload_n 2 d_Arr_fill_11 rfl rfl ?_
        refine V_iload_n 1 d_Arr_fill_12 rfl rfl ?_
        refine N_iast sk_72 v3E (by (first | decide +kernel | omega)) d_Arr_fill_13 (fun h9 eh9 => ?_)
        have hI10 : Inv h9 := inv_full Ih4 eh9 rfl
        have f11 : fr S_fillX_72 h h9 := fr_put Fh4 eh9 rfl
        obtain ⟨z12, z12E, z12e⟩ : ∃ y : Int32, y.toInt = v3Z + 1 ∧ y = v3 + Int32.ofInt 1 := ⟨_, ti_add v3E (by decide) (by (first | decide +kernel | omega)), rfl⟩
        refine V_iinc 2 [some (.ref 72), some (.int v), some (.int z12), some (.int 16)] d_Arr_fill_14 rfl z12e.symm (by decide) rfl rfl ?_
        refine V_goto 5 d_Arr_fill_17 (by decide) ?_
        exact ihL1 z12 ((v3Z + 1)) h9 z12E hI10 f11 (by (first | decide +kernel | omega)) (fll_s (by assumption) (by (first | decide +kernel | omega)) eh9) (by (first | decide +kernel | omega))
  exact L1 (Int.toNat ((16 - 0 : Int) + 1)) 0 0 h tc_0 hI f0 (by (first | decide +kernel | omega)) fll_0 (by (first | decide +kernel | omega))
def S_fillX_73 : List (Nat × Option Nat) := [(73, none)]
abbrev q_fillX_73 (h : Hp) (v : Int32) (vZ : Int) : Option Value → Hp → Prop := pVd (fun h' => Inv h' ∧ fr S_fillX_73 h h' ∧ fll h' 73 v 16)
set_option maxRecDepth 100000 in
theorem c_fillX_73 (h : Hp) (hI : Inv h) (v : Int32) (vZ : Int) (vE : v.toInt = vZ) : Ct y_Arr_fill b_Arr_fill 4 none 0 0 [.ref 73, .int v] h (q_fillX_73 h v vZ) := by
  refine ct_ow R_Arr [some (.ref 73), some (.int v), none, none] rfl (by decide) rfl (Nat.le_of_ble_eq_true rfl) ?_
  have f0 : fr S_fillX_73 h h := fr_rf
  refine V_iconst 0 d_Arr_fill_0 (by decide) ?_
  refine V_istore_n 2 [some (.ref 73), some (.int v), some (.int 0), none] d_Arr_fill_1 rfl (by decide) rfl rfl ?_
  refine V_aload_n 0 d_Arr_fill_2 rfl rfl ?_
  refine V_alen sk_73 (by decide) (by decide : Int32.ofNat 16 = 16) d_Arr_fill_3 ?_
  refine V_istore_n 3 [some (.ref 73), some (.int v), some (.int 0), some (.int 16)] d_Arr_fill_4 rfl (by decide) rfl rfl ?_
  have L1 : ∀ (nn : Nat) (v3 : Int32) (v3Z : Int) (h4 : Hp), v3.toInt = v3Z → Inv h4 → fr S_fillX_73 h h4 → 0 ≤ v3Z ∧ v3Z ≤ 16 → fll h4 73 v v3Z → 16 - v3Z < (nn : Int) → V R_Arr b_Arr_fill 4 none 0 0 (q_fillX_73 h v vZ) h4 5 [some (.ref 73), some (.int v), some (.int v3), some (.int 16)] [] := by
    intro nn
    induction nn with
    | zero => intro v3 v3Z h4 v3E Ih4 Fh4 q5 q6 hm7; exact absurd hm7 (by (first | decide +kernel | omega))
    | succ nn ihL1 =>
      intro v3 v3Z h4 v3E Ih4 Fh4 q5 q6 hm7
      refine V_iload_n 2 d_Arr_fill_5 rfl rfl ?_
      refine V_iload_n 3 d_Arr_fill_6 rfl rfl ?_
      refine V_icmp_ge 20 v3E tc_16 d_Arr_fill_7 (by decide) (fun c8 => ?_) (fun c8 => ?_)
      ·
        exact V_vret rfl d_Arr_fill_20 ⟨rfl, ⟨Ih4, Fh4, (fll_le (by assumption) (by (first | decide +kernel | omega)))⟩⟩
      ·
        refine V_aload_n 0 d_Arr_fill_10 rfl rfl ?_
        refine V_iload_n 2 d_Arr_fill_11 rfl rfl ?_
        refine V_iload_n 1 d_Arr_fill_12 rfl rfl ?_
        refine N_iast sk_73 v3E (by (first | decide +kernel | omega)) d_Arr_fill_13 (fun h9 eh9 => ?_)
        have hI10 : Inv h9 := inv_full Ih4 eh9 rfl
        have f11 : fr S_fillX_73 h h9 := fr_put Fh4 eh9 rfl
        obtain ⟨z12, z12E, z12e⟩ : ∃ y : Int32, y.toInt = v3Z + 1 ∧ y = v3 + Int32.ofInt 1 := ⟨_, ti_add v3E (by decide) (by (first | decide +kernel | omega)), rfl⟩
        refine V_iinc 2 [some (.ref 73), some (.int v), some (.int z12), some (.int 16)] d_Arr_fill_14 rfl z12e.symm (by decide) rfl rfl ?_
        refine V_goto 5 d_Arr_fill_17 (by decide) ?_
        exact ihL1 z12 ((v3Z + 1)) h9 z12E hI10 f11 (by (first | decide +kernel | omega)) (fll_s (by assumption) (by (first | decide +kernel | omega)) eh9) (by (first | decide +kernel | omega))
  exact L1 (Int.toNat ((16 - 0 : Int) + 1)) 0 0 h tc_0 hI f0 (by (first | decide +kernel | omega)) fll_0 (by (first | decide +kernel | omega))
def S_fillX_74 : List (Nat × Option Nat) := [(74, none)]
abbrev q_fillX_74 (h : Hp) (v : Int32) (vZ : Int) : Option Value → Hp → Prop := pVd (fun h' => Inv h' ∧ fr S_fillX_74 h h' ∧ fll h' 74 v 16)
set_option maxRecDepth 100000 in
theorem c_fillX_74 (h : Hp) (hI : Inv h) (v : Int32) (vZ : Int) (vE : v.toInt = vZ) : Ct y_Arr_fill b_Arr_fill 4 none 0 0 [.ref 74, .int v] h (q_fillX_74 h v vZ) := by
  refine ct_ow R_Arr [some (.ref 74), some (.int v), none, none] rfl (by decide) rfl (Nat.le_of_ble_eq_true rfl) ?_
  have f0 : fr S_fillX_74 h h := fr_rf
  refine V_iconst 0 d_Arr_fill_0 (by decide) ?_
  refine V_istore_n 2 [some (.ref 74), some (.int v), some (.int 0), none] d_Arr_fill_1 rfl (by decide) rfl rfl ?_
  refine V_aload_n 0 d_Arr_fill_2 rfl rfl ?_
  refine V_alen sk_74 (by decide) (by decide : Int32.ofNat 16 = 16) d_Arr_fill_3 ?_
  refine V_istore_n 3 [some (.ref 74), some (.int v), some (.int 0), some (.int 16)] d_Arr_fill_4 rfl (by decide) rfl rfl ?_
  have L1 : ∀ (nn : Nat) (v3 : Int32) (v3Z : Int) (h4 : Hp), v3.toInt = v3Z → Inv h4 → fr S_fillX_74 h h4 → 0 ≤ v3Z ∧ v3Z ≤ 16 → fll h4 74 v v3Z → 16 - v3Z < (nn : Int) → V R_Arr b_Arr_fill 4 none 0 0 (q_fillX_74 h v vZ) h4 5 [some (.ref 74), some (.int v), some (.int v3), some (.int 16)] [] := by
    intro nn
    induction nn with
    | zero => intro v3 v3Z h4 v3E Ih4 Fh4 q5 q6 hm7; exact absurd hm7 (by (first | decide +kernel | omega))
    | succ nn ihL1 =>
      intro v3 v3Z h4 v3E Ih4 Fh4 q5 q6 hm7
      refine V_iload_n 2 d_Arr_fill_5 rfl rfl ?_
      refine V_iload_n 3 d_Arr_fill_6 rfl rfl ?_
      refine V_icmp_ge 20 v3E tc_16 d_Arr_fill_7 (by decide) (fun c8 => ?_) (fun c8 => ?_)
      ·
        exact V_vret rfl d_Arr_fill_20 ⟨rfl, ⟨Ih4, Fh4, (fll_le (by assumption) (by (first | decide +kernel | omega)))⟩⟩
      ·
        refine V_aload_n 0 d_Arr_fill_10 rfl rfl ?_
        refine V_iload_n 2 d_Arr_fill_11 rfl rfl ?_
        refine V_iload_n 1 d_Arr_fill_12 rfl rfl ?_
        refine N_iast sk_74 v3E (by (first | decide +kernel | omega)) d_Arr_fill_13 (fun h9 eh9 => ?_)
        have hI10 : Inv h9 := inv_full Ih4 eh9 rfl
        have f11 : fr S_fillX_74 h h9 := fr_put Fh4 eh9 rfl
        obtain ⟨z12, z12E, z12e⟩ : ∃ y : Int32, y.toInt = v3Z + 1 ∧ y = v3 + Int32.ofInt 1 := ⟨_, ti_add v3E (by decide) (by (first | decide +kernel | omega)), rfl⟩
        refine V_iinc 2 [some (.ref 74), some (.int v), some (.int z12), some (.int 16)] d_Arr_fill_14 rfl z12e.symm (by decide) rfl rfl ?_
        refine V_goto 5 d_Arr_fill_17 (by decide) ?_
        exact ihL1 z12 ((v3Z + 1)) h9 z12E hI10 f11 (by (first | decide +kernel | omega)) (fll_s (by assumption) (by (first | decide +kernel | omega)) eh9) (by (first | decide +kernel | omega))
  exact L1 (Int.toNat ((16 - 0 : Int) + 1)) 0 0 h tc_0 hI f0 (by (first | decide +kernel | omega)) fll_0 (by (first | decide +kernel | omega))
def S_fillX_76 : List (Nat × Option Nat) := [(76, none)]
abbrev q_fillX_76 (h : Hp) (v : Int32) (vZ : Int) : Option Value → Hp → Prop := pVd (fun h' => Inv h' ∧ fr S_fillX_76 h h' ∧ fll h' 76 v 4)
set_option maxRecDepth 100000 in
theorem c_fillX_76 (h : Hp) (hI : Inv h) (v : Int32) (vZ : Int) (vE : v.toInt = vZ) : Ct y_Arr_fill b_Arr_fill 4 none 0 0 [.ref 76, .int v] h (q_fillX_76 h v vZ) := by
  refine ct_ow R_Arr [some (.ref 76), some (.int v), none, none] rfl (by decide) rfl (Nat.le_of_ble_eq_true rfl) ?_
  have f0 : fr S_fillX_76 h h := fr_rf
  refine V_iconst 0 d_Arr_fill_0 (by decide) ?_
  refine V_istore_n 2 [some (.ref 76), some (.int v), some (.int 0), none] d_Arr_fill_1 rfl (by decide) rfl rfl ?_
  refine V_aload_n 0 d_Arr_fill_2 rfl rfl ?_
  refine V_alen sk_76 (by decide) (by decide : Int32.ofNat 4 = 4) d_Arr_fill_3 ?_
  refine V_istore_n 3 [some (.ref 76), some (.int v), some (.int 0), some (.int 4)] d_Arr_fill_4 rfl (by decide) rfl rfl ?_
  have L1 : ∀ (nn : Nat) (v3 : Int32) (v3Z : Int) (h4 : Hp), v3.toInt = v3Z → Inv h4 → fr S_fillX_76 h h4 → 0 ≤ v3Z ∧ v3Z ≤ 4 → fll h4 76 v v3Z → 4 - v3Z < (nn : Int) → V R_Arr b_Arr_fill 4 none 0 0 (q_fillX_76 h v vZ) h4 5 [some (.ref 76), some (.int v), some (.int v3), some (.int 4)] [] := by
    intro nn
    induction nn with
    | zero => intro v3 v3Z h4 v3E Ih4 Fh4 q5 q6 hm7; exact absurd hm7 (by (first | decide +kernel | omega))
    | succ nn ihL1 =>
      intro v3 v3Z h4 v3E Ih4 Fh4 q5 q6 hm7
      refine V_iload_n 2 d_Arr_fill_5 rfl rfl ?_
      refine V_iload_n 3 d_Arr_fill_6 rfl rfl ?_
      refine V_icmp_ge 20 v3E tc_4 d_Arr_fill_7 (by decide) (fun c8 => ?_) (fun c8 => ?_)
      ·
        exact V_vret rfl d_Arr_fill_20 ⟨rfl, ⟨Ih4, Fh4, (fll_le (by assumption) (by (first | decide +kernel | omega)))⟩⟩
      ·
        refine V_aload_n 0 d_Arr_fill_10 rfl rfl ?_
        refine V_iload_n 2 d_Arr_fill_11 rfl rfl ?_
        refine V_iload_n 1 d_Arr_fill_12 rfl rfl ?_
        refine N_iast sk_76 v3E (by (first | decide +kernel | omega)) d_Arr_fill_13 (fun h9 eh9 => ?_)
        have hI10 : Inv h9 := inv_full Ih4 eh9 rfl
        have f11 : fr S_fillX_76 h h9 := fr_put Fh4 eh9 rfl
        obtain ⟨z12, z12E, z12e⟩ : ∃ y : Int32, y.toInt = v3Z + 1 ∧ y = v3 + Int32.ofInt 1 := ⟨_, ti_add v3E (by decide) (by (first | decide +kernel | omega)), rfl⟩
        refine V_iinc 2 [some (.ref 76), some (.int v), some (.int z12), some (.int 4)] d_Arr_fill_14 rfl z12e.symm (by decide) rfl rfl ?_
        refine V_goto 5 d_Arr_fill_17 (by decide) ?_
        exact ihL1 z12 ((v3Z + 1)) h9 z12E hI10 f11 (by (first | decide +kernel | omega)) (fll_s (by assumption) (by (first | decide +kernel | omega)) eh9) (by (first | decide +kernel | omega))
  exact L1 (Int.toNat ((4 - 0 : Int) + 1)) 0 0 h tc_0 hI f0 (by (first | decide +kernel | omega)) fll_0 (by (first | decide +kernel | omega))
def S_fillX_92 : List (Nat × Option Nat) := [(92, none)]
abbrev q_fillX_92 (h : Hp) (v : Int32) (vZ : Int) : Option Value → Hp → Prop := pVd (fun h' => Inv h' ∧ fr S_fillX_92 h h' ∧ fll h' 92 v 10)
set_option maxRecDepth 100000 in
theorem c_fillX_92 (h : Hp) (hI : Inv h) (v : Int32) (vZ : Int) (vE : v.toInt = vZ) : Ct y_Arr_fill b_Arr_fill 4 none 0 0 [.ref 92, .int v] h (q_fillX_92 h v vZ) := by
  refine ct_ow R_Arr [some (.ref 92), some (.int v), none, none] rfl (by decide) rfl (Nat.le_of_ble_eq_true rfl) ?_
  have f0 : fr S_fillX_92 h h := fr_rf
  refine V_iconst 0 d_Arr_fill_0 (by decide) ?_
  refine V_istore_n 2 [some (.ref 92), some (.int v), some (.int 0), none] d_Arr_fill_1 rfl (by decide) rfl rfl ?_
  refine V_aload_n 0 d_Arr_fill_2 rfl rfl ?_
  refine V_alen sk_92 (by decide) (by decide : Int32.ofNat 10 = 10) d_Arr_fill_3 ?_
  refine V_istore_n 3 [some (.ref 92), some (.int v), some (.int 0), some (.int 10)] d_Arr_fill_4 rfl (by decide) rfl rfl ?_
  have L1 : ∀ (nn : Nat) (v3 : Int32) (v3Z : Int) (h4 : Hp), v3.toInt = v3Z → Inv h4 → fr S_fillX_92 h h4 → 0 ≤ v3Z ∧ v3Z ≤ 10 → fll h4 92 v v3Z → 10 - v3Z < (nn : Int) → V R_Arr b_Arr_fill 4 none 0 0 (q_fillX_92 h v vZ) h4 5 [some (.ref 92), some (.int v), some (.int v3), some (.int 10)] [] := by
    intro nn
    induction nn with
    | zero => intro v3 v3Z h4 v3E Ih4 Fh4 q5 q6 hm7; exact absurd hm7 (by (first | decide +kernel | omega))
    | succ nn ihL1 =>
      intro v3 v3Z h4 v3E Ih4 Fh4 q5 q6 hm7
      refine V_iload_n 2 d_Arr_fill_5 rfl rfl ?_
      refine V_iload_n 3 d_Arr_fill_6 rfl rfl ?_
      refine V_icmp_ge 20 v3E tc_10 d_Arr_fill_7 (by decide) (fun c8 => ?_) (fun c8 => ?_)
      ·
        exact V_vret rfl d_Arr_fill_20 ⟨rfl, ⟨Ih4, Fh4, (fll_le (by assumption) (by (first | decide +kernel | omega)))⟩⟩
      ·
        refine V_aload_n 0 d_Arr_fill_10 rfl rfl ?_
        refine V_iload_n 2 d_Arr_fill_11 rfl rfl ?_
        refine V_iload_n 1 d_Arr_fill_12 rfl rfl ?_
        refine N_iast sk_92 v3E (by (first | decide +kernel | omega)) d_Arr_fill_13 (fun h9 eh9 => ?_)
        have hI10 : Inv h9 := inv_full Ih4 eh9 rfl
        have f11 : fr S_fillX_92 h h9 := fr_put Fh4 eh9 rfl
        obtain ⟨z12, z12E, z12e⟩ : ∃ y : Int32, y.toInt = v3Z + 1 ∧ y = v3 + Int32.ofInt 1 := ⟨_, ti_add v3E (by decide) (by (first | decide +kernel | omega)), rfl⟩
        refine V_iinc 2 [some (.ref 92), some (.int v), some (.int z12), some (.int 10)] d_Arr_fill_14 rfl z12e.symm (by decide) rfl rfl ?_
        refine V_goto 5 d_Arr_fill_17 (by decide) ?_
        exact ihL1 z12 ((v3Z + 1)) h9 z12E hI10 f11 (by (first | decide +kernel | omega)) (fll_s (by assumption) (by (first | decide +kernel | omega)) eh9) (by (first | decide +kernel | omega))
  exact L1 (Int.toNat ((10 - 0 : Int) + 1)) 0 0 h tc_0 hI f0 (by (first | decide +kernel | omega)) fll_0 (by (first | decide +kernel | omega))
def S_Land_resetX_4 : List (Nat × Option Nat) := [(69, none), (70, none), (71, none), (72, none), (73, none), (74, none)]
abbrev q_Land_resetX_4 (h : Hp)  : Option Value → Hp → Prop := pVd (fun h' => Inv h' ∧ fr S_Land_resetX_4 h h' ∧ LR h')
set_option maxRecDepth 100000 in
theorem c_Land_resetX_4 (h : Hp) (hI : Inv h) : Ct y_Land_reset b_Land_reset 1 none 1 23 [.ref 69] h (q_Land_resetX_4 h ) := by
  refine ct_ow R_Land [some (.ref 69)] rfl (by decide) rfl (Nat.le_of_ble_eq_true rfl) ?_
  have f0 : fr S_Land_resetX_4 h h := fr_rf
  refine V_aload_n 0 d_Land_reset_0 rfl rfl ?_
  refine V_iconst 3 d_Land_reset_1 (by decide) ?_
  refine N_putI fp_Land_27 sk_69 rfl d_Land_reset_2 (fun h1 eh1 => ?_)
  have hI2 : Inv h1 := inv_put (lo := 2) (hi := 4) hI eh1 rfl tc_3 (by (first | decide +kernel | omega))
  have f3 : fr S_Land_resetX_4 h h1 := fr_put f0 eh1 rfl
  refine V_aload_n 0 d_Land_reset_5 rfl rfl ?_
  refine V_iconst 3 d_Land_reset_6 (by decide) ?_
  refine N_putI fp_Land_31 sk_69 rfl d_Land_reset_7 (fun h4 eh4 => ?_)
  have hI5 : Inv h4 := inv_put (lo := 2) (hi := 4) hI2 eh4 rfl tc_3 (by (first | decide +kernel | omega))
  have f6 : fr S_Land_resetX_4 h h4 := fr_put f3 eh4 rfl
  refine V_aload_n 0 d_Land_reset_10 rfl rfl ?_
  refine V_iconst 1 d_Land_reset_11 (by decide) ?_
  refine N_putI fp_Land_34 sk_69 rfl d_Land_reset_12 (fun h7 eh7 => ?_)
  have hI8 : Inv h7 := inv_full hI5 eh7 rfl
  have f9 : fr S_Land_resetX_4 h h7 := fr_put f6 eh7 rfl
  refine V_aload_n 0 d_Land_reset_15 rfl rfl ?_
  refine V_bipush 10 d_Land_reset_16 (by decide) ?_
  refine N_putI fp_Land_37 sk_69 rfl d_Land_reset_18 (fun h10 eh10 => ?_)
  have hI11 : Inv h10 := inv_full hI8 eh10 rfl
  have f12 : fr S_Land_resetX_4 h h10 := fr_put f9 eh10 rfl
  refine V_aload_n 0 d_Land_reset_21 rfl rfl ?_
  refine V_getR fa_Land_9 sk_69 rfl d_Land_reset_22 ?_
  refine V_iconst 0 d_Land_reset_25 (by decide) ?_
  refine N_callSV [.ref 70, .int 0] [] cs_Land_40 d_Land_reset_26 rfl (Nat.le_of_ble_eq_true rfl) (by decide) (by decide) (c_fillX_70 h10 hI11 0 0 tc_0) (fun h14 p15 => ?_)
  obtain ⟨hI16, fh14, p15⟩ := p15
  have f17 : fr S_Land_resetX_4 h h14 := fr_call f12 fh14 rfl
  refine V_aload_n 0 d_Land_reset_29 rfl rfl ?_
  refine V_getR fa_Land_15 sk_69 rfl d_Land_reset_30 ?_
  refine V_iconst 0 d_Land_reset_33 (by decide) ?_
  refine N_callSV [.ref 71, .int 0] [] cs_Land_40 d_Land_reset_34 rfl (Nat.le_of_ble_eq_true rfl) (by decide) (by decide) (c_fillX_71 h14 hI16 0 0 tc_0) (fun h19 p20 => ?_)
  obtain ⟨hI21, fh19, p20⟩ := p20
  have f22 : fr S_Land_resetX_4 h h19 := fr_call f17 fh19 rfl
  have A23 : fll h19 70 0 16 := fll_fr fh19 (fun _ => rfl) p15
  refine V_aload_n 0 d_Land_reset_37 rfl rfl ?_
  refine V_getR fa_Land_18 sk_69 rfl d_Land_reset_38 ?_
  refine V_iconst 5 d_Land_reset_41 (by decide) ?_
  refine N_callSV [.ref 72, .int 5] [] cs_Land_40 d_Land_reset_42 rfl (Nat.le_of_ble_eq_true rfl) (by decide) (by decide) (c_fillX_72 h19 hI21 5 5 tc_5) (fun h25 p26 => ?_)
  obtain ⟨hI27, fh25, p26⟩ := p26
  have f28 : fr S_Land_resetX_4 h h25 := fr_call f22 fh25 rfl
  have A29 : fll h25 70 0 16 := fll_fr fh25 (fun _ => rfl) A23
  have A30 : fll h25 71 0 16 := fll_fr fh25 (fun _ => rfl) p20
  refine V_aload_n 0 d_Land_reset_45 rfl rfl ?_
  refine V_getR fa_Land_21 sk_69 rfl d_Land_reset_46 ?_
  refine V_bipush (-4) d_Land_reset_49 (by decide) ?_
  refine N_callSV [.ref 73, .int (-4)] [] cs_Land_40 d_Land_reset_51 rfl (Nat.le_of_ble_eq_true rfl) (by decide) (by decide) (c_fillX_73 h25 hI27 (-4) ((-4)) tc_m4) (fun h32 p33 => ?_)
  obtain ⟨hI34, fh32, p33⟩ := p33
  have f35 : fr S_Land_resetX_4 h h32 := fr_call f28 fh32 rfl
  have A36 : fll h32 70 0 16 := fll_fr fh32 (fun _ => rfl) A29
  have A37 : fll h32 71 0 16 := fll_fr fh32 (fun _ => rfl) A30
  have A38 : fll h32 72 5 16 := fll_fr fh32 (fun _ => rfl) p26
  refine V_aload_n 0 d_Land_reset_54 rfl rfl ?_
  refine V_getR fa_Land_24 sk_69 rfl d_Land_reset_55 ?_
  refine V_iconst 0 d_Land_reset_58 (by decide) ?_
  refine N_callSV [.ref 74, .int 0] [] cs_Land_40 d_Land_reset_59 rfl (Nat.le_of_ble_eq_true rfl) (by decide) (by decide) (c_fillX_74 h32 hI34 0 0 tc_0) (fun h40 p41 => ?_)
  obtain ⟨hI42, fh40, p41⟩ := p41
  have f43 : fr S_Land_resetX_4 h h40 := fr_call f35 fh40 rfl
  have A44 : fll h40 70 0 16 := fll_fr fh40 (fun _ => rfl) A36
  have A45 : fll h40 71 0 16 := fll_fr fh40 (fun _ => rfl) A37
  have A46 : fll h40 72 5 16 := fll_fr fh40 (fun _ => rfl) A38
  have A47 : fll h40 73 (-4) 16 := fll_fr fh40 (fun _ => rfl) p33
  exact V_vret rfl d_Land_reset_62 ⟨rfl, ⟨hI42, f43, ⟨(kn_call fh40 (kn_call fh32 (kn_call fh25 (kn_call fh19 (kn_call fh14 (kn_nei eh10 (kn_nei eh7 (kn_nei eh4 (kn_put eh1) (by decide)) (by decide)) (by decide)) rfl) rfl) rfl) rfl) rfl), (kn_call fh40 (kn_call fh32 (kn_call fh25 (kn_call fh19 (kn_call fh14 (kn_nei eh10 (kn_nei eh7 (kn_put eh4) (by decide)) (by decide)) rfl) rfl) rfl) rfl) rfl), (kn_call fh40 (kn_call fh32 (kn_call fh25 (kn_call fh19 (kn_call fh14 (kn_nei eh10 (kn_put eh7) (by decide)) rfl) rfl) rfl) rfl) rfl), (kn_call fh40 (kn_call fh32 (kn_call fh25 (kn_call fh19 (kn_call fh14 (kn_put eh10) rfl) rfl) rfl) rfl) rfl), A44, A45, A46, A47, p41⟩⟩⟩
def S_Ledger_resetX_4 : List (Nat × Option Nat) := [(76, none), (75, some 4)]
abbrev q_Ledger_resetX_4 (h : Hp)  : Option Value → Hp → Prop := pVd (fun h' => Inv h' ∧ fr S_Ledger_resetX_4 h h' ∧ (fll h' 76 0 4 ∧ h'.1 75 4 = 0))
set_option maxRecDepth 100000 in
theorem c_Ledger_resetX_4 (h : Hp) (hI : Inv h) : Ct y_Ledger_reset b_Ledger_reset 1 none 1 23 [.ref 75] h (q_Ledger_resetX_4 h ) := by
  refine ct_ow R_Ledger [some (.ref 75)] rfl (by decide) rfl (Nat.le_of_ble_eq_true rfl) ?_
  have f0 : fr S_Ledger_resetX_4 h h := fr_rf
  refine V_aload_n 0 d_Ledger_reset_0 rfl rfl ?_
  refine V_getR fa_Ledger_9 sk_75 rfl d_Ledger_reset_1 ?_
  refine V_iconst 0 d_Ledger_reset_4 (by decide) ?_
  refine N_callSV [.ref 76, .int 0] [] cs_Ledger_24 d_Ledger_reset_5 rfl (Nat.le_of_ble_eq_true rfl) (by decide) (by decide) (c_fillX_76 h hI 0 0 tc_0) (fun h2 p3 => ?_)
  obtain ⟨hI4, fh2, p3⟩ := p3
  have f5 : fr S_Ledger_resetX_4 h h2 := fr_call f0 fh2 rfl
  refine V_aload_n 0 d_Ledger_reset_8 rfl rfl ?_
  refine V_iconst 0 d_Ledger_reset_9 (by decide) ?_
  refine N_putI fp_Ledger_30 sk_75 rfl d_Ledger_reset_10 (fun h6 eh6 => ?_)
  have hI7 : Inv h6 := inv_put (lo := 0) (hi := 8) hI4 eh6 rfl tc_0 (by (first | decide +kernel | omega))
  have f8 : fr S_Ledger_resetX_4 h h6 := fr_put f5 eh6 rfl
  exact V_vret rfl d_Ledger_reset_13 ⟨rfl, ⟨hI7, f8, ⟨fll_ne eh6 (by decide) p3, (kn_put eh6)⟩⟩⟩
def S_County_resetX_4 : List (Nat × Option Nat) := [(69, none), (70, none), (71, none), (72, none), (73, none), (74, none), (76, none), (75, some 4), (80, some 4), (68, some 3), (68, some 4)]
abbrev q_County_resetX_4 (h : Hp)  : Option Value → Hp → Prop := pVd (fun h' => Inv h' ∧ fr S_County_resetX_4 h h' ∧ RCd h' x_D0)
set_option maxRecDepth 100000 in
theorem c_County_resetX_4 (h : Hp) (hI : Inv h) : Ct y_County_reset b_County_reset 1 none 2 43 [.ref 68] h (q_County_resetX_4 h ) := by
  refine ct_ow R_County [some (.ref 68)] rfl (by decide) rfl (Nat.le_of_ble_eq_true rfl) ?_
  have f0 : fr S_County_resetX_4 h h := fr_rf
  refine V_aload_n 0 d_County_reset_0 rfl rfl ?_
  refine V_getR fa_County_12 sk_68 rfl d_County_reset_1 ?_
  refine N_callVV [] [] cv_County_35 sk_69 rfl d_County_reset_4 rfl (Nat.le_of_ble_eq_true rfl) (by decide) (by decide) (c_Land_resetX_4 h hI) (fun h2 p3 => ?_)
  obtain ⟨hI4, fh2, p3⟩ := p3
  have f5 : fr S_County_resetX_4 h h2 := fr_call f0 fh2 rfl
  have qL := p3
  refine V_aload_n 0 d_County_reset_7 rfl rfl ?_
  refine V_getR fa_County_21 sk_68 rfl d_County_reset_8 ?_
  refine N_callVV [] [] cv_County_36 sk_75 rfl d_County_reset_11 rfl (Nat.le_of_ble_eq_true rfl) (by decide) (by decide) (c_Ledger_resetX_4 h2 hI4) (fun h7 p8 => ?_)
  obtain ⟨hI9, fh7, p8⟩ := p8
  have f10 : fr S_County_resetX_4 h h7 := fr_call f5 fh7 rfl
  have qL2 : LR h7 := LR_fr fh7 rfl qL
  have qG := p8
  refine V_aload_n 0 d_County_reset_14 rfl rfl ?_
  refine V_getR fa_County_28 sk_68 rfl d_County_reset_15 ?_
  refine V_iconst 0 d_County_reset_18 (by decide) ?_
  refine N_putI fp_County_37 sk_80 rfl d_County_reset_19 (fun h11 eh11 => ?_)
  have hI12 : Inv h11 := inv_put (lo := 0) (hi := 8) hI9 eh11 rfl tc_0 (by (first | decide +kernel | omega))
  have f13 : fr S_County_resetX_4 h h11 := fr_put f10 eh11 rfl
  refine V_aload_n 0 d_County_reset_22 rfl rfl ?_
  refine V_iconst 0 d_County_reset_23 (by decide) ?_
  refine N_putI fp_County_41 sk_68 rfl d_County_reset_24 (fun h14 eh14 => ?_)
  have hI15 : Inv h14 := inv_full hI12 eh14 rfl
  have f16 : fr S_County_resetX_4 h h14 := fr_put f13 eh14 rfl
  refine V_aload_n 0 d_County_reset_27 rfl rfl ?_
  refine V_bipush 9 d_County_reset_28 (by decide) ?_
  refine N_putI fp_County_44 sk_68 rfl d_County_reset_30 (fun h17 eh17 => ?_)
  have hI18 : Inv h17 := inv_full hI15 eh17 rfl
  have f19 : fr S_County_resetX_4 h h17 := fr_put f16 eh17 rfl
  exact V_vret rfl d_County_reset_33 ⟨rfl, ⟨hI18, f19, (RCd_first (LR_ne eh17 (by decide) (LR_ne eh14 (by decide) (LR_ne eh11 (by decide) qL2))) (fll_ne eh17 (by decide) (fll_ne eh14 (by decide) (fll_ne eh11 (by decide) qG.1))) (kn_ne eh17 (kn_ne eh14 (kn_ne eh11 qG.2 (by decide)) (by decide)) (by decide)) (kn_ne eh17 (kn_ne eh14 (kn_put eh11) (by decide)) (by decide)) (kn_nei eh17 (kn_put eh14) (by decide)) (kn_put eh17))⟩⟩
def S_Tape_rewindX : List (Nat × Option Nat) := [(89, some 4)]
abbrev q_Tape_rewindX (h : Hp)  : Option Value → Hp → Prop := pVd (fun h' => Inv h' ∧ fr S_Tape_rewindX h h' ∧ ∃ (u : Int32) (uZ : Int), u.toInt = uZ ∧ h'.1 89 4 = u ∧ (uZ = 0))
set_option maxRecDepth 100000 in
theorem c_Tape_rewindX (h : Hp) (hI : Inv h) : Ct y_Tape_rewind b_Tape_rewind 1 none 0 0 [.ref 89] h (q_Tape_rewindX h ) := by
  refine ct_ow R_Tape [some (.ref 89)] rfl (by decide) rfl (Nat.le_of_ble_eq_true rfl) ?_
  have f0 : fr S_Tape_rewindX h h := fr_rf
  refine V_aload_n 0 d_Tape_rewind_0 rfl rfl ?_
  refine V_iconst 0 d_Tape_rewind_1 (by decide) ?_
  refine N_putI fp_Tape_15 sk_89 rfl d_Tape_rewind_2 (fun h1 eh1 => ?_)
  have hI2 : Inv h1 := inv_put (lo := 0) (hi := 160) hI eh1 rfl tc_0 (by (first | decide +kernel | omega))
  have f3 : fr S_Tape_rewindX h h1 := fr_put f0 eh1 rfl
  exact V_vret rfl d_Tape_rewind_5 ⟨rfl, ⟨hI2, f3, 0, 0, tc_0, (kn_put eh1), (by (first | decide +kernel | omega))⟩⟩
abbrev q_Land_allBitsX_4 (h : Hp) (w : Int32) (wZ : Int) (g : Int32) (gZ : Int) : Option Value → Hp → Prop := pInt (fun r h' => h = h' ∧ (∃ c : Int32, c.toInt = wZ * gZ ∧ r = ((1 : Int32) <<< (c &&& 31)) - 1))
set_option maxRecDepth 100000 in
theorem c_Land_allBitsX_4 (h : Hp) (hI : Inv h) (w : Int32) (wZ : Int) (wE : w.toInt = wZ) (wK : h.1 69 0 = w) (g : Int32) (gZ : Int) (gE : g.toInt = gZ) (gK : h.1 69 1 = g) : Ct y_Land_allBits b_Land_allBits 1 (some .int) 1 20 [.ref 69] h (q_Land_allBitsX_4 h w wZ g gZ) := by
  refine ct_ow R_Land [some (.ref 69)] rfl (by decide) rfl (Nat.le_of_ble_eq_true rfl) ?_
  have f0 : fr [] h h := fr_rf
  have g1 : 2 ≤ wZ ∧ wZ ≤ 4 := inv_at hI wE wK.symm rfl
  have g2 : 2 ≤ gZ ∧ gZ ≤ 4 := inv_at hI gE gK.symm rfl
  refine V_iconst 1 d_Land_allBits_0 (by decide) ?_
  refine V_aload_n 0 d_Land_allBits_1 rfl rfl ?_
  refine N_callVI [] [.int 1] cv_Land_52 sk_69 rfl d_Land_allBits_2 rfl (Nat.le_of_ble_eq_true rfl) (by decide) (by decide) (c_Land_cells_4 h hI w wZ wE wK g gZ gE gK) (fun z3 h4 z3Z z3E p5 => ?_)
  obtain ⟨eh4, p5⟩ := p5
  subst eh4
  refine N_ishl d_Land_allBits_5 (fun z6 z6Z z6E z6e => ?_)
  refine V_iconst 1 d_Land_allBits_6 (by decide) ?_
  refine N_isubw d_Land_allBits_7 (fun z7 z7Z z7E z7e => ?_)
  exact V_iret rfl d_Land_allBits_8 ⟨z7, rfl, ⟨rfl, ⟨z3, z3E.trans (by (first | decide +kernel | omega)), by rw [z7e, z6e]⟩⟩⟩
abbrev q_Reader_tellsBeyondX (h : Hp) (T : Nat → Int → Int) (D : Nat → Int) (w : Int32) (wZ : Int) (g : Int32) (gZ : Int) (t1 : Int32) (t1Z : Int) (t2 : Int32) (t2Z : Int) (t3 : Int32) (t3Z : Int) (t4 : Int32) (t4Z : Int) : Option Value → Hp → Prop := pInt (fun r h' => h = h' ∧ (r.toInt = 1 ∧ x_by T (D 144 * D 145) ∨ r.toInt = 0 ∧ ¬ x_by T (D 144 * D 145)))
set_option maxRecDepth 100000 in
theorem c_Reader_tellsBeyondX (h : Hp) (T : Nat → Int → Int) (D : Nat → Int) (hI : Inv h) (w : Int32) (wZ : Int) (wE : w.toInt = wZ) (wK : h.1 69 0 = w) (g : Int32) (gZ : Int) (gE : g.toInt = gZ) (gK : h.1 69 1 = g) (t1 : Int32) (t1Z : Int) (t1E : t1.toInt = t1Z) (t1K : h.1 92 1 = t1) (t2 : Int32) (t2Z : Int) (t2E : t2.toInt = t2Z) (t2K : h.1 92 2 = t2) (t3 : Int32) (t3Z : Int) (t3E : t3.toInt = t3Z) (t3K : h.1 92 3 = t3) (t4 : Int32) (t4Z : Int) (t4E : t4.toInt = t4Z) (t4K : h.1 92 4 = t4) (hy0 : RC h T D) (hy1 : 2 ≤ D 144 ∧ D 144 ≤ 4 ∧ 2 ≤ D 145 ∧ D 145 ≤ 4) : Ct y_Reader_tellsBeyondCounty b_Reader_tellsBeyondCounty 2 (some .boolean) 2 40 [.ref 88] h (q_Reader_tellsBeyondX h T D w wZ g gZ t1 t1Z t2 t2Z t3 t3Z t4 t4Z) := by
  refine ct_ow R_Reader [some (.ref 88), none] rfl (by decide) rfl (Nat.le_of_ble_eq_true rfl) ?_
  have f0 : fr [] h h := fr_rf
  have g1 : 2 ≤ wZ ∧ wZ ≤ 4 := inv_at hI wE wK.symm rfl
  have g2 : 2 ≤ gZ ∧ gZ ≤ 4 := inv_at hI gE gK.symm rfl
  have g690 : wZ = D 144 := by have q := hy0.2.1 69 0 144 rfl; rw [wK, wE] at q; exact q
  have g691 : gZ = D 145 := by have q := hy0.2.1 69 1 145 rfl; rw [gK, gE] at q; exact q
  refine V_aload_n 0 d_Reader_tellsBeyondCounty_0 rfl rfl ?_
  refine V_getR fa_Reader_29 sk_88 rfl d_Reader_tellsBeyondCounty_1 ?_
  refine V_iconst 1 d_Reader_tellsBeyondCounty_4 (by decide) ?_
  refine N_ialdK sk_92 tc_1 (by (first | decide +kernel | omega)) d_Reader_tellsBeyondCounty_5 t1K ?_
  refine V_aload_n 0 d_Reader_tellsBeyondCounty_6 rfl rfl ?_
  refine V_getR fa_Reader_29 sk_88 rfl d_Reader_tellsBeyondCounty_7 ?_
  refine V_iconst 2 d_Reader_tellsBeyondCounty_10 (by decide) ?_
  refine N_ialdK sk_92 tc_2 (by (first | decide +kernel | omega)) d_Reader_tellsBeyondCounty_11 t2K ?_
  refine N_ior d_Reader_tellsBeyondCounty_12 (fun z5 z5Z z5E z5e => ?_)
  refine V_aload_n 0 d_Reader_tellsBeyondCounty_13 rfl rfl ?_
  refine V_getR fa_Reader_29 sk_88 rfl d_Reader_tellsBeyondCounty_14 ?_
  refine V_iconst 3 d_Reader_tellsBeyondCounty_17 (by decide) ?_
  refine N_ialdK sk_92 tc_3 (by (first | decide +kernel | omega)) d_Reader_tellsBeyondCounty_18 t3K ?_
  refine N_ior d_Reader_tellsBeyondCounty_19 (fun z7 z7Z z7E z7e => ?_)
  refine V_aload_n 0 d_Reader_tellsBeyondCounty_20 rfl rfl ?_
  refine V_getR fa_Reader_29 sk_88 rfl d_Reader_tellsBeyondCounty_21 ?_
  refine V_iconst 4 d_Reader_tellsBeyondCounty_24 (by decide) ?_
  refine N_ialdK sk_92 tc_4 (by (first | decide +kernel | omega)) d_Reader_tellsBeyondCounty_25 t4K ?_
  refine N_ior d_Reader_tellsBeyondCounty_26 (fun z9 z9Z z9E z9e => ?_)
  refine V_istore_n 1 [some (.ref 88), some (.int z9)] d_Reader_tellsBeyondCounty_27 rfl (by decide) rfl rfl ?_
  refine V_iload_n 1 d_Reader_tellsBeyondCounty_28 rfl rfl ?_
  refine V_aload_n 0 d_Reader_tellsBeyondCounty_29 rfl rfl ?_
  refine V_getR fa_Reader_21 sk_88 rfl d_Reader_tellsBeyondCounty_30 ?_
  refine V_getR fa_Reader_71 sk_68 rfl d_Reader_tellsBeyondCounty_33 ?_
  refine N_callVI [] [.int z9] cv_Reader_75 sk_69 rfl d_Reader_tellsBeyondCounty_36 rfl (Nat.le_of_ble_eq_true rfl) (by decide) (by decide) (c_Land_allBitsX_4 h hI w wZ wE wK g gZ gE gK) (fun z10 h11 z10Z z10E p12 => ?_)
  obtain ⟨eh11, p12⟩ := p12
  subst eh11
  obtain ⟨cW, cWE, cWe⟩ := p12
  refine V_iconst (-1) d_Reader_tellsBeyondCounty_39 (by decide) ?_
  refine N_ixor d_Reader_tellsBeyondCounty_40 (fun z13 z13Z z13E z13e => ?_)
  refine N_iand d_Reader_tellsBeyondCounty_41 (fun z14 z14Z z14E z14e => ?_)
  have hB := bey_bits (T := T) (W := D 144 * D 145) (TB_kn t1K (hy0.1.1 1 (by decide) (by decide))) (TB_kn t2K (hy0.1.1 2 (by decide) (by decide))) (TB_kn t3K (hy0.1.1 3 (by decide) (by decide))) (TB_kn t4K (hy0.1.1 4 (by decide) (by decide))) (by assumption) (by assumption) (by assumption) (by rw [← g690, ← g691]; exact cWE) (by rw [← g690, ← g691]; have := mul24 (A := wZ) (B := gZ) (by (first | decide +kernel | omega)) (by (first | decide +kernel | omega)); omega) cWe (by assumption) (by assumption) z14E
  refine V_if_eq 49 z14E d_Reader_tellsBeyondCounty_42 (by decide) (fun c15 => ?_) (fun c15 => ?_)
  ·
    refine V_iconst 0 d_Reader_tellsBeyondCounty_49 (by decide) ?_
    exact V_zret rfl (by decide) d_Reader_tellsBeyondCounty_50 ⟨0, rfl, ⟨rfl, (Or.inr ⟨rfl, (hB.resolve_left (fun q => absurd q.1 (by (first | decide +kernel | omega)))).2⟩)⟩⟩
  ·
    refine V_iconst 1 d_Reader_tellsBeyondCounty_45 (by decide) ?_
    refine V_goto 50 d_Reader_tellsBeyondCounty_46 (by decide) ?_
    exact V_zret rfl (by decide) d_Reader_tellsBeyondCounty_50 ⟨1, rfl, ⟨rfl, (Or.inl ⟨rfl, (hB.resolve_right (fun q => absurd q.1 (by (first | decide +kernel | omega)))).2⟩)⟩⟩
def S_Reader_readAllX : List (Nat × Option Nat) := [(89, some 2), (89, some 3), (89, some 4), (89, some 5), (88, some 5), (88, some 6), (88, some 4), (91, none), (92, none), (69, none), (70, none), (71, none), (72, none), (73, none), (74, none), (76, none), (68, some 3), (68, some 4), (75, some 4), (77, none), (78, none), (79, none), (80, some 4)]
abbrev q_Reader_readAllX (h : Hp) (b : Int → Int) (s : Int32) (sZ : Int) : Option Value → Hp → Prop := pInt (fun r h' => Inv h' ∧ fr S_Reader_readAllX h h' ∧ ∃ (e : Int32) (eZ : Int), e.toInt = eZ ∧ h'.1 88 6 = e ∧ (∃ n : Nat, x_tx b sZ r eZ n ∧ (eZ = 0 ∧ 0 ≤ r.toInt ∧ RC h' (x_st b n).1 (x_st b n).2.1 ∨ eZ ≠ 0 ∧ r.toInt < 0)))
set_option maxRecDepth 100000 in
theorem c_Reader_readAllX (h : Hp) (b : Int → Int) (hI : Inv h) (s : Int32) (sZ : Int) (sE : s.toInt = sZ) (sK : h.1 89 1 = s) (hy0 : TP h 90 sZ b) : Ct y_Reader_readAll b_Reader_readAll 2 (some .int) 8 171 [.ref 88] h (q_Reader_readAllX h b s sZ) := by
  refine ct_ow R_Reader [some (.ref 88), none] rfl (by decide) rfl (Nat.le_of_ble_eq_true rfl) ?_
  have f0 : fr S_Reader_readAllX h h := fr_rf
  have g1 : 0 ≤ sZ ∧ sZ ≤ 160 := inv_at hI sE sK.symm rfl
  refine V_aload_n 0 d_Reader_readAll_0 rfl rfl ?_
  refine V_getR fa_Reader_21 sk_88 rfl d_Reader_readAll_1 ?_
  refine N_callVV [] [] cv_Reader_32 sk_68 rfl d_Reader_readAll_4 rfl (Nat.le_of_ble_eq_true rfl) (by decide) (by decide) (c_County_resetX_4 h hI) (fun h3 p4 => ?_)
  obtain ⟨hI5, fh3, p4⟩ := p4
  have f6 : fr S_Reader_readAllX h h3 := fr_call f0 fh3 rfl
  have qC := p4
  refine V_aload_n 0 d_Reader_readAll_7 rfl rfl ?_
  refine V_getR fa_Reader_29 sk_88 rfl d_Reader_readAll_8 ?_
  refine V_iconst 0 d_Reader_readAll_11 (by decide) ?_
  refine N_callSV [.ref 92, .int 0] [] cs_Reader_35 d_Reader_readAll_12 rfl (Nat.le_of_ble_eq_true rfl) (by decide) (by decide) (c_fillX_92 h3 hI5 0 0 tc_0) (fun h8 p9 => ?_)
  obtain ⟨hI10, fh8, p9⟩ := p9
  have f11 : fr S_Reader_readAllX h h8 := fr_call f6 fh8 rfl
  have qR : RC h8 x_T0 x_D0 := RC_first (RCd_fr fh8 rfl qC) p9
  refine V_aload_n 0 d_Reader_readAll_15 rfl rfl ?_
  refine V_iconst 0 d_Reader_readAll_16 (by decide) ?_
  refine N_putI fp_Reader_41 sk_88 rfl d_Reader_readAll_17 (fun h12 eh12 => ?_)
  have hI13 : Inv h12 := inv_full hI10 eh12 rfl
  have f14 : fr S_Reader_readAllX h h12 := fr_put f11 eh12 rfl
  have R15 : RC h12 x_T0 x_D0 := RC_ne eh12 (by decide) qR
  refine V_aload_n 0 d_Reader_readAll_20 rfl rfl ?_
  refine V_getR fa_Reader_12 sk_88 rfl d_Reader_readAll_21 ?_
  refine N_callVV [] [] cv_Reader_45 sk_89 rfl d_Reader_readAll_24 rfl (Nat.le_of_ble_eq_true rfl) (by decide) (by decide) (c_Tape_rewindX h12 hI13) (fun h17 p18 => ?_)
  obtain ⟨hI19, fh17, o21, o21Z, o21E, o21K, p18⟩ := p18
  have f20 : fr S_Reader_readAllX h h17 := fr_call f14 fh17 rfl
  have R22 : RC h17 x_T0 x_D0 := RC_fr fh17 rfl R15
  have g23 : 0 ≤ o21Z ∧ o21Z ≤ 160 := inv_at hI19 o21E o21K.symm rfl
  refine V_aload_n 0 d_Reader_readAll_27 rfl rfl ?_
  refine V_getR fa_Reader_12 sk_88 rfl d_Reader_readAll_28 ?_
  refine N_callVV [] [] cv_Reader_48 sk_89 rfl d_Reader_readAll_31 rfl (Nat.le_of_ble_eq_true rfl) (by decide) (by decide) (c_Tape_advanceX h17 b hI19 s sZ sE (kn_call fh17 (kn_ne eh12 (kn_call fh8 (kn_call fh3 sK rfl) rfl) (by decide)) rfl) o21 o21Z o21E o21K (TP_fr f20 (fun _ => rfl) hy0) (by (first | decide +kernel | omega))) (fun h25 p26 => ?_)
  obtain ⟨hI27, fh25, o29, o29Z, o29E, o29K, o30, o30Z, o30E, o30K, o31, o31Z, o31E, o31K, o32, o32Z, o32E, o32K, p26⟩ := p26
  have f28 : fr S_Reader_readAllX h h25 := fr_call f20 fh25 rfl
  have g33 : x_kd b o21Z = x_kd b 0 := congrArg (x_kd b) (by (first | decide +kernel | omega))
  have g34 : x_fr b o21Z = x_fr b 0 := congrArg (x_fr b) (by (first | decide +kernel | omega))
  have g35 : x_en b o21Z = x_en b 0 := congrArg (x_en b) (by (first | decide +kernel | omega))
  have R36 : RC h25 x_T0 x_D0 := RC_fr fh25 rfl R22
  have g37 : 0 ≤ o30Z ∧ o30Z ≤ 160 := inv_at hI27 o30E o30K.symm rfl
  have g38 : 0 ≤ o31Z ∧ o31Z ≤ 160 := inv_at hI27 o31E o31K.symm rfl
  refine V_iconst 0 d_Reader_readAll_34 (by decide) ?_
  refine V_istore_n 1 [some (.ref 88), some (.int 0)] d_Reader_readAll_35 rfl (by decide) rfl rfl ?_
  obtain ⟨z44, z44Z, z44E, z44e⟩ : ∃ (y : Int32) (Y : Int), y.toInt = Y ∧ y = h25.1 88 5 := ⟨_, _, rfl, rfl⟩
  have L39 : ∀ (nn : Nat) (v41 : Int32) (v41Z : Int) (h42 : Hp) (v45 : Int32) (v45Z : Int) (v47 : Int32) (v47Z : Int) (v49 : Int32) (v49Z : Int) (v51 : Int32) (v51Z : Int) (v53 : Int32) (v53Z : Int), v41.toInt = v41Z → Inv h42 → fr S_Reader_readAllX h h42 → h42.1 89 1 = s → v45.toInt = v45Z → h42.1 89 2 = v45 → v47.toInt = v47Z → h42.1 89 3 = v47 → v49.toInt = v49Z → h42.1 89 4 = v49 → v51.toInt = v51Z → h42.1 88 5 = v51 → v53.toInt = v53Z → h42.1 88 6 = v53 → 0 ≤ v41Z ∧ v41Z ≤ 160 → CIx b h42 sZ v41Z v45Z v47Z v49Z → v53Z = 0 ∧ 0 ≤ v47Z ∧ v49Z ≤ sZ → 160 - v41Z < (nn : Int) → V R_Reader b_Reader_readAll 2 (some .int) 8 171 (q_Reader_readAllX h b s sZ) h42 36 [some (.ref 88), some (.int v41)] [] := by
    intro nn
    induction nn with
    | zero => intro v41 v41Z h42 v45 v45Z v47 v47Z v49 v49Z v51 v51Z v53 v53Z v41E Ih42 Fh42 K43 v45E K46 v47E K48 v49E K50 v51E K52 v53E K54 q55 q56 q57 hm58; exact absurd hm58 (by (first | decide +kernel | omega))
    | succ nn ihL39 =>
      intro v41 v41Z h42 v45 v45Z v47 v47Z v49 v49Z v51 v51Z v53 v53Z v41E Ih42 Fh42 K43 v45E K46 v47E K48 v49E K50 v51E K52 v53E K54 q55 q56 q57 hm58
      have g59 : 0 ≤ v47Z ∧ v47Z ≤ 160 := inv_at Ih42 v47E K48.symm rfl
      have g60 : 0 ≤ v49Z ∧ v49Z ≤ 160 := inv_at Ih42 v49E K50.symm rfl
      refine V_iload_n 1 d_Reader_readAll_36 rfl rfl ?_
      refine V_sipush 160 d_Reader_readAll_37 (by decide) ?_
      refine V_icmp_ge 73 v41E tc_160 d_Reader_readAll_40 (by decide) (fun c61 => ?_) (fun c61 => ?_)
      ·
        obtain ⟨n, hn, hk, hR, hx⟩ := (show CIx b h42 sZ v41Z v45Z v47Z v49Z from by assumption)
        have hk0 : x_kd b (x_st b n).2.2 = 0 := by (first | decide +kernel | omega)
        have hg := x_good_k n hk
        unfold x_good at hg
        refine V_aload_n 0 d_Reader_readAll_73 rfl rfl ?_
        refine N_getK fa_Reader_41 sk_88 rfl d_Reader_readAll_74 K54 ?_
        refine V_if_ne 101 v53E d_Reader_readAll_77 (by decide) (fun c62 => ?_) (fun c62 => ?_)
        ·
          exact absurd c62 (by (first | decide +kernel | omega))
        ·
          refine V_aload_n 0 d_Reader_readAll_80 rfl rfl ?_
          obtain ⟨z63, z63Z, z63E, z63e⟩ : ∃ (y : Int32) (Y : Int), y.toInt = Y ∧ y = h42.1 69 0 := ⟨_, _, rfl, rfl⟩
          have g64 : 2 ≤ z63Z ∧ z63Z ≤ 4 := inv_at Ih42 z63E z63e rfl
          obtain ⟨z65, z65Z, z65E, z65e⟩ : ∃ (y : Int32) (Y : Int), y.toInt = Y ∧ y = h42.1 69 1 := ⟨_, _, rfl, rfl⟩
          have g66 : 2 ≤ z65Z ∧ z65Z ≤ 4 := inv_at Ih42 z65E z65e rfl
          obtain ⟨z67, z67Z, z67E, z67e⟩ : ∃ (y : Int32) (Y : Int), y.toInt = Y ∧ y = h42.1 92 1 := ⟨_, _, rfl, rfl⟩
          obtain ⟨z68, z68Z, z68E, z68e⟩ : ∃ (y : Int32) (Y : Int), y.toInt = Y ∧ y = h42.1 92 2 := ⟨_, _, rfl, rfl⟩
          obtain ⟨z69, z69Z, z69E, z69e⟩ : ∃ (y : Int32) (Y : Int), y.toInt = Y ∧ y = h42.1 92 3 := ⟨_, _, rfl, rfl⟩
          obtain ⟨z70, z70Z, z70E, z70e⟩ : ∃ (y : Int32) (Y : Int), y.toInt = Y ∧ y = h42.1 92 4 := ⟨_, _, rfl, rfl⟩
          refine N_callVI [] [] cv_Reader_58 sk_88 rfl d_Reader_readAll_81 rfl (Nat.le_of_ble_eq_true rfl) (by decide) (by decide) (c_Reader_tellsBeyondX h42 (x_st b n).1 (x_st b n).2.1 Ih42 z63 z63Z z63E z63e.symm z65 z65Z z65E z65e.symm z67 z67Z z67E z67e.symm z68 z68Z z68E z68e.symm z69 z69Z z69E z69e.symm z70 z70Z z70E z70e.symm hR (by (first | decide +kernel | omega))) (fun z71 h72 z71Z z71E p73 => ?_)
          obtain ⟨eh72, p73⟩ := p73
          subst eh72
          refine V_if_eq 101 z71E d_Reader_readAll_84 (by decide) (fun c74 => ?_) (fun c74 => ?_)
          ·
            have hB := (p73.resolve_left (fun q => absurd q.1 (by (first | decide +kernel | omega)))).2
            refine V_aload_n 0 d_Reader_readAll_101 rfl rfl ?_
            refine N_getK fa_Reader_41 sk_88 rfl d_Reader_readAll_102 K54 ?_
            refine V_if_ne 112 v53E d_Reader_readAll_105 (by decide) (fun c75 => ?_) (fun c75 => ?_)
            ·
              exact absurd c75 (by (first | decide +kernel | omega))
            ·
              refine V_iload_n 1 d_Reader_readAll_108 rfl rfl ?_
              refine V_goto 119 d_Reader_readAll_109 (by decide) ?_
              exact V_iret rfl d_Reader_readAll_119 ⟨v41, rfl, ⟨Ih42, Fh42, v53, v53Z, v53E, K54, ⟨n, ⟨⟨hk, Or.inl hk0⟩, Or.inl ⟨hk0, hB, by rw [v41E]; omega, by (first | decide +kernel | omega)⟩⟩, Or.inl ⟨by (first | decide +kernel | omega), by rw [v41E]; omega, hR⟩⟩⟩⟩
          ·
            have hB := (p73.resolve_right (fun q => absurd q.1 (by (first | decide +kernel | omega)))).2
            clear p73
            refine V_aload_n 0 d_Reader_readAll_87 rfl rfl ?_
            refine V_bipush 6 d_Reader_readAll_88 (by decide) ?_
            refine V_aload_n 0 d_Reader_readAll_90 rfl rfl ?_
            refine V_getR fa_Reader_12 sk_88 rfl d_Reader_readAll_91 ?_
            refine N_getK fa_Reader_61 sk_89 rfl d_Reader_readAll_94 K43 ?_
            refine N_callVI [.int 6, .int s] [] cv_Reader_64 sk_88 rfl d_Reader_readAll_97 rfl (Nat.le_of_ble_eq_true rfl) (by decide) (by decide) (c_Reader_isRefusedX h42 Ih42 6 6 tc_6 s sZ sE) (fun z76 h77 z76Z z76E p78 => ?_)
            obtain ⟨hI79, fh77, o81, o81Z, o81E, o81K, o82, o82Z, o82E, o82K, p78⟩ := p78
            have f80 : fr S_Reader_readAllX h h77 := fr_call Fh42 fh77 rfl
            have R83 : RC h77 ((x_st b n).1) ((x_st b n).2.1) := RC_fr fh77 rfl hR
            refine V_pop d_Reader_readAll_100 rfl ?_
            refine V_aload_n 0 d_Reader_readAll_101 rfl rfl ?_
            refine N_getK fa_Reader_41 sk_88 rfl d_Reader_readAll_102 o81K ?_
            refine V_if_ne 112 o81E d_Reader_readAll_105 (by decide) (fun c84 => ?_) (fun c84 => ?_)
            ·
              refine V_bipush (-10) d_Reader_readAll_112 (by decide) ?_
              refine V_aload_n 0 d_Reader_readAll_114 rfl rfl ?_
              refine N_getK fa_Reader_68 sk_88 rfl d_Reader_readAll_115 o82K ?_
              refine N_isubw d_Reader_readAll_118 (fun z85 z85Z z85E z85e => ?_)
              exact V_iret rfl d_Reader_readAll_119 ⟨z85, rfl, ⟨hI79, f80, o81, o81Z, o81E, o81K, ⟨n, ⟨⟨hk, Or.inl hk0⟩, Or.inr (Or.inl ⟨hk0, hB, by (first | decide +kernel | omega), o82, by rw [o82E]; omega, by assumption⟩)⟩, Or.inr ⟨by (first | decide +kernel | omega), neg_ten (by assumption) o82E (by (first | decide +kernel | omega))⟩⟩⟩⟩
            ·
              exact absurd c84 (by (first | decide +kernel | omega))
      ·
        obtain ⟨n, hn, hk, hR, hx⟩ := (show CIx b h42 sZ v41Z v45Z v47Z v49Z from by assumption)
        refine V_aload_n 0 d_Reader_readAll_43 rfl rfl ?_
        refine V_getR fa_Reader_12 sk_88 rfl d_Reader_readAll_44 ?_
        refine N_getK fa_Reader_51 sk_89 rfl d_Reader_readAll_47 K46 ?_
        refine V_if_eq 73 v45E d_Reader_readAll_50 (by decide) (fun c86 => ?_) (fun c86 => ?_)
        ·
          have hk0 : x_kd b (x_st b n).2.2 = 0 := by (first | decide +kernel | omega)
          have hg := x_good_k n hk
          unfold x_good at hg
          refine V_aload_n 0 d_Reader_readAll_73 rfl rfl ?_
          refine N_getK fa_Reader_41 sk_88 rfl d_Reader_readAll_74 K54 ?_
          refine V_if_ne 101 v53E d_Reader_readAll_77 (by decide) (fun c87 => ?_) (fun c87 => ?_)
          ·
            exact absurd c87 (by (first | decide +kernel | omega))
          ·
            refine V_aload_n 0 d_Reader_readAll_80 rfl rfl ?_
            obtain ⟨z88, z88Z, z88E, z88e⟩ : ∃ (y : Int32) (Y : Int), y.toInt = Y ∧ y = h42.1 69 0 := ⟨_, _, rfl, rfl⟩
            have g89 : 2 ≤ z88Z ∧ z88Z ≤ 4 := inv_at Ih42 z88E z88e rfl
            obtain ⟨z90, z90Z, z90E, z90e⟩ : ∃ (y : Int32) (Y : Int), y.toInt = Y ∧ y = h42.1 69 1 := ⟨_, _, rfl, rfl⟩
            have g91 : 2 ≤ z90Z ∧ z90Z ≤ 4 := inv_at Ih42 z90E z90e rfl
            obtain ⟨z92, z92Z, z92E, z92e⟩ : ∃ (y : Int32) (Y : Int), y.toInt = Y ∧ y = h42.1 92 1 := ⟨_, _, rfl, rfl⟩
            obtain ⟨z93, z93Z, z93E, z93e⟩ : ∃ (y : Int32) (Y : Int), y.toInt = Y ∧ y = h42.1 92 2 := ⟨_, _, rfl, rfl⟩
            obtain ⟨z94, z94Z, z94E, z94e⟩ : ∃ (y : Int32) (Y : Int), y.toInt = Y ∧ y = h42.1 92 3 := ⟨_, _, rfl, rfl⟩
            obtain ⟨z95, z95Z, z95E, z95e⟩ : ∃ (y : Int32) (Y : Int), y.toInt = Y ∧ y = h42.1 92 4 := ⟨_, _, rfl, rfl⟩
            refine N_callVI [] [] cv_Reader_58 sk_88 rfl d_Reader_readAll_81 rfl (Nat.le_of_ble_eq_true rfl) (by decide) (by decide) (c_Reader_tellsBeyondX h42 (x_st b n).1 (x_st b n).2.1 Ih42 z88 z88Z z88E z88e.symm z90 z90Z z90E z90e.symm z92 z92Z z92E z92e.symm z93 z93Z z93E z93e.symm z94 z94Z z94E z94e.symm z95 z95Z z95E z95e.symm hR (by (first | decide +kernel | omega))) (fun z96 h97 z96Z z96E p98 => ?_)
            obtain ⟨eh97, p98⟩ := p98
            subst eh97
            refine V_if_eq 101 z96E d_Reader_readAll_84 (by decide) (fun c99 => ?_) (fun c99 => ?_)
            ·
              have hB := (p98.resolve_left (fun q => absurd q.1 (by (first | decide +kernel | omega)))).2
              refine V_aload_n 0 d_Reader_readAll_101 rfl rfl ?_
              refine N_getK fa_Reader_41 sk_88 rfl d_Reader_readAll_102 K54 ?_
              refine V_if_ne 112 v53E d_Reader_readAll_105 (by decide) (fun c100 => ?_) (fun c100 => ?_)
              ·
                exact absurd c100 (by (first | decide +kernel | omega))
              ·
                refine V_iload_n 1 d_Reader_readAll_108 rfl rfl ?_
                refine V_goto 119 d_Reader_readAll_109 (by decide) ?_
                exact V_iret rfl d_Reader_readAll_119 ⟨v41, rfl, ⟨Ih42, Fh42, v53, v53Z, v53E, K54, ⟨n, ⟨⟨hk, Or.inl hk0⟩, Or.inl ⟨hk0, hB, by rw [v41E]; omega, by (first | decide +kernel | omega)⟩⟩, Or.inl ⟨by (first | decide +kernel | omega), by rw [v41E]; omega, hR⟩⟩⟩⟩
            ·
              have hB := (p98.resolve_right (fun q => absurd q.1 (by (first | decide +kernel | omega)))).2
              clear p98
              refine V_aload_n 0 d_Reader_readAll_87 rfl rfl ?_
              refine V_bipush 6 d_Reader_readAll_88 (by decide) ?_
              refine V_aload_n 0 d_Reader_readAll_90 rfl rfl ?_
              refine V_getR fa_Reader_12 sk_88 rfl d_Reader_readAll_91 ?_
              refine N_getK fa_Reader_61 sk_89 rfl d_Reader_readAll_94 K43 ?_
              refine N_callVI [.int 6, .int s] [] cv_Reader_64 sk_88 rfl d_Reader_readAll_97 rfl (Nat.le_of_ble_eq_true rfl) (by decide) (by decide) (c_Reader_isRefusedX h42 Ih42 6 6 tc_6 s sZ sE) (fun z101 h102 z101Z z101E p103 => ?_)
              obtain ⟨hI104, fh102, o106, o106Z, o106E, o106K, o107, o107Z, o107E, o107K, p103⟩ := p103
              have f105 : fr S_Reader_readAllX h h102 := fr_call Fh42 fh102 rfl
              have R108 : RC h102 ((x_st b n).1) ((x_st b n).2.1) := RC_fr fh102 rfl hR
              refine V_pop d_Reader_readAll_100 rfl ?_
              refine V_aload_n 0 d_Reader_readAll_101 rfl rfl ?_
              refine N_getK fa_Reader_41 sk_88 rfl d_Reader_readAll_102 o106K ?_
              refine V_if_ne 112 o106E d_Reader_readAll_105 (by decide) (fun c109 => ?_) (fun c109 => ?_)
              ·
                refine V_bipush (-10) d_Reader_readAll_112 (by decide) ?_
                refine V_aload_n 0 d_Reader_readAll_114 rfl rfl ?_
                refine N_getK fa_Reader_68 sk_88 rfl d_Reader_readAll_115 o107K ?_
                refine N_isubw d_Reader_readAll_118 (fun z110 z110Z z110E z110e => ?_)
                exact V_iret rfl d_Reader_readAll_119 ⟨z110, rfl, ⟨hI104, f105, o106, o106Z, o106E, o106K, ⟨n, ⟨⟨hk, Or.inl hk0⟩, Or.inr (Or.inl ⟨hk0, hB, by (first | decide +kernel | omega), o107, by rw [o107E]; omega, by assumption⟩)⟩, Or.inr ⟨by (first | decide +kernel | omega), neg_ten (by assumption) o107E (by (first | decide +kernel | omega))⟩⟩⟩⟩
              ·
                exact absurd c109 (by (first | decide +kernel | omega))
        ·
          refine V_aload_n 0 d_Reader_readAll_53 rfl rfl ?_
          refine N_callVI [] [] cv_Reader_54 sk_88 rfl d_Reader_readAll_54 rfl (Nat.le_of_ble_eq_true rfl) (by decide) (by decide) (c_Reader_readLineX h42 b (x_st b n).1 (x_st b n).2.1 (x_st b n).2.2 Ih42 s sZ sE K43 v45 v45Z v45E K46 v47 v47Z v47E K48 v49 v49Z v49E K50 v51 v51Z v51E K52 v53 v53Z v53E K54 (TP_fr Fh42 (fun _ => rfl) hy0) (by (first | decide +kernel | omega)) hR (by (first | decide +kernel | omega))) (fun z111 h112 z111Z z111E p113 => ?_)
          obtain ⟨hI114, fh112, o116, o116Z, o116E, o116K, o117, o117Z, o117E, o117K, o118, o118Z, o118E, o118K, p113⟩ := p113
          have f115 : fr S_Reader_readAllX h h112 := fr_call Fh42 fh112 rfl
          have g119 : 0 ≤ o116Z ∧ o116Z ≤ 160 := inv_at hI114 o116E o116K.symm rfl
          refine V_if_eq 73 z111E d_Reader_readAll_57 (by decide) (fun c120 => ?_) (fun c120 => ?_)
          ·
            obtain ⟨p113r, hpl, p1130⟩ := p113.resolve_left (fun q => absurd q.1 (by (first | decide +kernel | omega)))
            clear p113
            have hpb := x_line_b b (x_st b n).1 ((x_st b n).2.1 86) (p := (x_st b n).2.2) (by (first | decide +kernel | omega))
            rw [hpl] at hpb
            replace hpb : 0 ≤ o118Z ∧ o118Z ≤ (x_st b n).2.2 + 3000 := hpb
            refine V_aload_n 0 d_Reader_readAll_73 rfl rfl ?_
            refine N_getK fa_Reader_41 sk_88 rfl d_Reader_readAll_74 o117K ?_
            refine V_if_ne 101 o117E d_Reader_readAll_77 (by decide) (fun c121 => ?_) (fun c121 => ?_)
            ·
              refine V_aload_n 0 d_Reader_readAll_101 rfl rfl ?_
              refine N_getK fa_Reader_41 sk_88 rfl d_Reader_readAll_102 o117K ?_
              refine V_if_ne 112 o117E d_Reader_readAll_105 (by decide) (fun c122 => ?_) (fun c122 => ?_)
              ·
                refine V_bipush (-10) d_Reader_readAll_112 (by decide) ?_
                refine V_aload_n 0 d_Reader_readAll_114 rfl rfl ?_
                refine N_getK fa_Reader_68 sk_88 rfl d_Reader_readAll_115 o118K ?_
                refine N_isubw d_Reader_readAll_118 (fun z123 z123Z z123E z123e => ?_)
                exact V_iret rfl d_Reader_readAll_119 ⟨z123, rfl, ⟨hI114, f115, o117, o117Z, o117E, o117K, ⟨n, ⟨⟨hk, Or.inr (by unfold x_lk; rw [hpl]; show o117Z ≠ 0; omega)⟩, Or.inr (Or.inr ⟨by (first | decide +kernel | omega), by unfold x_lk; rw [hpl], by (first | decide +kernel | omega), o118, by unfold x_lk; rw [hpl]; exact o118E, by assumption⟩)⟩, Or.inr ⟨by (first | decide +kernel | omega), neg_ten (by assumption) o118E (by (first | decide +kernel | omega))⟩⟩⟩⟩
              ·
                exact absurd c122 (by (first | decide +kernel | omega))
            ·
              exact absurd c121 (by (first | decide +kernel | omega))
          ·
            obtain ⟨p113r, hpl, p1130, p1131, p1132, hpR⟩ := p113.resolve_right (fun q => absurd q.1 (by (first | decide +kernel | omega)))
            clear p113
            obtain ⟨z124, z124E, z124e⟩ : ∃ y : Int32, y.toInt = v41Z + 1 ∧ y = v41 + Int32.ofInt 1 := ⟨_, ti_add v41E (by decide) (by (first | decide +kernel | omega)), rfl⟩
            refine V_iinc 1 [some (.ref 88), some (.int z124)] d_Reader_readAll_60 rfl z124e.symm (by decide) rfl rfl ?_
            refine V_aload_n 0 d_Reader_readAll_63 rfl rfl ?_
            refine V_getR fa_Reader_12 sk_88 rfl d_Reader_readAll_64 ?_
            refine N_callVV [] [] cv_Reader_48 sk_89 rfl d_Reader_readAll_67 rfl (Nat.le_of_ble_eq_true rfl) (by decide) (by decide) (c_Tape_advanceX h112 b hI114 s sZ sE (kn_call fh112 K43 rfl) o116 o116Z o116E o116K (TP_fr f115 (fun _ => rfl) hy0) (by (first | decide +kernel | omega))) (fun h126 p127 => ?_)
            obtain ⟨hI128, fh126, o130, o130Z, o130E, o130K, o131, o131Z, o131E, o131K, o132, o132Z, o132E, o132K, o133, o133Z, o133E, o133K, p127⟩ := p127
            have f129 : fr S_Reader_readAllX h h126 := fr_call f115 fh126 rfl
            have R134 : RC h126 ((x_T b (x_st b n).1 (x_st b n).2.2)) ((x_D b (x_st b n).2.1 (x_st b n).2.2)) := RC_fr fh126 rfl hpR
            have g135 : 0 ≤ o131Z ∧ o131Z ≤ 160 := inv_at hI128 o131E o131K.symm rfl
            have g136 : 0 ≤ o132Z ∧ o132Z ≤ 160 := inv_at hI128 o132E o132K.symm rfl
            refine V_goto 36 d_Reader_readAll_70 (by decide) ?_
            exact ihL39 z124 ((v41Z + 1)) h126 o130 o130Z o131 o131Z o132 o132Z o118 o118Z o117 o117Z z124E hI128 f129 (kn_call fh126 (kn_call fh112 K43 rfl) rfl) o130E o130K o131E o131K o132E o132K o118E (kn_call fh126 o118K rfl) o117E (kn_call fh126 o117K rfl) (by (first | decide +kernel | omega)) (by rw [show (v41Z + 1) = (n : Int) + 1 by (first | decide +kernel | omega)]; exact CIx_step hk (by (first | decide +kernel | omega)) hpl (by (first | decide +kernel | omega)) R134 (by (first | decide +kernel | omega)) (by (first | decide +kernel | omega)) (by (first | decide +kernel | omega)) (by (first | decide +kernel | omega)) (by (first | decide +kernel | omega)) (by (first | decide +kernel | omega)) (by (first | decide +kernel | omega))) (by (first | decide +kernel | omega)) (by (first | decide +kernel | omega))
  exact L39 (Int.toNat ((160 - 0 : Int) + 1)) 0 0 h25 o29 o29Z o30 o30Z o31 o31Z z44 z44Z 0 0 tc_0 hI27 f28 (kn_call fh25 (kn_call fh17 (kn_ne eh12 (kn_call fh8 (kn_call fh3 sK rfl) rfl) (by decide)) rfl) rfl) o29E o29K o30E o30K o31E o31K z44E z44e.symm tc_0 (kn_call fh25 (kn_call fh17 (kn_put eh12) rfl) rfl) (by (first | decide +kernel | omega)) ⟨0, rfl, x_ok_0 b, R36, by show _ = x_kd b 0; omega, by show _ = x_fr b 0; omega, by show _ ∨ _ = x_en b 0; omega, by (first | decide +kernel | omega), by (first | decide +kernel | omega), by (first | decide +kernel | omega), Int.le_refl 0, by show (0 : Int) ≤ _; omega⟩ (by (first | decide +kernel | omega)) (by (first | decide +kernel | omega))
