section
theorem x_TB_0 : x_TB 0 (fun _ => 0) := by
  refine ⟨fun c h0 h1 => ?_, fun i _ => ?_⟩
  · obtain ⟨n, rfl⟩ := Int.eq_ofNat_of_zero_le h0
    rw [x_bt_get 0 (by (first | decide +kernel | omega)), show (0 : Int32).toBitVec.getLsbD n = false from BitVec.getLsbD_zero]
    rfl
  · exact BitVec.getLsbD_zero
def fz (h : Hp) (k : Int) : Prop := ∀ j : Nat, (j : Int) < k → (h.1 119 j).toInt = 0
def fy (h : Hp) (k : Int) : Prop := ∀ j : Nat, j < 144 → (h.1 119 j).toInt = if 32 ≤ (j : Int) ∧ (j : Int) < 32 + k then 5 else if 48 ≤ (j : Int) ∧ (j : Int) < 48 + k then -4 else 0
def fd (h : Hp) : Prop := ∀ j : Nat, j < 144 → (h.1 119 j).toInt = x_D0 j
def fh (h : Hp) (k : Int) : Prop := ∀ j : Nat, (j : Int) < k → h.1 120 j = 0
theorem fz_0 {h : Hp} : fz h 0 := fun j hj => by (first | decide +kernel | omega)
theorem fz_s {h h' : Hp} {k : Int} {x : Int32} (r : fz h k) (h0 : 0 ≤ k) (e : h' = pI h 119 k.toNat x) (hx : x.toInt = 0) : fz h' (k + 1) := fun j hj => by
  by_cases q : j = k.toNat
  · rw [q, kn_put e]; exact hx
  · rw [kn_nei e rfl q]; exact r j (by (first | decide +kernel | omega))
theorem fy_0 {h : Hp} {k : Int} (r : fz h k) (hk : 144 ≤ k) : fy h 0 := fun j hj => by
  rw [if_neg (by (first | decide +kernel | omega)), if_neg (by (first | decide +kernel | omega))]
  exact r j (by (first | decide +kernel | omega))
theorem fy_s {h h1 h2 : Hp} {k : Int} {x y : Int32} (r : fy h k) (h0 : 0 ≤ k ∧ k < 16) (e : h1 = pI h 119 (32 + k).toNat x) (e2 : h2 = pI h1 119 (48 + k).toNat y) (hx : x.toInt = 5) (hy : y.toInt = -4) : fy h2 (k + 1) := fun j hj => by
  by_cases q : j = (48 + k).toNat
  · rw [q, kn_put e2, if_neg (by (first | decide +kernel | omega)), if_pos (by (first | decide +kernel | omega))]; exact hy
  · rw [kn_nei e2 rfl q]
    by_cases q2 : j = (32 + k).toNat
    · rw [q2, kn_put e, if_pos (by (first | decide +kernel | omega))]; exact hx
    · rw [kn_nei e rfl q2, r j hj]
      by_cases c1 : 32 ≤ (j : Int) ∧ (j : Int) < 32 + k
      · rw [if_pos c1, if_pos (by (first | decide +kernel | omega))]
      · rw [if_neg c1, if_neg (show ¬ (32 ≤ (j : Int) ∧ (j : Int) < 32 + (k + 1)) by (first | decide +kernel | omega))]
        by_cases c2 : 48 ≤ (j : Int) ∧ (j : Int) < 48 + k
        · rw [if_pos c2, if_pos (by (first | decide +kernel | omega))]
        · rw [if_neg c2, if_neg (by (first | decide +kernel | omega))]
theorem fd_85 {h h' : Hp} {k : Int} {x : Int32} (r : fy h k) (hk : k = 16) (e : h' = pI h 119 85 x) (hx : x.toInt = 9) : fd h' := fun j hj => by
  subst hk
  unfold x_D0
  by_cases q : j = 85
  · subst q
    rw [kn_put e, if_neg (by (first | decide +kernel | omega)), if_neg (by (first | decide +kernel | omega)), if_pos rfl]
    exact hx
  · rw [kn_nei e rfl q, r j hj]
    by_cases c1 : 32 ≤ j ∧ j < 48
    · rw [if_pos c1, if_pos (by (first | decide +kernel | omega))]
    · rw [if_neg c1, if_neg (by (first | decide +kernel | omega))]
      by_cases c2 : 48 ≤ j ∧ j < 64
      · rw [if_pos c2, if_pos (by (first | decide +kernel | omega))]
      · rw [if_neg c2, if_neg (by (first | decide +kernel | omega)), if_neg q, if_neg (by (first | decide +kernel | omega)), if_neg (by (first | decide +kernel | omega)), if_neg (by (first | decide +kernel | omega))]
theorem fd_ne {h h' : Hp} {k i : Nat} {x : Int32} (r : fd h) (e : h' = pI h k i x) (hk : 119 ≠ k) : fd h' := fun j hj => by rw [kn_ne e rfl hk]; exact r j hj
theorem fh_0 {h : Hp} : fh h 0 := fun j hj => by (first | decide +kernel | omega)
theorem fh_s {h h' : Hp} {k : Int} {x : Int32} (r : fh h k) (h0 : 0 ≤ k) (e : h' = pI h 120 k.toNat x) (hx : x = 0) : fh h' (k + 1) := fun j hj => by
  by_cases q : j = k.toNat
  · rw [q, kn_put e]; exact hx
  · rw [kn_nei e rfl q]; exact r j (by (first | decide +kernel | omega))
theorem fh_ne {h h' : Hp} {k i : Nat} {x : Int32} {n : Int} (r : fh h n) (e : h' = pI h k i x) (hk : 120 ≠ k) : fh h' n := fun j hj => by rw [kn_ne e rfl hk]; exact r j hj
theorem x_told_0 (c : Int) : x_told x_T0 c = 0 := by
  unfold x_told x_T0
  repeat' split
  all_goals rfl
theorem x_HI_0 : x_HI (-4) x_T0 := ⟨Or.inl rfl, fun l c _ _ _ _ h => absurd rfl h⟩
theorem RM_first {h : Hp} {k : Int} (r : fd h) (g : fh h k) (hk : 6 ≤ k) (e7 : h.1 116 7 = 3) (e8 : h.1 116 8 = 3) (e9 : h.1 116 9 = 1) (e10 : h.1 116 10 = 10) (e11 : h.1 116 11 = 0) (e13 : h.1 116 13 = -4) : RM h x_T0 x_D0 := by
  refine ⟨fun l h1 h2 => ?_, ?_, ?_, fun k i d hd => ?_⟩
  · rw [g (l - 1) (by (first | decide +kernel | omega))]; exact x_TB_0
  · unfold RMb; rw [e11]; exact x_TB_cg x_told_0 x_TB_0
  · rw [e13]; exact x_HI_0
  · rcases hd with ⟨rfl, h1, rfl⟩ | ⟨rfl, h1, h2, rfl⟩
    · exact r d h1
    · rcases (by (first | decide +kernel | omega) : i = 7 ∨ i = 8 ∨ i = 9 ∨ i = 10) with rfl | rfl | rfl | rfl
      · rw [e7]; rfl
      · rw [e8]; rfl
      · rw [e9]; rfl
      · rw [e10]; rfl
/-- the reference's county is D -/
def MC (h : Hp) (D : Nat → Int) : Prop := (∀ j : Nat, j < 144 → (h.1 117 j).toInt = D j) ∧ (h.1 116 2).toInt = D 144 ∧ (h.1 116 3).toInt = D 145 ∧ (h.1 116 4).toInt = D 146 ∧ (h.1 116 5).toInt = D 147
def ky (h : Hp) (D : Nat → Int) (k : Int) : Prop := ∀ j : Nat, (j : Int) < k → (h.1 117 j).toInt = D j
def kq (h : Hp) (D : Nat → Int) : Prop := ∀ j : Nat, j < 144 → (h.1 119 j).toInt = D j
theorem ky_0 {h : Hp} {D : Nat → Int} : ky h D 0 := fun j hj => by (first | decide +kernel | omega)
theorem ky_s {h h' : Hp} {D : Nat → Int} {k : Int} {y : Int32} (r : ky h D k) (g : kq h D) (h0 : 0 ≤ k ∧ k < 144) (e : h' = pI h 117 k.toNat y) (ey : y = h.1 119 k.toNat) : ky h' D (k + 1) := fun j hj => by
  by_cases q : j = k.toNat
  · rw [q, kn_put e, ey]; exact g k.toNat (by (first | decide +kernel | omega))
  · rw [kn_nei e rfl q]; exact r j (by (first | decide +kernel | omega))
theorem kq_ne {h h' : Hp} {D : Nat → Int} {k i : Nat} {x : Int32} (r : kq h D) (e : h' = pI h k i x) (hk : 119 ≠ k) : kq h' D := fun j hj => by rw [kn_ne e rfl hk]; exact r j hj
theorem ky_ne {h h' : Hp} {D : Nat → Int} {n : Int} {k i : Nat} {x : Int32} (r : ky h D n) (e : h' = pI h k i x) (hk : 117 ≠ k) : ky h' D n := fun j hj => by rw [kn_ne e rfl hk]; exact r j hj
/-- the reference's loop over lines: m lines were counted; the TOKEN that stands is that of cells f k v q; u y: FAULT and place -/
def x_lx (b : Int → Int) (s p f k v q : Int) : Prop := f = x_fr b p ∧ k = x_kd b p ∧ k ≠ 4 ∧ 0 ≤ k ∧ k ≤ 3 ∧ q = x_en b p ∧ (k ≠ 2 ∨ v = x_vl b p ∧ 0 ≤ v ∧ v ≤ 99) ∧ p ≤ f ∧ f ≤ q ∧ q ≤ s ∧ (k = 0 ∨ f < q)
def MI (b : Int → Int) (h : Hp) (s m q f k v u y : Int) : Prop := (u = 0 ∧ ∃ n : Nat, m = n ∧ x_ok b n ∧ RM h (x_st b n).1 (x_st b n).2.1 ∧ x_lx b s (x_st b n).2.2 f k v q) ∨ (u ≠ 0 ∧ ∃ n : Nat, x_ok b n ∧ x_kd b (x_st b n).2.2 ≠ 0 ∧ x_lk b n = (u, y))
theorem MI_live {b : Int → Int} {h : Hp} {s m q f k v u y : Int} (r : MI b h s m q f k v u y) (hu : u = 0) : ∃ n : Nat, m = n ∧ x_ok b n ∧ RM h (x_st b n).1 (x_st b n).2.1 ∧ x_lx b s (x_st b n).2.2 f k v q := by
  rcases r with r | r
  · exact r.2
  · exact absurd hu r.1
theorem MI_dead {b : Int → Int} {h : Hp} {s m q f k v u y : Int} (r : MI b h s m q f k v u y) (hu : u ≠ 0) : ∃ n : Nat, x_ok b n ∧ x_kd b (x_st b n).2.2 ≠ 0 ∧ x_lk b n = (u, y) := by
  rcases r with r | r
  · exact absurd r.1 hu
  · exact r.2
theorem MI_of {b : Int → Int} {h : Hp} {s m q f k v u y p : Int} {n : Nat} (hk : x_ok b n) (hp : p = (x_st b n).2.2) (hm : m = n) (hR : RM h (x_st b n).1 (x_st b n).2.1) (r : u = 1 ∧ x_kd b p = 4 ∧ y = x_fr b p ∨ u = 0 ∧ x_lx b s p f k v q) : MI b h s m q f k v u y := by
  subst hp
  rcases r with ⟨h1, h2, h3⟩ | ⟨h1, h2⟩
  · refine Or.inr ⟨by (first | decide +kernel | omega), n, hk, by (first | decide +kernel | omega), ?_⟩
    have hH : x_cH b (x_st b n).1 ((x_st b n).2.1 86) (x_st b n).2.2 = 1 := if_pos h2
    unfold x_lk
    rw [x_line_H (by rw [hH]; decide), hH, h1, h3]
  · exact Or.inl ⟨h1, n, hm, hk, hR, h2⟩
theorem MI_step {b : Int → Int} {h : Hp} {s m q f k v u y p : Int} {n : Nat} (hk : x_ok b n) (hd : x_kd b (x_st b n).2.2 ≠ 0) (hm : m = n + 1) (r : u ≠ 0 ∧ x_line b (x_st b n).1 ((x_st b n).2.1 86) (x_st b n).2.2 = (u, y) ∨ ∃ e : Int, x_line b (x_st b n).1 ((x_st b n).2.1 86) (x_st b n).2.2 = (0, e) ∧ p < e ∧ e ≤ s ∧ RM h (x_T b (x_st b n).1 (x_st b n).2.2) (x_D b (x_st b n).2.1 (x_st b n).2.2) ∧ (u = 1 ∧ x_kd b e = 4 ∧ y = x_fr b e ∨ u = 0 ∧ x_lx b s e f k v q)) : MI b h s m q f k v u y := by
  rcases r with ⟨h1, h2⟩ | ⟨e, h1, h2, h3, h4, h5⟩
  · exact Or.inr ⟨h1, n, hk, hd, h2⟩
  · have h6 : (x_lk b n).1 = 0 := by unfold x_lk; rw [h1]
    have h7 : e = (x_st b (n + 1)).2.2 := by show e = (x_line b (x_st b n).1 ((x_st b n).2.1 86) (x_st b n).2.2).2; rw [h1]
    exact MI_of (x_ok_s hk hd h6) h7 (by (first | decide +kernel | omega)) h4 h5
def ms (u p : Int) : Int := if u = 0 then 161 - p else 0
theorem ms_or (u p : Int) : u = 0 ∧ ms u p = 161 - p ∨ u ≠ 0 ∧ ms u p = 0 := by
  unfold ms
  split
  · next h => exact Or.inl ⟨h, rfl⟩
  · next h => exact Or.inr ⟨h, rfl⟩
theorem kd_0 {b : Int → Int} {p : Int} (h : x_kd b p = 0) : b (x_fr b p) < 0 := by
  unfold x_kd at h
  split at h
  · next q => exact q
  · split at h
    · omega
    · split at h
      · split at h <;> omega
      · split at h <;> omega
theorem RM_fld {h : Hp} {T : Nat → Int → Int} {D : Nat → Int} (r : RM h T D) {i d : Nat} {x : Int32} {X : Int} (e : h.1 116 i = x) (p : x.toInt = X) (hd : 7 ≤ i ∧ i ≤ 10 ∧ d = 137 + i) : X = D d := by
  have := r.2.2.2 116 i d (Or.inr ⟨rfl, hd⟩)
  rw [e, p] at this
  exact this
/-- what the county is behind a text -/
def MK (h h' : Hp) (u : Int) (D : Nat → Int) : Prop := u = 0 ∧ MC h' D ∧ h'.1 118 0 = 0 ∧ h'.1 118 1 = 0 ∨ u ≠ 0 ∧ ∀ k i : Nat, (k = 117 ∨ k = 118 ∨ k = 116 ∧ 2 ≤ i ∧ i ≤ 5) → h'.1 k i = h.1 k i
theorem RM_kq {h : Hp} {T : Nat → Int → Int} {D : Nat → Int} (r : RM h T D) : kq h D := fun j hj => r.2.2.2 119 j j (Or.inl ⟨rfl, hj, rfl⟩)
/-- the reference's county is as it was -/
def SM (h h' : Hp) : Prop := ∀ k i : Nat, (k = 117 ∨ k = 118 ∨ k = 116 ∧ 2 ≤ i ∧ i ≤ 5) → h'.1 k i = h.1 k i
def smS (S : List (Nat × Option Nat)) : Bool := S.all (fun q => decide (q.1 ≠ 117 ∧ q.1 ≠ 118) && (decide (q.1 ≠ 116) || (match q.2 with | none => false | some j => decide (j < 2 ∨ 5 < j))))
theorem smS_no {S : List (Nat × Option Nat)} (hc : smS S = true) {k i : Nat} (hk : k = 117 ∨ k = 118 ∨ k = 116 ∧ 2 ≤ i ∧ i ≤ 5) : inS S k i = false := by
  unfold inS
  rw [List.any_eq_false]
  intro q hq e
  have h1 := List.all_eq_true.mp hc q hq
  rw [Bool.and_eq_true, Bool.or_eq_true] at h1
  rw [Bool.and_eq_true] at e
  have e2 : q.1 = k := eq_of_beq e.1
  have h2 := of_decide_eq_true h1.1
  rcases hk with rfl | rfl | hk
  · omega
  · omega
  · rcases h1.2 with h3 | h3
    · have := of_decide_eq_true h3; omega
    · have e3 := e.2
      cases hz : q.2 with
      | none => rw [hz] at h3; cases h3
      | some j =>
        rw [hz] at h3 e3
        have h4 := of_decide_eq_true h3
        have h5 : j = i := eq_of_beq e3
        omega
theorem SM_rf {h : Hp} : SM h h := fun _ _ _ => rfl
theorem SM_fr {S : List (Nat × Option Nat)} {h h1 h2 : Hp} (f : fr S h1 h2) (hc : smS S = true) (r : SM h h1) : SM h h2 := fun k i hk => (f.1 k i (smS_no hc hk)).trans (r k i hk)
theorem SM_ne {h h1 h2 : Hp} {k i : Nat} {x : Int32} (e : h2 = pI h1 k i x) (hk : ¬ (k = 117 ∨ k = 118 ∨ k = 116 ∧ 2 ≤ i ∧ i ≤ 5)) (r : SM h h1) : SM h h2 := fun k' i' h3 => by
  refine Eq.trans ?_ (r k' i' h3)
  by_cases c : k' = k
  · subst c
    exact kn_nei e rfl (fun c2 => by subst c2; exact hk h3)
  · exact kn_ne e rfl c
theorem rl_pos {b : Int → Int} {h : Hp} {s q f k v u y p : Int} {A : Prop} {B : Int → Prop} {C : Int → Prop} (r : u ≠ 0 ∧ A ∨ ∃ e : Int, B e ∧ p < e ∧ e ≤ s ∧ C e ∧ (u = 1 ∧ x_kd b e = 4 ∧ y = x_fr b e ∨ u = 0 ∧ x_lx b s e f k v q)) : u ≠ 0 ∨ p < q := by
  rcases r with ⟨h1, _⟩ | ⟨e, _, h2, _, _, h5⟩
  · exact Or.inl h1
  · rcases h5 with ⟨h6, _⟩ | ⟨_, h7⟩
    · exact Or.inl (by (first | decide +kernel | omega))
    · unfold x_lx at h7
      exact Or.inr (by (first | decide +kernel | omega))
end
section
def S_Mod_firstDraftX : List (Nat × Option Nat) := [(119, none), (120, none), (116, some 7), (116, some 8), (116, some 9), (116, some 10), (116, some 11), (116, some 13)]
abbrev q_Mod_firstDraftX (h : Hp)  : Option Value → Hp → Prop := pVd (fun h' => Inv h' ∧ fr S_Mod_firstDraftX h h' ∧ RM h' x_T0 x_D0)
set_option maxRecDepth 100000 in
theorem c_Mod_firstDraftX (h : Hp) (hI : Inv h) : Ct y_Mod_firstDraft b_Mod_firstDraft 2 none 0 0 [.ref 116] h (q_Mod_firstDraftX h ) := by
  refine ct_ow R_Mod [some (.ref 116), none] rfl (by decide) rfl (Nat.le_of_ble_eq_true rfl) ?_
  have f0 : fr S_Mod_firstDraftX h h := fr_rf
  refine V_iconst 0 d_Mod_firstDraft_0 (by decide) ?_
  refine V_istore_n 1 [some (.ref 116), some (.int 0)] d_Mod_firstDraft_1 rfl (by decide) rfl rfl ?_
  have L1 : ∀ (nn : Nat) (v3 : Int32) (v3Z : Int) (h4 : Hp), v3.toInt = v3Z → Inv h4 → fr S_Mod_firstDraftX h h4 → 0 ≤ v3Z ∧ v3Z ≤ 144 → fz h4 v3Z → 144 - v3Z < (nn : Int) → V R_Mod b_Mod_firstDraft 2 none 0 0 (q_Mod_firstDraftX h ) h4 2 [some (.ref 116), some (.int v3)] [] := by
    intro nn
    induction nn with
    | zero => intro v3 v3Z h4 v3E Ih4 Fh4 q5 q6 hm7; exact absurd hm7 (by (first | decide +kernel | omega))
    | succ nn ihL1 =>
      intro v3 v3Z h4 v3E Ih4 Fh4 q5 q6 hm7
      refine V_iload_n 1 d_Mod_firstDraft_2 rfl rfl ?_
      refine V_sipush 144 d_Mod_firstDraft_3 (by decide) ?_
      refine V_icmp_ge 22 v3E tc_144 d_Mod_firstDraft_6 (by decide) (fun c8 => ?_) (fun c8 => ?_)
      ·
        refine V_iconst 0 d_Mod_firstDraft_22 (by decide) ?_
        refine V_istore_n 1 [some (.ref 116), some (.int 0)] d_Mod_firstDraft_23 rfl (by decide) rfl rfl ?_
        have L9 : ∀ (nn : Nat) (v11 : Int32) (v11Z : Int) (h12 : Hp), v11.toInt = v11Z → Inv h12 → fr S_Mod_firstDraftX h h12 → 0 ≤ v11Z ∧ v11Z ≤ 16 → fy h12 v11Z → 16 - v11Z < (nn : Int) → V R_Mod b_Mod_firstDraft 2 none 0 0 (q_Mod_firstDraftX h ) h12 24 [some (.ref 116), some (.int v11)] [] := by
          intro nn
          induction nn with
          | zero => intro v11 v11Z h12 v11E Ih12 Fh12 q13 q14 hm15; exact absurd hm15 (by (first | decide +kernel | omega))
          | succ nn ihL9 =>
            intro v11 v11Z h12 v11E Ih12 Fh12 q13 q14 hm15
            refine V_iload_n 1 d_Mod_firstDraft_24 rfl rfl ?_
            refine V_bipush 16 d_Mod_firstDraft_25 (by decide) ?_
            refine V_icmp_ge 57 v11E tc_16 d_Mod_firstDraft_27 (by decide) (fun c16 => ?_) (fun c16 => ?_)
            ·
              refine V_aload_n 0 d_Mod_firstDraft_57 rfl rfl ?_
              refine V_getR fa_Mod_17 sk_116 rfl d_Mod_firstDraft_58 ?_
              refine V_bipush 85 d_Mod_firstDraft_61 (by decide) ?_
              refine V_bipush 9 d_Mod_firstDraft_63 (by decide) ?_
              refine N_iast sk_119 tc_85 (by (first | decide +kernel | omega)) d_Mod_firstDraft_65 (fun h17 eh17 => ?_)
              have hI18 : Inv h17 := inv_full Ih12 eh17 rfl
              have f19 : fr S_Mod_firstDraftX h h17 := fr_put Fh12 eh17 rfl
              refine V_aload_n 0 d_Mod_firstDraft_66 rfl rfl ?_
              refine V_iconst 3 d_Mod_firstDraft_67 (by decide) ?_
              refine N_putI fp_Mod_62 sk_116 rfl d_Mod_firstDraft_68 (fun h20 eh20 => ?_)
              have hI21 : Inv h20 := inv_put (lo := 0) (hi := 4) hI18 eh20 rfl tc_3 (by (first | decide +kernel | omega))
              have f22 : fr S_Mod_firstDraftX h h20 := fr_put f19 eh20 rfl
              refine V_aload_n 0 d_Mod_firstDraft_71 rfl rfl ?_
              refine V_iconst 3 d_Mod_firstDraft_72 (by decide) ?_
              refine N_putI fp_Mod_66 sk_116 rfl d_Mod_firstDraft_73 (fun h23 eh23 => ?_)
              have hI24 : Inv h23 := inv_put (lo := 0) (hi := 4) hI21 eh23 rfl tc_3 (by (first | decide +kernel | omega))
              have f25 : fr S_Mod_firstDraftX h h23 := fr_put f22 eh23 rfl
              refine V_aload_n 0 d_Mod_firstDraft_76 rfl rfl ?_
              refine V_iconst 1 d_Mod_firstDraft_77 (by decide) ?_
              refine N_putI fp_Mod_69 sk_116 rfl d_Mod_firstDraft_78 (fun h26 eh26 => ?_)
              have hI27 : Inv h26 := inv_full hI24 eh26 rfl
              have f28 : fr S_Mod_firstDraftX h h26 := fr_put f25 eh26 rfl
              refine V_aload_n 0 d_Mod_firstDraft_81 rfl rfl ?_
              refine V_bipush 10 d_Mod_firstDraft_82 (by decide) ?_
              refine N_putI fp_Mod_72 sk_116 rfl d_Mod_firstDraft_84 (fun h29 eh29 => ?_)
              have hI30 : Inv h29 := inv_full hI27 eh29 rfl
              have f31 : fr S_Mod_firstDraftX h h29 := fr_put f28 eh29 rfl
              refine V_aload_n 0 d_Mod_firstDraft_87 rfl rfl ?_
              refine V_iconst 0 d_Mod_firstDraft_88 (by decide) ?_
              refine N_putI fp_Mod_75 sk_116 rfl d_Mod_firstDraft_89 (fun h32 eh32 => ?_)
              have hI33 : Inv h32 := inv_full hI30 eh32 rfl
              have f34 : fr S_Mod_firstDraftX h h32 := fr_put f31 eh32 rfl
              refine V_iconst 0 d_Mod_firstDraft_92 (by decide) ?_
              refine V_istore_n 1 [some (.ref 116), some (.int 0)] d_Mod_firstDraft_93 rfl (by decide) rfl rfl ?_
              have L35 : ∀ (nn : Nat) (v37 : Int32) (v37Z : Int) (h38 : Hp), v37.toInt = v37Z → Inv h38 → fr S_Mod_firstDraftX h h38 → h38.1 116 7 = 3 → h38.1 116 8 = 3 → h38.1 116 9 = 1 → h38.1 116 10 = 10 → h38.1 116 11 = 0 → 0 ≤ v37Z ∧ v37Z ≤ 6 → fd h38 → fh h38 v37Z → 6 - v37Z < (nn : Int) → V R_Mod b_Mod_firstDraft 2 none 0 0 (q_Mod_firstDraftX h ) h38 94 [some (.ref 116), some (.int v37)] [] := by
                intro nn
                induction nn with
                | zero => intro v37 v37Z h38 v37E Ih38 Fh38 K39 K40 K41 K42 K43 q44 q45 q46 hm47; exact absurd hm47 (by (first | decide +kernel | omega))
                | succ nn ihL35 =>
                  intro v37 v37Z h38 v37E Ih38 Fh38 K39 K40 K41 K42 K43 q44 q45 q46 hm47
                  refine V_iload_n 1 d_Mod_firstDraft_94 rfl rfl ?_
                  refine V_bipush 6 d_Mod_firstDraft_95 (by decide) ?_
                  refine V_icmp_ge 113 v37E tc_6 d_Mod_firstDraft_97 (by decide) (fun c48 => ?_) (fun c48 => ?_)
                  ·
                    refine V_aload_n 0 d_Mod_firstDraft_113 rfl rfl ?_
                    refine V_bipush (-4) d_Mod_firstDraft_114 (by decide) ?_
                    refine N_putI fp_Mod_78 sk_116 rfl d_Mod_firstDraft_116 (fun h49 eh49 => ?_)
                    have hI50 : Inv h49 := inv_full Ih38 eh49 rfl
                    have f51 : fr S_Mod_firstDraftX h h49 := fr_put Fh38 eh49 rfl
                    exact V_vret rfl d_Mod_firstDraft_119 ⟨rfl, ⟨hI50, f51, (RM_first (fd_ne (by assumption) eh49 (by decide)) (fh_ne (by assumption) eh49 (by decide)) (by (first | decide +kernel | omega)) (kn_nei eh49 K39 (by decide)) (kn_nei eh49 K40 (by decide)) (kn_nei eh49 K41 (by decide)) (kn_nei eh49 K42 (by decide)) (kn_nei eh49 K43 (by decide)) (kn_put eh49))⟩⟩
                  ·
                    refine V_aload_n 0 d_Mod_firstDraft_100 rfl rfl ?_
                    refine V_getR fa_Mod_20 sk_116 rfl d_Mod_firstDraft_101 ?_
                    refine V_iload_n 1 d_Mod_firstDraft_104 rfl rfl ?_
                    refine V_iconst 0 d_Mod_firstDraft_105 (by decide) ?_
                    refine N_iast sk_120 v37E (by (first | decide +kernel | omega)) d_Mod_firstDraft_106 (fun h52 eh52 => ?_)
                    have hI53 : Inv h52 := inv_full Ih38 eh52 rfl
                    have f54 : fr S_Mod_firstDraftX h h52 := fr_put Fh38 eh52 rfl
                    obtain ⟨z55, z55E, z55e⟩ : ∃ y : Int32, y.toInt = v37Z + 1 ∧ y = v37 + Int32.ofInt 1 := ⟨_, ti_add v37E (by decide) (by (first | decide +kernel | omega)), rfl⟩
                    refine V_iinc 1 [some (.ref 116), some (.int z55)] d_Mod_firstDraft_107 rfl z55e.symm (by decide) rfl rfl ?_
                    refine V_goto 94 d_Mod_firstDraft_110 (by decide) ?_
                    exact ihL35 z55 ((v37Z + 1)) h52 z55E hI53 f54 (kn_ne eh52 K39 (by decide)) (kn_ne eh52 K40 (by decide)) (kn_ne eh52 K41 (by decide)) (kn_ne eh52 K42 (by decide)) (kn_ne eh52 K43 (by decide)) (by (first | decide +kernel | omega)) (fd_ne (by assumption) eh52 (by decide)) (fh_s (by assumption) (by (first | decide +kernel | omega)) eh52 rfl) (by (first | decide +kernel | omega))
              exact L35 (Int.toNat ((6 - 0 : Int) + 1)) 0 0 h32 tc_0 hI33 f34 (kn_nei eh32 (kn_nei eh29 (kn_nei eh26 (kn_nei eh23 (kn_put eh20) (by decide)) (by decide)) (by decide)) (by decide)) (kn_nei eh32 (kn_nei eh29 (kn_nei eh26 (kn_put eh23) (by decide)) (by decide)) (by decide)) (kn_nei eh32 (kn_nei eh29 (kn_put eh26) (by decide)) (by decide)) (kn_nei eh32 (kn_put eh29) (by decide)) (kn_put eh32) (by (first | decide +kernel | omega)) (fd_ne (fd_ne (fd_ne (fd_ne (fd_ne (fd_85 (by assumption) (by (first | decide +kernel | omega)) eh17 rfl) eh20 (by decide)) eh23 (by decide)) eh26 (by decide)) eh29 (by decide)) eh32 (by decide)) fh_0 (by (first | decide +kernel | omega))
            ·
              refine V_aload_n 0 d_Mod_firstDraft_30 rfl rfl ?_
              refine V_getR fa_Mod_17 sk_116 rfl d_Mod_firstDraft_31 ?_
              refine V_bipush 32 d_Mod_firstDraft_34 (by decide) ?_
              refine V_iload_n 1 d_Mod_firstDraft_36 rfl rfl ?_
              refine V_iadd tc_32 v11E (by (first | decide +kernel | omega)) d_Mod_firstDraft_37 (fun z56 z56e z56E => ?_)
              refine V_iconst 5 d_Mod_firstDraft_38 (by decide) ?_
              refine N_iast sk_119 z56E (by (first | decide +kernel | omega)) d_Mod_firstDraft_39 (fun h57 eh57 => ?_)
              have hI58 : Inv h57 := inv_full Ih12 eh57 (st_lo (by (first | decide +kernel | omega)))
              have f59 : fr S_Mod_firstDraftX h h57 := fr_put Fh12 eh57 rfl
              refine V_aload_n 0 d_Mod_firstDraft_40 rfl rfl ?_
              refine V_getR fa_Mod_17 sk_116 rfl d_Mod_firstDraft_41 ?_
              refine V_bipush 48 d_Mod_firstDraft_44 (by decide) ?_
              refine V_iload_n 1 d_Mod_firstDraft_46 rfl rfl ?_
              refine V_iadd tc_48 v11E (by (first | decide +kernel | omega)) d_Mod_firstDraft_47 (fun z60 z60e z60E => ?_)
              refine V_bipush (-4) d_Mod_firstDraft_48 (by decide) ?_
              refine N_iast sk_119 z60E (by (first | decide +kernel | omega)) d_Mod_firstDraft_50 (fun h61 eh61 => ?_)
              have hI62 : Inv h61 := inv_full hI58 eh61 (st_lo (by (first | decide +kernel | omega)))
              have f63 : fr S_Mod_firstDraftX h h61 := fr_put f59 eh61 rfl
              obtain ⟨z64, z64E, z64e⟩ : ∃ y : Int32, y.toInt = v11Z + 1 ∧ y = v11 + Int32.ofInt 1 := ⟨_, ti_add v11E (by decide) (by (first | decide +kernel | omega)), rfl⟩
              refine V_iinc 1 [some (.ref 116), some (.int z64)] d_Mod_firstDraft_51 rfl z64e.symm (by decide) rfl rfl ?_
              refine V_goto 24 d_Mod_firstDraft_54 (by decide) ?_
              exact ihL9 z64 ((v11Z + 1)) h61 z64E hI62 f63 (by (first | decide +kernel | omega)) (fy_s (by assumption) (by (first | decide +kernel | omega)) eh57 eh61 rfl rfl) (by (first | decide +kernel | omega))
        exact L9 (Int.toNat ((16 - 0 : Int) + 1)) 0 0 h4 tc_0 Ih4 Fh4 (by (first | decide +kernel | omega)) (fy_0 (by assumption) (by (first | decide +kernel | omega))) (by (first | decide +kernel | omega))
      ·
        refine V_aload_n 0 d_Mod_firstDraft_9 rfl rfl ?_
        refine V_getR fa_Mod_17 sk_116 rfl d_Mod_firstDraft_10 ?_
        refine V_iload_n 1 d_Mod_firstDraft_13 rfl rfl ?_
        refine V_iconst 0 d_Mod_firstDraft_14 (by decide) ?_
        refine N_iast sk_119 v3E (by (first | decide +kernel | omega)) d_Mod_firstDraft_15 (fun h65 eh65 => ?_)
        have hI66 : Inv h65 := inv_st Ih4 eh65 (Or.inr rfl) tc_0 (stOk_3 (by (first | decide +kernel | omega)))
        have f67 : fr S_Mod_firstDraftX h h65 := fr_put Fh4 eh65 rfl
        obtain ⟨z68, z68E, z68e⟩ : ∃ y : Int32, y.toInt = v3Z + 1 ∧ y = v3 + Int32.ofInt 1 := ⟨_, ti_add v3E (by decide) (by (first | decide +kernel | omega)), rfl⟩
        refine V_iinc 1 [some (.ref 116), some (.int z68)] d_Mod_firstDraft_16 rfl z68e.symm (by decide) rfl rfl ?_
        refine V_goto 2 d_Mod_firstDraft_19 (by decide) ?_
        exact ihL1 z68 ((v3Z + 1)) h65 z68E hI66 f67 (by (first | decide +kernel | omega)) (fz_s (by assumption) (by (first | decide +kernel | omega)) eh65 rfl) (by (first | decide +kernel | omega))
  exact L1 (Int.toNat ((144 - 0 : Int) + 1)) 0 0 h tc_0 hI f0 (by (first | decide +kernel | omega)) fz_0 (by (first | decide +kernel | omega))
def S_Mod_keepDraftX : List (Nat × Option Nat) := [(117, none), (118, none), (116, some 2), (116, some 3), (116, some 4), (116, some 5)]
abbrev q_Mod_keepDraftX (h : Hp) (D : Nat → Int) (x : Int32) (xZ : Int) (y : Int32) (yZ : Int) (w : Int32) (wZ : Int) (z : Int32) (zZ : Int) : Option Value → Hp → Prop := pVd (fun h' => Inv h' ∧ fr S_Mod_keepDraftX h h' ∧ (MC h' D ∧ h'.1 118 0 = 0 ∧ h'.1 118 1 = 0))
set_option maxRecDepth 100000 in
theorem c_Mod_keepDraftX (h : Hp) (D : Nat → Int) (hI : Inv h) (x : Int32) (xZ : Int) (xE : x.toInt = xZ) (xK : h.1 116 7 = x) (y : Int32) (yZ : Int) (yE : y.toInt = yZ) (yK : h.1 116 8 = y) (w : Int32) (wZ : Int) (wE : w.toInt = wZ) (wK : h.1 116 9 = w) (z : Int32) (zZ : Int) (zE : z.toInt = zZ) (zK : h.1 116 10 = z) (hy0 : 2 ≤ xZ ∧ xZ ≤ 4 ∧ 2 ≤ yZ ∧ yZ ≤ 4) (hy1 : kq h D) (hy2 : xZ = D 144 ∧ yZ = D 145 ∧ wZ = D 146 ∧ zZ = D 147) : Ct y_Mod_keepDraft b_Mod_keepDraft 2 none 0 0 [.ref 116] h (q_Mod_keepDraftX h D x xZ y yZ w wZ z zZ) := by
  refine ct_ow R_Mod [some (.ref 116), none] rfl (by decide) rfl (Nat.le_of_ble_eq_true rfl) ?_
  have f0 : fr S_Mod_keepDraftX h h := fr_rf
  have g1 : 0 ≤ xZ ∧ xZ ≤ 4 := inv_at hI xE xK.symm rfl
  have g2 : 0 ≤ yZ ∧ yZ ≤ 4 := inv_at hI yE yK.symm rfl
  refine V_iconst 0 d_Mod_keepDraft_0 (by decide) ?_
  refine V_istore_n 1 [some (.ref 116), some (.int 0)] d_Mod_keepDraft_1 rfl (by decide) rfl rfl ?_
  have L3 : ∀ (nn : Nat) (v5 : Int32) (v5Z : Int) (h6 : Hp), v5.toInt = v5Z → Inv h6 → fr S_Mod_keepDraftX h h6 → h6.1 116 7 = x → h6.1 116 8 = y → h6.1 116 9 = w → h6.1 116 10 = z → 0 ≤ v5Z ∧ v5Z ≤ 144 → ky h6 D v5Z → kq h6 D → 144 - v5Z < (nn : Int) → V R_Mod b_Mod_keepDraft 2 none 0 0 (q_Mod_keepDraftX h D x xZ y yZ w wZ z zZ) h6 2 [some (.ref 116), some (.int v5)] [] := by
    intro nn
    induction nn with
    | zero => intro v5 v5Z h6 v5E Ih6 Fh6 K7 K8 K9 K10 q11 q12 q13 hm14; exact absurd hm14 (by (first | decide +kernel | omega))
    | succ nn ihL3 =>
      intro v5 v5Z h6 v5E Ih6 Fh6 K7 K8 K9 K10 q11 q12 q13 hm14
      refine V_iload_n 1 d_Mod_keepDraft_2 rfl rfl ?_
      refine V_sipush 144 d_Mod_keepDraft_3 (by decide) ?_
      refine V_icmp_ge 27 v5E tc_144 d_Mod_keepDraft_6 (by decide) (fun c15 => ?_) (fun c15 => ?_)
      ·
        refine V_aload_n 0 d_Mod_keepDraft_27 rfl rfl ?_
        refine V_aload_n 0 d_Mod_keepDraft_28 rfl rfl ?_
        refine N_getK fa_Mod_62 sk_116 rfl d_Mod_keepDraft_29 K7 ?_
        refine N_putI fp_Mod_81 sk_116 rfl d_Mod_keepDraft_32 (fun h16 eh16 => ?_)
        have hI17 : Inv h16 := inv_put (lo := 2) (hi := 4) Ih6 eh16 rfl xE (by (first | decide +kernel | omega))
        have f18 : fr S_Mod_keepDraftX h h16 := fr_put Fh6 eh16 rfl
        refine V_aload_n 0 d_Mod_keepDraft_35 rfl rfl ?_
        refine V_aload_n 0 d_Mod_keepDraft_36 rfl rfl ?_
        refine N_getK fa_Mod_66 sk_116 rfl d_Mod_keepDraft_37 (kn_nei eh16 K8 (by decide)) ?_
        refine N_putI fp_Mod_84 sk_116 rfl d_Mod_keepDraft_40 (fun h19 eh19 => ?_)
        have hI20 : Inv h19 := inv_put (lo := 2) (hi := 4) hI17 eh19 rfl yE (by (first | decide +kernel | omega))
        have f21 : fr S_Mod_keepDraftX h h19 := fr_put f18 eh19 rfl
        refine V_aload_n 0 d_Mod_keepDraft_43 rfl rfl ?_
        refine V_aload_n 0 d_Mod_keepDraft_44 rfl rfl ?_
        refine N_getK fa_Mod_69 sk_116 rfl d_Mod_keepDraft_45 (kn_nei eh19 (kn_nei eh16 K9 (by decide)) (by decide)) ?_
        refine N_putI fp_Mod_87 sk_116 rfl d_Mod_keepDraft_48 (fun h22 eh22 => ?_)
        have hI23 : Inv h22 := inv_full hI20 eh22 rfl
        have f24 : fr S_Mod_keepDraftX h h22 := fr_put f21 eh22 rfl
        refine V_aload_n 0 d_Mod_keepDraft_51 rfl rfl ?_
        refine V_aload_n 0 d_Mod_keepDraft_52 rfl rfl ?_
        refine N_getK fa_Mod_72 sk_116 rfl d_Mod_keepDraft_53 (kn_nei eh22 (kn_nei eh19 (kn_nei eh16 K10 (by decide)) (by decide)) (by decide)) ?_
        refine N_putI fp_Mod_90 sk_116 rfl d_Mod_keepDraft_56 (fun h25 eh25 => ?_)
        have hI26 : Inv h25 := inv_full hI23 eh25 rfl
        have f27 : fr S_Mod_keepDraftX h h25 := fr_put f24 eh25 rfl
        refine V_aload_n 0 d_Mod_keepDraft_59 rfl rfl ?_
        refine V_getR fa_Mod_13 sk_116 rfl d_Mod_keepDraft_60 ?_
        refine V_iconst 0 d_Mod_keepDraft_63 (by decide) ?_
        refine V_iconst 0 d_Mod_keepDraft_64 (by decide) ?_
        refine N_zast sk_118 tc_0 (by (first | decide +kernel | omega)) d_Mod_keepDraft_65 (fun h28 eh28 => ?_)
        have hI29 : Inv h28 := inv_full hI26 eh28 rfl
        have f30 : fr S_Mod_keepDraftX h h28 := fr_put f27 eh28 rfl
        refine V_aload_n 0 d_Mod_keepDraft_66 rfl rfl ?_
        refine V_getR fa_Mod_13 sk_116 rfl d_Mod_keepDraft_67 ?_
        refine V_iconst 1 d_Mod_keepDraft_70 (by decide) ?_
        refine V_iconst 0 d_Mod_keepDraft_71 (by decide) ?_
        refine N_zast sk_118 tc_1 (by (first | decide +kernel | omega)) d_Mod_keepDraft_72 (fun h31 eh31 => ?_)
        have hI32 : Inv h31 := inv_full hI29 eh31 rfl
        have f33 : fr S_Mod_keepDraftX h h31 := fr_put f30 eh31 rfl
        exact V_vret rfl d_Mod_keepDraft_73 ⟨rfl, ⟨hI32, f33, ⟨⟨fun j hj => (ky_ne (ky_ne (ky_ne (ky_ne (ky_ne (ky_ne (by assumption) eh16 (by decide)) eh19 (by decide)) eh22 (by decide)) eh25 (by decide)) eh28 (by decide)) eh31 (by decide)) j (by (first | decide +kernel | omega)), ((congrArg Int32.toInt (kn_ne eh31 (kn_ne eh28 (kn_nei eh25 (kn_nei eh22 (kn_nei eh19 (kn_put eh16) (by decide)) (by decide)) (by decide)) (by decide)) (by decide))).trans (xE.trans (by (first | decide +kernel | omega)))), ((congrArg Int32.toInt (kn_ne eh31 (kn_ne eh28 (kn_nei eh25 (kn_nei eh22 (kn_put eh19) (by decide)) (by decide)) (by decide)) (by decide))).trans (yE.trans (by (first | decide +kernel | omega)))), ((congrArg Int32.toInt (kn_ne eh31 (kn_ne eh28 (kn_nei eh25 (kn_put eh22) (by decide)) (by decide)) (by decide))).trans (wE.trans (by (first | decide +kernel | omega)))), ((congrArg Int32.toInt (kn_ne eh31 (kn_ne eh28 (kn_put eh25) (by decide)) (by decide))).trans (zE.trans (by (first | decide +kernel | omega))))⟩, (kn_nei eh31 (kn_put eh28) (by decide)).trans (by decide), (kn_put eh31).trans (by decide)⟩⟩⟩
      ·
        refine V_aload_n 0 d_Mod_keepDraft_9 rfl rfl ?_
        refine V_getR fa_Mod_7 sk_116 rfl d_Mod_keepDraft_10 ?_
        refine V_iload_n 1 d_Mod_keepDraft_13 rfl rfl ?_
        refine V_aload_n 0 d_Mod_keepDraft_14 rfl rfl ?_
        refine V_getR fa_Mod_17 sk_116 rfl d_Mod_keepDraft_15 ?_
        refine V_iload_n 1 d_Mod_keepDraft_18 rfl rfl ?_
        refine N_iald sk_119 v5E (by (first | decide +kernel | omega)) d_Mod_keepDraft_19 (fun z34 z34Z z34E z34e => ?_)
        refine N_iast sk_117 v5E (by (first | decide +kernel | omega)) d_Mod_keepDraft_20 (fun h35 eh35 => ?_)
        have hI36 : Inv h35 := inv_st Ih6 eh35 (Or.inl rfl) z34E (stOk_of Ih6 (Or.inr rfl) z34E z34e (by (first | decide +kernel | omega)))
        have f37 : fr S_Mod_keepDraftX h h35 := fr_put Fh6 eh35 rfl
        obtain ⟨z38, z38E, z38e⟩ : ∃ y : Int32, y.toInt = v5Z + 1 ∧ y = v5 + Int32.ofInt 1 := ⟨_, ti_add v5E (by decide) (by (first | decide +kernel | omega)), rfl⟩
        refine V_iinc 1 [some (.ref 116), some (.int z38)] d_Mod_keepDraft_21 rfl z38e.symm (by decide) rfl rfl ?_
        refine V_goto 2 d_Mod_keepDraft_24 (by decide) ?_
        exact ihL3 z38 ((v5Z + 1)) h35 z38E hI36 f37 (kn_ne eh35 K7 (by decide)) (kn_ne eh35 K8 (by decide)) (kn_ne eh35 K9 (by decide)) (kn_ne eh35 K10 (by decide)) (by (first | decide +kernel | omega)) (ky_s (by assumption) (by assumption) (by (first | decide +kernel | omega)) eh35 (by assumption)) (kq_ne (by assumption) eh35 (by decide)) (by (first | decide +kernel | omega))
  exact L3 (Int.toNat ((144 - 0 : Int) + 1)) 0 0 h tc_0 hI f0 xK yK wK zK (by (first | decide +kernel | omega)) ky_0 hy1 (by (first | decide +kernel | omega))
def S_Mod_textX : List (Nat × Option Nat) := [(116, some 16), (116, some 17), (116, some 18), (116, some 19), (116, some 20), (116, some 21), (119, none), (120, none), (116, some 7), (116, some 8), (116, some 9), (116, some 10), (116, some 11), (116, some 13), (117, none), (118, none), (116, some 15), (116, some 2), (116, some 3), (116, some 4), (116, some 5)]
abbrev q_Mod_textX (h : Hp) (b : Int → Int) (s : Int32) (sZ : Int) : Option Value → Hp → Prop := pInt (fun r h' => Inv h' ∧ fr S_Mod_textX h h' ∧ ∃ (v : Int32) (vZ : Int), v.toInt = vZ ∧ h'.1 116 15 = v ∧ ∃ (u : Int32) (uZ : Int), u.toInt = uZ ∧ h'.1 116 20 = u ∧ (vZ = 0 ∧ ∃ n : Nat, x_tx b sZ r uZ n ∧ MK h h' uZ (x_st b n).2.1))
set_option maxRecDepth 100000 in
theorem c_Mod_textX (h : Hp) (b : Int → Int) (hI : Inv h) (s : Int32) (sZ : Int) (sE : s.toInt = sZ) (sK : h.1 116 15 = s) (hy0 : TP h 121 sZ b) : Ct y_Mod_text b_Mod_text 2 (some .int) 6 137 [.ref 116] h (q_Mod_textX h b s sZ) := by
  refine ct_ow R_Mod [some (.ref 116), none] rfl (by decide) rfl (Nat.le_of_ble_eq_true rfl) ?_
  have f0 : fr S_Mod_textX h h := fr_rf
  have g1 : 0 ≤ sZ ∧ sZ ≤ 160 := inv_at hI sE sK.symm rfl
  refine V_iconst 0 d_Mod_text_0 (by decide) ?_
  refine V_istore_n 1 [some (.ref 116), some (.int 0)] d_Mod_text_1 rfl (by decide) rfl rfl ?_
  refine V_aload_n 0 d_Mod_text_2 rfl rfl ?_
  refine V_iconst 0 d_Mod_text_3 (by decide) ?_
  refine N_putI fp_Mod_102 sk_116 rfl d_Mod_text_4 (fun h2 eh2 => ?_)
  have hI3 : Inv h2 := inv_full hI eh2 rfl
  have f4 : fr S_Mod_textX h h2 := fr_put f0 eh2 rfl
  have S5 : SM h h2 := SM_ne eh2 (by decide) SM_rf
  refine V_aload_n 0 d_Mod_text_7 rfl rfl ?_
  refine V_iconst 0 d_Mod_text_8 (by decide) ?_
  refine N_putI fp_Mod_111 sk_116 rfl d_Mod_text_9 (fun h6 eh6 => ?_)
  have hI7 : Inv h6 := inv_put (lo := 0) (hi := 160) hI3 eh6 rfl tc_0 (by (first | decide +kernel | omega))
  have f8 : fr S_Mod_textX h h6 := fr_put f4 eh6 rfl
  have S9 : SM h h6 := SM_ne eh6 (by decide) S5
  refine V_aload_n 0 d_Mod_text_12 rfl rfl ?_
  refine N_callVV [] [] cv_Mod_56 sk_116 rfl d_Mod_text_13 rfl (Nat.le_of_ble_eq_true rfl) (by decide) (by decide) (c_Mod_firstDraftX h6 hI7) (fun h11 p12 => ?_)
  obtain ⟨hI13, fh11, p12⟩ := p12
  have f14 : fr S_Mod_textX h h11 := fr_call f8 fh11 rfl
  have S15 : SM h h11 := SM_fr fh11 rfl S9
  have qF := p12
  refine V_aload_n 0 d_Mod_text_16 rfl rfl ?_
  obtain ⟨z16, z16Z, z16E, z16e⟩ : ∃ (y : Int32) (Y : Int), y.toInt = Y ∧ y = h11.1 116 17 := ⟨_, _, rfl, rfl⟩
  have g17 : 0 ≤ z16Z ∧ z16Z ≤ 160 := inv_at hI13 z16E z16e rfl
  obtain ⟨z18, z18Z, z18E, z18e⟩ : ∃ (y : Int32) (Y : Int), y.toInt = Y ∧ y = h11.1 116 18 := ⟨_, _, rfl, rfl⟩
  obtain ⟨z19, z19Z, z19E, z19e⟩ : ∃ (y : Int32) (Y : Int), y.toInt = Y ∧ y = h11.1 116 19 := ⟨_, _, rfl, rfl⟩
  obtain ⟨z20, z20Z, z20E, z20e⟩ : ∃ (y : Int32) (Y : Int), y.toInt = Y ∧ y = h11.1 116 21 := ⟨_, _, rfl, rfl⟩
  refine N_callVV [] [] cv_Mod_152 sk_116 rfl d_Mod_text_17 rfl (Nat.le_of_ble_eq_true rfl) (by decide) (by decide) (c_Mod_nextX h11 b hI13 s sZ sE (kn_call fh11 (kn_nei eh6 (kn_nei eh2 sK (by decide)) (by decide)) rfl) 0 0 tc_0 (kn_call fh11 (kn_put eh6) rfl) z16 z16Z z16E z16e.symm z18 z18Z z18E z18e.symm z19 z19Z z19E z19e.symm 0 0 tc_0 (kn_call fh11 (kn_nei eh6 (kn_put eh2) (by decide)) rfl) z20 z20Z z20E z20e.symm (TP_fr f14 (fun _ => rfl) hy0) (by (first | decide +kernel | omega))) (fun h22 p23 => ?_)
  obtain ⟨hI24, fh22, o26, o26Z, o26E, o26K, o27, o27Z, o27E, o27K, o28, o28Z, o28E, o28K, o29, o29Z, o29E, o29K, o30, o30Z, o30E, o30K, o31, o31Z, o31E, o31K, p23⟩ := p23
  have f25 : fr S_Mod_textX h h22 := fr_call f14 fh22 rfl
  have S32 : SM h h22 := SM_fr fh22 rfl S15
  have R33 : RM h22 x_T0 x_D0 := RM_fr fh22 rfl qF
  have g34 : 0 ≤ o26Z ∧ o26Z ≤ 160 := inv_at hI24 o26E o26K.symm rfl
  have g35 : 0 ≤ o27Z ∧ o27Z ≤ 160 := inv_at hI24 o27E o27K.symm rfl
  have L36 : ∀ (nn : Nat) (v38 : Int32) (v38Z : Int) (h39 : Hp) (v41 : Int32) (v41Z : Int) (v43 : Int32) (v43Z : Int) (v45 : Int32) (v45Z : Int) (v47 : Int32) (v47Z : Int) (v49 : Int32) (v49Z : Int) (v51 : Int32) (v51Z : Int), v38.toInt = v38Z → Inv h39 → fr S_Mod_textX h h39 → h39.1 116 15 = s → v41.toInt = v41Z → h39.1 116 16 = v41 → v43.toInt = v43Z → h39.1 116 17 = v43 → v45.toInt = v45Z → h39.1 116 18 = v45 → v47.toInt = v47Z → h39.1 116 19 = v47 → v49.toInt = v49Z → h39.1 116 20 = v49 → v51.toInt = v51Z → h39.1 116 21 = v51 → 0 ≤ v41Z ∧ v41Z ≤ sZ → 0 ≤ v49Z → MI b h39 sZ v38Z v41Z v43Z v45Z v47Z v49Z v51Z → 0 ≤ v38Z ∧ v38Z ≤ 161 ∧ (v49Z ≠ 0 ∨ v38Z ≤ v41Z) → SM h h39 → ms v49Z v41Z < (nn : Int) → V R_Mod b_Mod_text 2 (some .int) 6 137 (q_Mod_textX h b s sZ) h39 20 [some (.ref 116), some (.int v38)] [] := by
    intro nn
    induction nn with
    | zero => intro v38 v38Z h39 v41 v41Z v43 v43Z v45 v45Z v47 v47Z v49 v49Z v51 v51Z v38E Ih39 Fh39 K40 v41E K42 v43E K44 v45E K46 v47E K48 v49E K50 v51E K52 q53 q54 q55 q56 q57 hm58; exact absurd hm58 (by have := ms_or v49Z v41Z; omega)
    | succ nn ihL36 =>
      intro v38 v38Z h39 v41 v41Z v43 v43Z v45 v45Z v47 v47Z v49 v49Z v51 v51Z v38E Ih39 Fh39 K40 v41E K42 v43E K44 v45E K46 v47E K48 v49E K50 v51E K52 q53 q54 q55 q56 q57 hm58
      have g59 : 0 ≤ v41Z ∧ v41Z ≤ 160 := inv_at Ih39 v41E K42.symm rfl
      have g60 : 0 ≤ v43Z ∧ v43Z ≤ 160 := inv_at Ih39 v43E K44.symm rfl
      have sm : SM h h39 := by assumption
      refine V_aload_n 0 d_Mod_text_20 rfl rfl ?_
      refine N_getK fa_Mod_102 sk_116 rfl d_Mod_text_21 K50 ?_
      refine V_if_ne 44 v49E d_Mod_text_24 (by decide) (fun c61 => ?_) (fun c61 => ?_)
      ·
        obtain ⟨n, hk, hd, hlk⟩ := MI_dead (show MI b h39 sZ v38Z v41Z v43Z v45Z v47Z v49Z v51Z from by assumption) (by (first | decide +kernel | omega))
        refine V_aload_n 0 d_Mod_text_44 rfl rfl ?_
        refine N_getK fa_Mod_102 sk_116 rfl d_Mod_text_45 K50 ?_
        refine V_if_ne 78 v49E d_Mod_text_48 (by decide) (fun c62 => ?_) (fun c62 => ?_)
        ·
          refine V_aload_n 0 d_Mod_text_78 rfl rfl ?_
          refine V_iconst 0 d_Mod_text_79 (by decide) ?_
          refine N_putI fp_Mod_99 sk_116 rfl d_Mod_text_80 (fun h63 eh63 => ?_)
          have hI64 : Inv h63 := inv_put (lo := 0) (hi := 160) Ih39 eh63 rfl tc_0 (by (first | decide +kernel | omega))
          have f65 : fr S_Mod_textX h h63 := fr_put Fh39 eh63 rfl
          have S66 : SM h h63 := SM_ne eh63 (by decide) sm
          refine V_aload_n 0 d_Mod_text_83 rfl rfl ?_
          refine N_getK fa_Mod_102 sk_116 rfl d_Mod_text_84 (kn_nei eh63 K50 (by decide)) ?_
          refine V_if_le 98 v49E d_Mod_text_87 (by decide) (fun c67 => ?_) (fun c67 => ?_)
          ·
            exact absurd c67 (by (first | decide +kernel | omega))
          ·
            refine V_bipush (-10) d_Mod_text_90 (by decide) ?_
            refine V_aload_n 0 d_Mod_text_92 rfl rfl ?_
            refine N_getK fa_Mod_108 sk_116 rfl d_Mod_text_93 (kn_nei eh63 K52 (by decide)) ?_
            refine N_isubw d_Mod_text_96 (fun z68 z68Z z68E z68e => ?_)
            exact V_iret rfl d_Mod_text_97 ⟨z68, rfl, ⟨hI64, f65, 0, 0, tc_0, (kn_put eh63), v49, v49Z, v49E, (kn_nei eh63 K50 (by decide)), ⟨by (first | decide +kernel | omega), n, ⟨⟨hk, Or.inr (by rw [hlk]; show v49Z ≠ 0; omega)⟩, Or.inr (Or.inr ⟨hd, by rw [hlk], by (first | decide +kernel | omega), v51, by rw [hlk]; exact v51E, by assumption⟩)⟩, (Or.inr ⟨by (first | decide +kernel | omega), S66⟩)⟩⟩⟩
        ·
          exact absurd c62 (by (first | decide +kernel | omega))
      ·
        refine V_aload_n 0 d_Mod_text_27 rfl rfl ?_
        refine N_getK fa_Mod_130 sk_116 rfl d_Mod_text_28 K46 ?_
        refine V_if_eq 44 v45E d_Mod_text_31 (by decide) (fun c69 => ?_) (fun c69 => ?_)
        ·
          obtain ⟨n, hn, hk, hR, hx⟩ := MI_live (show MI b h39 sZ v38Z v41Z v43Z v45Z v47Z v49Z v51Z from by assumption) (by (first | decide +kernel | omega))
          unfold x_lx at hx
          have hg := x_good_k n hk
          unfold x_good at hg
          refine V_aload_n 0 d_Mod_text_44 rfl rfl ?_
          refine N_getK fa_Mod_102 sk_116 rfl d_Mod_text_45 K50 ?_
          refine V_if_ne 78 v49E d_Mod_text_48 (by decide) (fun c70 => ?_) (fun c70 => ?_)
          ·
            exact absurd c70 (by (first | decide +kernel | omega))
          ·
            refine V_aload_n 0 d_Mod_text_51 rfl rfl ?_
            refine V_aload_n 0 d_Mod_text_52 rfl rfl ?_
            refine N_getI fa_Mod_78 sk_116 rfl d_Mod_text_53 (fun z71 z71Z z71E z71e => ?_)
            refine V_aload_n 0 d_Mod_text_56 rfl rfl ?_
            refine N_getI fa_Mod_62 sk_116 rfl d_Mod_text_57 (fun z72 z72Z z72E z72e => ?_)
            have g73 : 0 ≤ z72Z ∧ z72Z ≤ 4 := inv_at Ih39 z72E z72e rfl
            refine V_aload_n 0 d_Mod_text_60 rfl rfl ?_
            refine N_getI fa_Mod_66 sk_116 rfl d_Mod_text_61 (fun z74 z74Z z74E z74e => ?_)
            have g75 : 0 ≤ z74Z ∧ z74Z ≤ 4 := inv_at Ih39 z74E z74e rfl
            have g76 : z72Z = (x_st b n).2.1 144 := RM_fld hR z72e.symm z72E (by decide)
            have g77 : z74Z = (x_st b n).2.1 145 := RM_fld hR z74e.symm z74E (by decide)
            refine N_mul24 z72E z74E (by (first | decide +kernel | omega)) (by (first | decide +kernel | omega)) d_Mod_text_64 (fun z78 z78Z z78E z78e z78r z78m => ?_)
            have hB : z71Z < z78Z ∧ ¬ x_bey b n ∨ z78Z ≤ z71Z ∧ x_bey b n := by unfold x_bey; rw [show (x_st b n).2.1 144 * (x_st b n).2.1 145 = z78Z from by rw [show (x_st b n).2.1 144 = z72Z by (first | decide +kernel | omega), show (x_st b n).2.1 145 = z74Z by (first | decide +kernel | omega)]; exact z78m.symm]; exact x_HI_by (by have q := hR.2.2.1; rw [z71e.symm, z71E] at q; exact q) (by (first | decide +kernel | omega))
            refine V_icmp_ge 72 z71E z78E d_Mod_text_65 (by decide) (fun c79 => ?_) (fun c79 => ?_)
            ·
              have hf : v43Z = sZ := by have q := kd_0 (b := b) (p := (x_st b n).2.2) (by (first | decide +kernel | omega)); rw [← show v43Z = x_fr b (x_st b n).2.2 by (first | decide +kernel | omega)] at q; have q2 := TP_b hy0 v43Z (by (first | decide +kernel | omega)); omega
              replace hB := (hB.resolve_left (fun q => absurd q.1 (by (first | decide +kernel | omega)))).2
              refine V_iconst 0 d_Mod_text_72 (by decide) ?_
              refine V_bipush 6 d_Mod_text_73 (by decide) ?_
              refine N_callVV [.int 0, .int 6] [] cv_Mod_144 sk_116 rfl d_Mod_text_75 rfl (Nat.le_of_ble_eq_true rfl) (by decide) (by decide) (c_Mod_needsX h39 Ih39 0 0 tc_0 6 6 tc_6 v43 v43Z v43E K44 v49 v49Z v49E K50 v51 v51Z v51E K52) (fun h81 p82 => ?_)
              obtain ⟨hI83, fh81, o85, o85Z, o85E, o85K, o86, o86Z, o86E, o86K, p82⟩ := p82
              have f84 : fr S_Mod_textX h h81 := fr_call Fh39 fh81 rfl
              have S87 : SM h h81 := SM_fr fh81 rfl sm
              have R88 : RM h81 (x_st b n).1 (x_st b n).2.1 := RM_fr fh81 rfl hR
              refine V_aload_n 0 d_Mod_text_78 rfl rfl ?_
              refine V_iconst 0 d_Mod_text_79 (by decide) ?_
              refine N_putI fp_Mod_99 sk_116 rfl d_Mod_text_80 (fun h89 eh89 => ?_)
              have hI90 : Inv h89 := inv_put (lo := 0) (hi := 160) hI83 eh89 rfl tc_0 (by (first | decide +kernel | omega))
              have f91 : fr S_Mod_textX h h89 := fr_put f84 eh89 rfl
              have S92 : SM h h89 := SM_ne eh89 (by decide) S87
              have R93 : RM h89 (x_st b n).1 (x_st b n).2.1 := RM_ne eh89 (by decide) R88
              refine V_aload_n 0 d_Mod_text_83 rfl rfl ?_
              refine N_getK fa_Mod_102 sk_116 rfl d_Mod_text_84 (kn_nei eh89 o85K (by decide)) ?_
              refine V_if_le 98 o85E d_Mod_text_87 (by decide) (fun c94 => ?_) (fun c94 => ?_)
              ·
                exact absurd c94 (by (first | decide +kernel | omega))
              ·
                refine V_bipush (-10) d_Mod_text_90 (by decide) ?_
                refine V_aload_n 0 d_Mod_text_92 rfl rfl ?_
                refine N_getK fa_Mod_108 sk_116 rfl d_Mod_text_93 (kn_nei eh89 o86K (by decide)) ?_
                refine N_isubw d_Mod_text_96 (fun z95 z95Z z95E z95e => ?_)
                exact V_iret rfl d_Mod_text_97 ⟨z95, rfl, ⟨hI90, f91, 0, 0, tc_0, (kn_put eh89), o85, o85Z, o85E, (kn_nei eh89 o85K (by decide)), ⟨by (first | decide +kernel | omega), n, ⟨⟨hk, Or.inl (by (first | decide +kernel | omega))⟩, Or.inr (Or.inl ⟨by (first | decide +kernel | omega), hB, by (first | decide +kernel | omega), o86, by rw [o86E]; omega, by assumption⟩)⟩, (Or.inr ⟨by (first | decide +kernel | omega), S92⟩)⟩⟩⟩
            ·
              replace hB := (hB.resolve_right (fun q => absurd q.1 (by (first | decide +kernel | omega)))).2
              refine V_iconst 1 d_Mod_text_68 (by decide) ?_
              refine V_goto 73 d_Mod_text_69 (by decide) ?_
              refine V_bipush 6 d_Mod_text_73 (by decide) ?_
              refine N_callVV [.int 1, .int 6] [] cv_Mod_144 sk_116 rfl d_Mod_text_75 rfl (Nat.le_of_ble_eq_true rfl) (by decide) (by decide) (c_Mod_needsX h39 Ih39 1 1 tc_1 6 6 tc_6 v43 v43Z v43E K44 v49 v49Z v49E K50 v51 v51Z v51E K52) (fun h97 p98 => ?_)
              obtain ⟨hI99, fh97, o101, o101Z, o101E, o101K, o102, o102Z, o102E, o102K, p98⟩ := p98
              have f100 : fr S_Mod_textX h h97 := fr_call Fh39 fh97 rfl
              have S103 : SM h h97 := SM_fr fh97 rfl sm
              have R104 : RM h97 (x_st b n).1 (x_st b n).2.1 := RM_fr fh97 rfl hR
              refine V_aload_n 0 d_Mod_text_78 rfl rfl ?_
              refine V_iconst 0 d_Mod_text_79 (by decide) ?_
              refine N_putI fp_Mod_99 sk_116 rfl d_Mod_text_80 (fun h105 eh105 => ?_)
              have hI106 : Inv h105 := inv_put (lo := 0) (hi := 160) hI99 eh105 rfl tc_0 (by (first | decide +kernel | omega))
              have f107 : fr S_Mod_textX h h105 := fr_put f100 eh105 rfl
              have S108 : SM h h105 := SM_ne eh105 (by decide) S103
              have R109 : RM h105 (x_st b n).1 (x_st b n).2.1 := RM_ne eh105 (by decide) R104
              refine V_aload_n 0 d_Mod_text_83 rfl rfl ?_
              refine N_getK fa_Mod_102 sk_116 rfl d_Mod_text_84 (kn_nei eh105 o101K (by decide)) ?_
              refine V_if_le 98 o101E d_Mod_text_87 (by decide) (fun c110 => ?_) (fun c110 => ?_)
              ·
                refine V_aload_n 0 d_Mod_text_98 rfl rfl ?_
                obtain ⟨z111, z111Z, z111E, z111e⟩ : ∃ (y : Int32) (Y : Int), y.toInt = Y ∧ y = h105.1 116 9 := ⟨_, _, rfl, rfl⟩
                obtain ⟨z112, z112Z, z112E, z112e⟩ : ∃ (y : Int32) (Y : Int), y.toInt = Y ∧ y = h105.1 116 10 := ⟨_, _, rfl, rfl⟩
                refine N_callVV [] [] cv_Mod_59 sk_116 rfl d_Mod_text_99 rfl (Nat.le_of_ble_eq_true rfl) (by decide) (by decide) (c_Mod_keepDraftX h105 (x_st b n).2.1 hI106 z72 z72Z z72E (kn_nei eh105 (kn_call fh97 z72e.symm rfl) (by decide)) z74 z74Z z74E (kn_nei eh105 (kn_call fh97 z74e.symm rfl) (by decide)) z111 z111Z z111E z111e.symm z112 z112Z z112E z112e.symm (by (first | decide +kernel | omega)) (RM_kq R109) ⟨by (first | decide +kernel | omega), by (first | decide +kernel | omega), RM_fld R109 z111e.symm z111E (by decide), RM_fld R109 z112e.symm z112E (by decide)⟩) (fun h114 p115 => ?_)
                obtain ⟨hI116, fh114, p115⟩ := p115
                have f117 : fr S_Mod_textX h h114 := fr_call f107 fh114 rfl
                have qK := p115
                refine V_iload_n 1 d_Mod_text_102 rfl rfl ?_
                exact V_iret rfl d_Mod_text_103 ⟨v38, rfl, ⟨hI116, f117, 0, 0, tc_0, (kn_call fh114 (kn_put eh105) rfl), o101, o101Z, o101E, (kn_call fh114 (kn_nei eh105 o101K (by decide)) rfl), ⟨by (first | decide +kernel | omega), n, ⟨⟨hk, Or.inl (by (first | decide +kernel | omega))⟩, Or.inl ⟨by (first | decide +kernel | omega), hB, by rw [v38E]; omega, by (first | decide +kernel | omega)⟩⟩, (Or.inl ⟨by (first | decide +kernel | omega), qK⟩)⟩⟩⟩
              ·
                exact absurd c110 (by (first | decide +kernel | omega))
        ·
          obtain ⟨n, hn, hk, hR, hx⟩ := MI_live (show MI b h39 sZ v38Z v41Z v43Z v45Z v47Z v49Z v51Z from by assumption) (by (first | decide +kernel | omega))
          unfold x_lx at hx
          have hkd : x_kd b (x_st b n).2.2 ≠ 0 := by (first | decide +kernel | omega)
          have g118 := ms_or v49Z v41Z
          refine V_aload_n 0 d_Mod_text_34 rfl rfl ?_
          obtain ⟨z119, z119Z, z119E, z119e⟩ : ∃ (y : Int32) (Y : Int), y.toInt = Y ∧ y = h39.1 116 11 := ⟨_, _, rfl, rfl⟩
          obtain ⟨z120, z120Z, z120E, z120e⟩ : ∃ (y : Int32) (Y : Int), y.toInt = Y ∧ y = h39.1 119 86 := ⟨_, _, rfl, rfl⟩
          have g121 : 0 ≤ z120Z ∧ z120Z ≤ 8 := inv_at Ih39 z120E z120e rfl
          refine N_callVV [] [] cv_Mod_180 sk_116 rfl d_Mod_text_35 rfl (Nat.le_of_ble_eq_true rfl) (by decide) (by decide) (c_Mod_readLineX h39 b (x_st b n).1 (x_st b n).2.1 (x_st b n).2.2 Ih39 s sZ sE K40 v41 v41Z v41E K42 v43 v43Z v43E K44 v45 v45Z v45E K46 v47 v47Z v47E K48 v49 v49Z v49E K50 v51 v51Z v51E K52 z119 z119Z z119E z119e.symm z120 z120Z z120E z120e.symm (TP_fr Fh39 (fun _ => rfl) hy0) (by (first | decide +kernel | omega)) ⟨by (first | decide +kernel | omega), by (first | decide +kernel | omega), by (first | decide +kernel | omega), by (first | decide +kernel | omega), by (first | decide +kernel | omega), by (first | decide +kernel | omega), by (first | decide +kernel | omega), by (first | decide +kernel | omega), by (first | decide +kernel | omega), by (first | decide +kernel | omega), by (first | decide +kernel | omega)⟩ hR) (fun h123 p124 => ?_)
          obtain ⟨hI125, fh123, o127, o127Z, o127E, o127K, o128, o128Z, o128E, o128K, o129, o129Z, o129E, o129K, o130, o130Z, o130E, o130K, o131, o131Z, o131E, o131K, o132, o132Z, o132E, o132K, p124⟩ := p124
          have f126 : fr S_Mod_textX h h123 := fr_call Fh39 fh123 rfl
          have S133 : SM h h123 := SM_fr fh123 rfl sm
          have g134 : 0 ≤ o127Z ∧ o127Z ≤ 160 := inv_at hI125 o127E o127K.symm rfl
          have g135 : 0 ≤ o128Z ∧ o128Z ≤ 160 := inv_at hI125 o128E o128K.symm rfl
          have hmi : MI b h123 sZ ((n : Int) + 1) o127Z o128Z o129Z o130Z o131Z o132Z := MI_step hk hkd rfl p124.1
          have hpos := rl_pos (b := b) (h := h) (s := sZ) (q := o127Z) (f := o128Z) (k := o129Z) (v := o130Z) (y := o132Z) p124.1
          replace p124 := p124.2
          have g136 := ms_or o131Z o127Z
          obtain ⟨z137, z137E, z137e⟩ : ∃ y : Int32, y.toInt = v38Z + 1 ∧ y = v38 + Int32.ofInt 1 := ⟨_, ti_add v38E (by decide) (by (first | decide +kernel | omega)), rfl⟩
          refine V_iinc 1 [some (.ref 116), some (.int z137)] d_Mod_text_38 rfl z137e.symm (by decide) rfl rfl ?_
          refine V_goto 20 d_Mod_text_41 (by decide) ?_
          exact ihL36 z137 ((v38Z + 1)) h123 o127 o127Z o128 o128Z o129 o129Z o130 o130Z o131 o131Z o132 o132Z z137E hI125 f126 (kn_call fh123 K40 rfl) o127E o127K o128E o128K o129E o129K o130E o130K o131E o131K o132E o132K (by (first | decide +kernel | omega)) (by (first | decide +kernel | omega)) (by rw [show (v38Z + 1) = (n : Int) + 1 by (first | decide +kernel | omega)]; exact hmi) (by (first | decide +kernel | omega)) S133 (by (first | decide +kernel | omega))
  exact L36 (Int.toNat ((ms o30Z o26Z : Int) + 1)) 0 0 h22 o26 o26Z o27 o27Z o28 o28Z o29 o29Z o30 o30Z o31 o31Z tc_0 hI24 f25 (kn_call fh22 (kn_call fh11 (kn_nei eh6 (kn_nei eh2 sK (by decide)) (by decide)) rfl) rfl) o26E o26K o27E o27K o28E o28K o29E o29K o30E o30K o31E o31K (by (first | decide +kernel | omega)) (by (first | decide +kernel | omega)) (MI_of (n := 0) (p := 0) (x_ok_0 b) rfl rfl R33 (if q9 : o30Z = 0 then Or.inr ⟨q9, ⟨by (first | decide +kernel | omega), by (first | decide +kernel | omega), by (first | decide +kernel | omega), by (first | decide +kernel | omega), by (first | decide +kernel | omega), by (first | decide +kernel | omega), by (first | decide +kernel | omega), by (first | decide +kernel | omega), by (first | decide +kernel | omega), by (first | decide +kernel | omega), by (first | decide +kernel | omega)⟩⟩ else Or.inl ⟨by (first | decide +kernel | omega), by (first | decide +kernel | omega), by (first | decide +kernel | omega)⟩)) (by (first | decide +kernel | omega)) S32 (by have := ms_or o30Z o26Z; omega)
end
section
def fll (h : Hp) (k : Nat) (v : Int32) (m : Int) : Prop := ∀ j : Nat, (j : Int) < m → h.1 k j = v
theorem fll_0 {h : Hp} {k : Nat} {v : Int32} : fll h k v 0 := fun j hj => by (first | decide +kernel | omega)
theorem fll_s {h h' : Hp} {k : Nat} {v : Int32} {m : Int} (r : fll h k v m) (h0 : 0 ≤ m) (e : h' = pI h k m.toNat v) : fll h' k v (m + 1) := fun j hj => by
  by_cases q : j = m.toNat
  · rw [q, kn_put e]
  · rw [kn_nei e rfl q]; exact r j (by (first | decide +kernel | omega))
theorem fll_le {h : Hp} {k : Nat} {v : Int32} {m n : Int} (r : fll h k v m) (hn : n ≤ m) : fll h k v n := fun j hj => r j (by (first | decide +kernel | omega))
theorem fll_fr {S : List (Nat × Option Nat)} {h h' : Hp} {k : Nat} {v : Int32} {m : Int} (f : fr S h h') (hk : ∀ i : Nat, inS S k i = false) (r : fll h k v m) : fll h' k v m := fun j hj => by rw [f.1 k j (hk j)]; exact r j hj
theorem fll_ne {h h' : Hp} {k k' i : Nat} {v x : Int32} {m : Int} (e : h' = pI h k' i x) (hk : k ≠ k') (r : fll h k v m) : fll h' k v m := fun j hj => by rw [kn_ne e rfl hk]; exact r j hj
/-- the draft's land as it begins -/
def LR (h : Hp) : Prop := h.1 69 0 = 3 ∧ h.1 69 1 = 3 ∧ h.1 69 2 = 1 ∧ h.1 69 3 = 10 ∧ fll h 70 0 16 ∧ fll h 71 0 16 ∧ fll h 72 5 16 ∧ fll h 73 (-4) 16 ∧ fll h 74 0 16
def lrS (S : List (Nat × Option Nat)) : Bool := S.all (fun q => decide (q.1 < 69 ∨ 74 < q.1))
theorem lrS_no {S : List (Nat × Option Nat)} (hc : lrS S = true) {k i : Nat} (hk : 69 ≤ k ∧ k ≤ 74) : inS S k i = false := by
  unfold inS
  rw [List.any_eq_false]
  intro q hq e
  have := of_decide_eq_true (List.all_eq_true.mp hc q hq)
  rw [Bool.and_eq_true] at e
  have e2 : q.1 = k := eq_of_beq e.1
  omega
theorem LR_at {h h' : Hp} (e : ∀ k i : Nat, 69 ≤ k ∧ k ≤ 74 → h'.1 k i = h.1 k i) (r : LR h) : LR h' := by
  obtain ⟨r1, r2, r3, r4, r5, r6, r7, r8, r9⟩ := r
  refine ⟨?_, ?_, ?_, ?_, fun j hj => ?_, fun j hj => ?_, fun j hj => ?_, fun j hj => ?_, fun j hj => ?_⟩
  · rw [e _ _ (by (first | decide +kernel | omega))]; exact r1
  · rw [e _ _ (by (first | decide +kernel | omega))]; exact r2
  · rw [e _ _ (by (first | decide +kernel | omega))]; exact r3
  · rw [e _ _ (by (first | decide +kernel | omega))]; exact r4
  · rw [e _ _ (by (first | decide +kernel | omega))]; exact r5 j hj
  · rw [e _ _ (by (first | decide +kernel | omega))]; exact r6 j hj
  · rw [e _ _ (by (first | decide +kernel | omega))]; exact r7 j hj
  · rw [e _ _ (by (first | decide +kernel | omega))]; exact r8 j hj
  · rw [e _ _ (by (first | decide +kernel | omega))]; exact r9 j hj
theorem LR_fr {S : List (Nat × Option Nat)} {h h' : Hp} (f : fr S h h') (hc : lrS S = true) (r : LR h) : LR h' := LR_at (fun k i hk => f.1 k i (lrS_no hc hk)) r
theorem LR_ne {h h' : Hp} {k i : Nat} {x : Int32} (e : h' = pI h k i x) (hk : k < 69 ∨ 74 < k) (r : LR h) : LR h' := LR_at (fun k' i' h2 => kn_ne e rfl (by (first | decide +kernel | omega))) r
theorem RCd_first {h : Hp} (r : LR h) (p : fll h 76 0 4) (d : h.1 75 4 = 0) (s : h.1 80 4 = 0) (n : h.1 68 3 = 0) (c : h.1 68 4 = 9) : RCd h x_D0 := by
  obtain ⟨r1, r2, r3, r4, r5, r6, r7, r8, r9⟩ := r
  intro k i q hd
  rcases dof_e hd with ⟨w, e⟩ | ⟨w, e⟩ | ⟨w, e⟩ | ⟨w, e⟩ | ⟨w, e⟩ | ⟨w, e⟩ | ⟨w, e⟩ | ⟨w, e⟩ | ⟨w, e⟩ | ⟨w, e⟩ | ⟨w, e⟩
  · rw [e, w.1, r5 i (by (first | decide +kernel | omega))]; unfold x_D0; rw [if_neg (by (first | decide +kernel | omega)), if_neg (by (first | decide +kernel | omega)), if_neg (by (first | decide +kernel | omega)), if_neg (by (first | decide +kernel | omega)), if_neg (by (first | decide +kernel | omega)), if_neg (by (first | decide +kernel | omega))]; rfl
  · rw [e, w.1, r6 i (by (first | decide +kernel | omega))]; unfold x_D0; rw [if_neg (by (first | decide +kernel | omega)), if_neg (by (first | decide +kernel | omega)), if_neg (by (first | decide +kernel | omega)), if_neg (by (first | decide +kernel | omega)), if_neg (by (first | decide +kernel | omega)), if_neg (by (first | decide +kernel | omega))]; rfl
  · rw [e, w.1, r7 i (by (first | decide +kernel | omega))]; unfold x_D0; rw [if_pos (by (first | decide +kernel | omega))]; rfl
  · rw [e, w.1, r8 i (by (first | decide +kernel | omega))]; unfold x_D0; rw [if_neg (by (first | decide +kernel | omega)), if_pos (by (first | decide +kernel | omega))]; rfl
  · rw [e, w.1, r9 i (by (first | decide +kernel | omega))]; unfold x_D0; rw [if_neg (by (first | decide +kernel | omega)), if_neg (by (first | decide +kernel | omega)), if_neg (by (first | decide +kernel | omega)), if_neg (by (first | decide +kernel | omega)), if_neg (by (first | decide +kernel | omega)), if_neg (by (first | decide +kernel | omega))]; rfl
  · rw [e, w.1, p i (by (first | decide +kernel | omega))]; unfold x_D0; rw [if_neg (by (first | decide +kernel | omega)), if_neg (by (first | decide +kernel | omega)), if_neg (by (first | decide +kernel | omega)), if_neg (by (first | decide +kernel | omega)), if_neg (by (first | decide +kernel | omega)), if_neg (by (first | decide +kernel | omega))]; rfl
  · rw [e, w.1, w.2, n]; rfl
  · rw [e, w.1, w.2, c]; rfl
  · rw [e, w.1, w.2, d]; rfl
  · rw [e, w.1, w.2, s]; rfl
  · rcases (by (first | decide +kernel | omega) : i = 0 ∨ i = 1 ∨ i = 2 ∨ i = 3) with rfl | rfl | rfl | rfl
    · rw [e, w.1, r1]; rfl
    · rw [e, w.1, r2]; rfl
    · rw [e, w.1, r3]; rfl
    · rw [e, w.1, r4]; rfl
def rdS (S : List (Nat × Option Nat)) : Bool := S.all (fun q => decide (q.1 < 68 ∨ 80 < q.1))
theorem RCd_fr {S : List (Nat × Option Nat)} {h h' : Hp} {D : Nat → Int} (f : fr S h h') (hc : rdS S = true) (r : RCd h D) : RCd h' D := fun k i d hd => by
  have hb := dof_k hd
  have : inS S k i = false := by
    unfold inS
    rw [List.any_eq_false]
    intro q hq e
    have := of_decide_eq_true (List.all_eq_true.mp hc q hq)
    rw [Bool.and_eq_true] at e
    have e2 : q.1 = k := eq_of_beq e.1
    omega
  rw [f.1 k i this]
  exact r k i d hd
theorem RC_first {h : Hp} (r : RCd h x_D0) (t : fll h 92 0 10) : RC h x_T0 x_D0 := by
  refine ⟨⟨fun l h1 h2 => ?_, fun l hl => ?_⟩, r, fun i hi => ?_⟩
  · rw [t l (by (first | decide +kernel | omega))]; exact x_TB_0
  · rw [t l (by (first | decide +kernel | omega))]; exact Or.inl ⟨rfl, rfl⟩
  · have : x_D0 86 = 0 := by unfold x_D0; decide
    omega
theorem RC_ne {h h' : Hp} {k i : Nat} {x : Int32} {T : Nat → Int → Int} {D : Nat → Int} (e : h' = pI h k i x) (hk : k ≠ 92 ∧ (k < 68 ∨ 80 < k)) (r : RC h T D) : RC h' T D := ⟨RCt_ne r.1 e hk.1, RCd_ne r.2.1 e (by (first | decide +kernel | omega)), RCb_ne r.2.2 e (by (first | decide +kernel | omega))⟩
theorem all_bits : ∀ W : Nat, W < 17 → ∀ i : Nat, i < 32 → (((1 : Int32) <<< (Int32.ofInt (W : Int) &&& 31)) - 1).toBitVec.getLsbD i = decide (i < W) := by decide +kernel
theorem m1_bits (i : Nat) (h : i < 32) : (-1 : Int32).toBitVec.getLsbD i = true := by
  have : ∀ i : Nat, i < 32 → (-1 : Int32).toBitVec.getLsbD i = true := by decide +kernel
  exact this i h
theorem x_bt_1 {z : Int32} {t : Int → Int} {n : Nat} (r : x_TB z t) (hn : n < 16) : (z.toBitVec.getLsbD n = true ↔ t n ≠ 0) := by
  have h := r.1 n (by (first | decide +kernel | omega)) (by (first | decide +kernel | omega))
  rw [x_bt_get z hn] at h
  cases hz : z.toBitVec.getLsbD n with
  | true => rw [hz, if_pos rfl] at h; rw [← h]; simp
  | false => rw [hz, if_neg (by decide)] at h; rw [← h]; simp
theorem bey_bits {t1 t2 t3 t4 c12 c123 cs a n y w : Int32} {T : Nat → Int → Int} {W Y : Int} (r1 : x_TB t1 (T 1)) (r2 : x_TB t2 (T 2)) (r3 : x_TB t3 (T 3)) (r4 : x_TB t4 (T 4)) (e1 : c12 = t1 ||| t2) (e2 : c123 = c12 ||| t3) (e3 : cs = c123 ||| t4) (hw : w.toInt = W) (hW : 4 ≤ W ∧ W ≤ 16) (ea : a = ((1 : Int32) <<< (w &&& 31)) - 1) (en : n = a ^^^ -1) (ey : y = cs &&& n) (py : y.toInt = Y) : Y ≠ 0 ∧ x_by T W ∨ Y = 0 ∧ ¬ x_by T W := by
  obtain ⟨m, rfl⟩ := Int.eq_ofNat_of_zero_le (show 0 ≤ W by (first | decide +kernel | omega))
  have hwm : w = Int32.ofInt (m : Int) := by rw [← hw, Int32.ofInt_toInt]
  have hcs : ∀ i : Nat, cs.toBitVec.getLsbD i = (((t1.toBitVec.getLsbD i || t2.toBitVec.getLsbD i) || t3.toBitVec.getLsbD i) || t4.toBitVec.getLsbD i) := fun i => by
    rw [e3, e2, e1, Int32.toBitVec_or, Int32.toBitVec_or, Int32.toBitVec_or, BitVec.getLsbD_or, BitVec.getLsbD_or, BitVec.getLsbD_or]
  have hyb : ∀ i : Nat, i < 32 → y.toBitVec.getLsbD i = (cs.toBitVec.getLsbD i && !decide (i < m)) := fun i hi => by
    rw [ey, Int32.toBitVec_and, BitVec.getLsbD_and, en, Int32.toBitVec_xor, BitVec.getLsbD_xor, m1_bits i hi, ea, hwm, all_bits m (by (first | decide +kernel | omega)) i hi, Bool.xor_true]
  have hin : ∀ i : Nat, cs.toBitVec.getLsbD i = true → i < 16 ∧ ∃ l : Nat, 1 ≤ l ∧ l ≤ 4 ∧ T l (i : Int) ≠ 0 := fun i hi => by
    have h16 : i < 16 := by
      by_cases q : i < 16
      · exact q
      · rw [hcs, r1.2 i (by (first | decide +kernel | omega)), r2.2 i (by (first | decide +kernel | omega)), r3.2 i (by (first | decide +kernel | omega)), r4.2 i (by (first | decide +kernel | omega))] at hi
        cases hi
    refine ⟨h16, ?_⟩
    rw [hcs, Bool.or_eq_true, Bool.or_eq_true, Bool.or_eq_true] at hi
    rcases hi with ((q | q) | q) | q
    · exact ⟨1, by decide, by decide, (x_bt_1 r1 h16).mp q⟩
    · exact ⟨2, by decide, by decide, (x_bt_1 r2 h16).mp q⟩
    · exact ⟨3, by decide, by decide, (x_bt_1 r3 h16).mp q⟩
    · exact ⟨4, by decide, by decide, (x_bt_1 r4 h16).mp q⟩
  by_cases q : Y = 0
  · refine Or.inr ⟨q, fun w => ?_⟩
    have y0 : y = 0 := Int32.toInt_inj.mp ((py.trans q).trans rfl)
    obtain ⟨l, c, h1, h2, h3, h4, h5, h6⟩ := w
    obtain ⟨j, rfl⟩ := Int.eq_ofNat_of_zero_le h3
    have hj : j < 16 := by (first | decide +kernel | omega)
    have hc : cs.toBitVec.getLsbD j = true := by
      rw [hcs, Bool.or_eq_true, Bool.or_eq_true, Bool.or_eq_true]
      rcases (by (first | decide +kernel | omega) : l = 1 ∨ l = 2 ∨ l = 3 ∨ l = 4) with rfl | rfl | rfl | rfl
      · exact Or.inl (Or.inl (Or.inl ((x_bt_1 r1 hj).mpr h5)))
      · exact Or.inl (Or.inl (Or.inr ((x_bt_1 r2 hj).mpr h5)))
      · exact Or.inl (Or.inr ((x_bt_1 r3 hj).mpr h5))
      · exact Or.inr ((x_bt_1 r4 hj).mpr h5)
    have := hyb j (by (first | decide +kernel | omega))
    rw [hc, decide_eq_false (show ¬ j < m by (first | decide +kernel | omega)), y0] at this
    exact absurd this.symm (by rw [show (0 : Int32).toBitVec.getLsbD j = false from BitVec.getLsbD_zero]; decide)
  · refine Or.inl ⟨q, ?_⟩
    by_cases w : ∃ i : Nat, i < 32 ∧ y.toBitVec.getLsbD i = true
    · obtain ⟨i, hi, hb⟩ := w
      rw [hyb i hi, Bool.and_eq_true] at hb
      obtain ⟨h16, l, h1, h2, h3⟩ := hin i hb.1
      have : ¬ i < m := by simpa using hb.2
      exact ⟨l, i, h1, h2, by (first | decide +kernel | omega), by (first | decide +kernel | omega), h3, by (first | decide +kernel | omega)⟩
    · exfalso
      apply q
      have y0 : y.toBitVec = 0#32 := by
        apply BitVec.eq_of_getLsbD_eq
        intro i hi
        rw [BitVec.getLsbD_zero]
        cases hz : y.toBitVec.getLsbD i with
        | false => rfl
        | true => exact absurd ⟨i, hi, hz⟩ w
      rw [← py, ← Int32.toInt_toBitVec, y0]
      rfl
theorem rnF_b (P : Int → Bool) (b : Int → Int) : ∀ (k : Nat) (p : Int), p ≤ rnF P b k p ∧ rnF P b k p ≤ p + k := by
  intro k
  induction k with
  | zero => intro p; exact ⟨Int.le_refl p, by show p ≤ p + ((0 : Nat) : Int); omega⟩
  | succ k ih =>
    intro p
    show p ≤ (if P (b p) = true then rnF P b k (p + 1) else p) ∧ (if P (b p) = true then rnF P b k (p + 1) else p) ≤ p + ((k + 1 : Nat) : Int)
    split
    · have := ih (p + 1); omega
    · omega
theorem rn_b (P : Int → Bool) (b : Int → Int) {p : Int} (hp : 0 ≤ p) : p ≤ rn P b p ∧ rn P b p ≤ p + 161 := by
  have := rnF_b P b (161 - p).toNat p
  unfold rn
  omega
theorem x_fr_b (b : Int → Int) {p : Int} (hp : 0 ≤ p) : p ≤ x_fr b p ∧ x_fr b p ≤ p + 161 := rn_b blB b hp
theorem x_en_b (b : Int → Int) {p : Int} (hp : 0 ≤ p) : p ≤ x_en b p ∧ x_en b p ≤ p + 330 := by
  have h := x_fr_b b hp
  have h1 := rn_b leB b (p := x_fr b p) (by (first | decide +kernel | omega))
  have h2 := rn_b fiB b (p := x_fr b p) (by (first | decide +kernel | omega))
  unfold x_en
  split
  · omega
  · split
    · omega
    · split <;> omega
theorem x_sq_b {c w lo hi : Int} {r : Int × Int} (h : lo ≤ w ∧ w ≤ hi) (g : lo ≤ r.2 ∧ r.2 ≤ hi) : lo ≤ (x_sq c w r).2 ∧ (x_sq c w r).2 ≤ hi := by
  rcases x_sq_s c w r with q | q
  · omega
  · omega
theorem x_line_b (b : Int → Int) (T : Nat → Int → Int) (n : Int) {p : Int} (hp : 0 ≤ p) : 0 ≤ (x_line b T n p).2 ∧ (x_line b T n p).2 ≤ p + 3000 := by
  have f0 := x_fr_b b hp
  have e0 := x_en_b b hp
  have f1 := x_fr_b b (p := x_en b p) (by (first | decide +kernel | omega))
  have e1 := x_en_b b (p := x_en b p) (by (first | decide +kernel | omega))
  have f2 := x_fr_b b (p := x_en b (x_en b p)) (by (first | decide +kernel | omega))
  have e2 := x_en_b b (p := x_en b (x_en b p)) (by (first | decide +kernel | omega))
  have f3 := x_fr_b b (p := x_en b (x_en b (x_en b p))) (by (first | decide +kernel | omega))
  have e3 := x_en_b b (p := x_en b (x_en b (x_en b p))) (by (first | decide +kernel | omega))
  have f4 := x_fr_b b (p := x_en b (x_en b (x_en b (x_en b p)))) (by (first | decide +kernel | omega))
  have e4 := x_en_b b (p := x_en b (x_en b (x_en b (x_en b p)))) (by (first | decide +kernel | omega))
  unfold x_line
  refine x_sq_b (by (first | decide +kernel | omega)) ?_
  split
  · unfold x_l0; exact x_sq_b (by (first | decide +kernel | omega)) (x_sq_b (by (first | decide +kernel | omega)) (x_sq_b (by (first | decide +kernel | omega)) ⟨by show 0 ≤ x_en b _; omega, by show x_en b _ ≤ _; omega⟩))
  split
  · unfold x_l1; exact x_sq_b (by (first | decide +kernel | omega)) (x_sq_b (by (first | decide +kernel | omega)) (x_sq_b (by (first | decide +kernel | omega)) (x_sq_b (by (first | decide +kernel | omega)) ⟨by show 0 ≤ x_en b _; omega, by show x_en b _ ≤ _; omega⟩)))
  split
  · unfold x_l2; exact x_sq_b (by (first | decide +kernel | omega)) (x_sq_b (by (first | decide +kernel | omega)) (x_sq_b (by (first | decide +kernel | omega)) ⟨by show 0 ≤ x_en b _; omega, by show x_en b _ ≤ _; omega⟩))
  split
  · unfold x_l3; exact x_sq_b (by (first | decide +kernel | omega)) (x_sq_b (by (first | decide +kernel | omega)) (x_sq_b (by (first | decide +kernel | omega)) (x_sq_b (by (first | decide +kernel | omega)) ⟨by show 0 ≤ x_en b _; omega, by show x_en b _ ≤ _; omega⟩)))
  split
  · unfold x_l4; exact x_sq_b (by (first | decide +kernel | omega)) (x_sq_b (by (first | decide +kernel | omega)) (x_sq_b (by (first | decide +kernel | omega)) (x_sq_b (by (first | decide +kernel | omega)) ⟨by show 0 ≤ x_en b _; omega, by show x_en b _ ≤ _; omega⟩)))
  split
  · unfold x_l5; exact x_sq_b (by (first | decide +kernel | omega)) (x_sq_b (by (first | decide +kernel | omega)) (x_sq_b (by (first | decide +kernel | omega)) (x_sq_b (by (first | decide +kernel | omega)) ⟨by show 0 ≤ x_en b _; omega, by show x_en b _ ≤ _; omega⟩)))
  split
  · unfold x_l6; exact x_sq_b (by (first | decide +kernel | omega)) (x_sq_b (by (first | decide +kernel | omega)) ⟨by show 0 ≤ x_en b _; omega, by show x_en b _ ≤ _; omega⟩)
  split
  · unfold x_l7; exact x_sq_b (by (first | decide +kernel | omega)) (x_sq_b (by (first | decide +kernel | omega)) ⟨by show 0 ≤ x_en b _; omega, by show x_en b _ ≤ _; omega⟩)
  split
  · unfold x_l8; exact x_sq_b (by (first | decide +kernel | omega)) (x_sq_b (by (first | decide +kernel | omega)) (x_sq_b (by (first | decide +kernel | omega)) ⟨by show 0 ≤ x_en b _; omega, by show x_en b _ ≤ _; omega⟩))
  · unfold x_l9; exact x_sq_b (by (first | decide +kernel | omega)) (x_sq_b (by (first | decide +kernel | omega)) (x_sq_b (by (first | decide +kernel | omega)) (x_sq_b (by (first | decide +kernel | omega)) (x_sq_b (by (first | decide +kernel | omega)) ⟨by show 0 ≤ x_en b _; omega, by show x_en b _ ≤ _; omega⟩))))
/-- the class's loop over lines: m lines were told; the TOKEN that stands is that of cells k f u -/
def CIx (b : Int → Int) (h : Hp) (s m k f u : Int) : Prop := ∃ n : Nat, m = n ∧ x_ok b n ∧ RC h (x_st b n).1 (x_st b n).2.1 ∧ k = x_kd b (x_st b n).2.2 ∧ f = x_fr b (x_st b n).2.2 ∧ (k = 4 ∨ u = x_en b (x_st b n).2.2) ∧ f ≤ u ∧ u ≤ s ∧ (k = 0 ∧ f = s ∨ k ≠ 0 ∧ f < s) ∧ m ≤ (x_st b n).2.2 ∧ (x_st b n).2.2 ≤ f
theorem CIx_step {b : Int → Int} {h : Hp} {s k f u p : Int} {n : Nat} (hk : x_ok b n) (hd : x_kd b (x_st b n).2.2 ≠ 0) (hl : x_line b (x_st b n).1 ((x_st b n).2.1 86) (x_st b n).2.2 = (0, p)) (hp : (n : Int) < p) (r : RC h (x_T b (x_st b n).1 (x_st b n).2.2) (x_D b (x_st b n).2.1 (x_st b n).2.2)) (h1 : k = x_kd b p) (h2 : f = x_fr b p) (h3 : k = 4 ∨ u = x_en b p) (h4 : f ≤ u) (h5 : u ≤ s) (h6 : k = 0 ∧ f = s ∨ k ≠ 0 ∧ f < s) (h7 : p ≤ f) : CIx b h s ((n : Int) + 1) k f u := by
  have e : p = (x_st b (n + 1)).2.2 := by show p = (x_line b (x_st b n).1 ((x_st b n).2.1 86) (x_st b n).2.2).2; rw [hl]
  have h8 : (x_lk b n).1 = 0 := by unfold x_lk; rw [hl]
  subst e
  exact ⟨n + 1, by (first | decide +kernel | omega), x_ok_s hk hd h8, r, h1, h2, h3, h4, h5, h6, by (first | decide +kernel | omega), h7⟩
theorem neg_ten {y r : Int32} {Y : Int} (e : r = -10 - y) (p : y.toInt = Y) (h : 0 ≤ Y ∧ Y ≤ 4000) : r.toInt < 0 := by
  rw [e, ti_sub (show (-10 : Int32).toInt = -10 from rfl) p (by (first | decide +kernel | omega))]
  omega
end
section
def S_fillX_70 : List (Nat × Option Nat) := [(70, none)]
abbrev q_fillX_70 (h : Hp) (v : Int32) (vZ : Int) : Option Value → Hp → Prop := pVd (fun h' => Inv h' ∧ fr S_fillX_70 h h' ∧ fll h' 70 v 16)
set_option maxRecDepth 100000 in
theorem c_fillX_70 (h : Hp) (hI : Inv h) (v : Int32) (vZ : Int) (vE : v.toInt = vZ) : Ct y_Arr_fill b_Arr_fill 4 none 0 0 [.ref 70, .int v] h (q_fillX_70 h v vZ) := by
  refine ct_ow R_Arr [some (.ref 70), some (.int v), none, none] rfl (by decide) rfl (Nat.le_of_ble_eq_true rfl) ?_
  have f0 : fr S_fillX_70 h h := fr_rf
  refine V_iconst 0 d_Arr_fill_0 (by decide) ?_
  refine V_istore_n 2 [some (.ref 70), some (.int v), some (.int 0), none] d_Arr_fill_1 rfl (by decide) rfl rfl ?_
  refine V_aload_n 0 d_Arr_fill_2 rfl rfl ?_
  refine V_alen sk_70 (by decide) (by decide : Int32.ofNat 16 = 16) d_Arr_fill_3 ?_
  refine V_istore_n 3 [some (.ref 70), some (.int v), some (.int 0), some (.int 16)] d_Arr_fill_4 rfl (by decide) rfl rfl ?_
  have L1 : ∀ (nn : Nat) (v3 : Int32) (v3Z : Int) (h4 : Hp), v3.toInt = v3Z → Inv h4 → fr S_fillX_70 h h4 → 0 ≤ v3Z ∧ v3Z ≤ 16 → fll h4 70 v v3Z → 16 - v3Z < (nn : Int) → V R_Arr b_Arr_fill 4 none 0 0 (q_fillX_70 h v vZ) h4 5 [some (.ref 70), some (.int v), some (.int v3), some (.int 16)] [] := by
    intro nn
    induction nn with
    | zero => intro v3 v3Z h4 v3E Ih4 Fh4 q5 q6 hm7; exact absurd hm7 (by (first | decide +kernel | omega))
    | succ nn ihL1 =>
      intro v3 v3Z h4 v3E Ih4 Fh4 q5 q6 hm7
      refine V_iload_n 2 d_Arr_fill_5 rfl rfl ?_
      refine V_iload_n 3 d_Arr_fill_6 rfl rfl ?_
      refine V_icmp_ge 20 v3E tc_16 d_Arr_fill_7 (by decide) (fun c8 => ?_) (fun c8 => ?_)
      ·
        exact V_vret rfl d_Arr_fill_20 ⟨rfl, ⟨Ih4, Fh4, (fll_le (by assumption) (by (first | decide +kernel | omega)))⟩⟩
      ·
        refine V_aload_n 0 d_Arr_fill_10 rfl rfl ?_
        refine V_iload_n 2 d_Arr_fill_11 rfl rfl ?_
        refine V_iload_n 1 d_Arr_fill_12 rfl rfl ?_
        refine N_iast sk_70 v3E (by (first | decide +kernel | omega)) d_Arr_fill_13 (fun h9 eh9 => ?_)
        have hI10 : Inv h9 := inv_full Ih4 eh9 rfl
        have f11 : fr S_fillX_70 h h9 := fr_put Fh4 eh9 rfl
        obtain ⟨z12, z12E, z12e⟩ : ∃ y : Int32, y.toInt = v3Z + 1 ∧ y = v3 + Int32.ofInt 1 := ⟨_, ti_add v3E (by decide) (by (first | decide +kernel | omega)), rfl⟩
        refine V_iinc 2 [some (.ref 70), some (.int v), some (.int z12), some (.int 16)] d_Arr_fill_14 rfl z12e.symm (by decide) rfl rfl ?_
        refine V_goto 5 d_Arr_fill_17 (by decide) ?_
        exact ihL1 z12 ((v3Z + 1)) h9 z12E hI10 f11 (by (first | decide +kernel | omega)) (fll_s (by assumption) (by (first | decide +kernel | omega)) eh9) (by (first | decide +kernel | omega))
  exact L1 (Int.toNat ((16 - 0 : Int) + 1)) 0 0 h tc_0 hI f0 (by (first | decide +kernel | omega)) fll_0 (by (first | decide +kernel | omega))
def S_fillX_71 : List (Nat × Option Nat) := [(71, none)]
abbrev q_fillX_71 (h : Hp) (v : Int32) (vZ : Int) : Option Value → Hp → Prop := pVd (fun h' => Inv h' ∧ fr S_fillX_71 h h' ∧ fll h' 71 v 16)
set_option maxRecDepth 100000 in
theorem c_fillX_71 (h : Hp) (hI : Inv h) (v : Int32) (vZ : Int) (vE : v.toInt = vZ) : Ct y_Arr_fill b_Arr_fill 4 none 0 0 [.ref 71, .int v] h (q_fillX_71 h v vZ) := by
  refine ct_ow R_Arr [some (.ref 71), some (.int v), none, none] rfl (by decide) rfl (Nat.le_of_ble_eq_true rfl) ?_
  have f0 : fr S_fillX_71 h h := fr_rf
  refine V_iconst 0 d_Arr_fill_0 (by decide) ?_
  refine V_istore_n 2 [some (.ref 71), some (.int v), some (.int 0), none] d_Arr_fill_1 rfl (by decide) rfl rfl ?_
  refine V_aload_n 0 d_Arr_fill_2 rfl rfl ?_
  refine V_alen sk_71 (by decide) (by decide : Int32.ofNat 16 = 16) d_Arr_fill_3 ?_
  refine V_istore_n 3 [some (.ref 71), some (.int v), some (.int 0), some (.int 16)] d_Arr_fill_4 rfl (by decide) rfl rfl ?_
  have L1 : ∀ (nn : Nat) (v3 : Int32) (v3Z : Int) (h4 : Hp), v3.toInt = v3Z → Inv h4 → fr S_fillX_71 h h4 → 0 ≤ v3Z ∧ v3Z ≤ 16 → fll h4 71 v v3Z → 16 - v3Z < (nn : Int) → V R_Arr b_Arr_fill 4 none 0 0 (q_fillX_71 h v vZ) h4 5 [some (.ref 71), some (.int v), some (.int v3), some (.int 16)] [] := by
    intro nn
    induction nn with
    | zero => intro v3 v3Z h4 v3E Ih4 Fh4 q5 q6 hm7; exact absurd hm7 (by (first | decide +kernel | omega))
    | succ nn ihL1 =>
      intro v3 v3Z h4 v3E Ih4 Fh4 q5 q6 hm7
      refine V_iload_n 2 d_Arr_fill_5 rfl rfl ?_
      refine V_iload_n 3 d_Arr_fill_6 rfl rfl ?_
      refine V_icmp_ge 20 v3E tc_16 d_Arr_fill_7 (by decide) (fun c8 => ?_) (fun c8 => ?_)
      ·
        exact V_vret rfl d_Arr_fill_20 ⟨rfl, ⟨Ih4, Fh4, (fll_le (by assumption) (by (first | decide +kernel | omega)))⟩⟩
      ·
        refine V_aload_n 0 d_Arr_fill_10 rfl rfl ?_
        refine V_iload_n 2 d_Arr_fill_11 rfl rfl ?_
        refine V_iload_n 1 d_Arr_fill_12 rfl rfl ?_
        refine N_iast sk_71 v3E (by (first | decide +kernel | omega)) d_Arr_fill_13 (fun h9 eh9 => ?_)
        have hI10 : Inv h9 := inv_full Ih4 eh9 rfl
        have f11 : fr S_fillX_71 h h9 := fr_put Fh4 eh9 rfl
        obtain ⟨z12, z12E, z12e⟩ : ∃ y : Int32, y.toInt = v3Z + 1 ∧ y = v3 + Int32.ofInt 1 := ⟨_, ti_add v3E (by decide) (by (first | decide +kernel | omega)), rfl⟩
        refine V_iinc 2 [some (.ref 71), some (.int v), some (.int z12), some (.int 16)] d_Arr_fill_14 rfl z12e.symm (by decide) rfl rfl ?_
        refine V_goto 5 d_Arr_fill_17 (by decide) ?_
        exact ihL1 z12 ((v3Z + 1)) h9 z12E hI10 f11 (by (first | decide +kernel | omega)) (fll_s (by assumption) (by (first | decide +kernel | omega)) eh9) (by (first | decide +kernel | omega))
  exact L1 (Int.toNat ((16 - 0 : Int) + 1)) 0 0 h tc_0 hI f0 (by (first | decide +kernel | omega)) fll_0 (by (first | decide +kernel | omega))
def S_fillX_72 : List (Nat × Option Nat) := [(72, none)]
abbrev q_fillX_72 (h : Hp) (v : Int32) (vZ : Int) : Option Value → Hp → Prop := pVd (fun h' => Inv h' ∧ fr S_fillX_72 h h' ∧ fll h' 72 v 16)
set_option maxRecDepth 100000 in
theorem c_fillX_72 (h : Hp) (hI : Inv h) (v : Int32) (vZ : Int) (vE : v.toInt = vZ) : Ct y_Arr_fill b_Arr_fill 4 none 0 0 [.ref 72, .int v] h (q_fillX_72 h v vZ) := by
  refine ct_ow R_Arr [some (.ref 72), some (.int v), none, none] rfl (by decide) rfl (Nat.le_of_ble_eq_true rfl) ?_
  have f0 : fr S_fillX_72 h h := fr_rf
  refine V_iconst 0 d_Arr_fill_0 (by decide) ?_
  refine V_istore_n 2 [some (.ref 72), some (.int v), some (.int 0), none] d_Arr_fill_1 rfl (by decide) rfl rfl ?_
  refine V_aload_n 0 d_Arr_fill_2 rfl rfl ?_
  refine V_alen sk_72 (by decide) (by decide : Int32.ofNat 16 = 16) d_Arr_fill_3 ?_
  refine V_istore_n 3 [some (.ref 72), some (.int v), some (.int 0), some (.int 16)] d_Arr_fill_4 rfl (by decide) rfl rfl ?_
  have L1 : ∀ (nn : Nat) (v3 : Int32) (v3Z : Int) (h4 : Hp), v3.toInt = v3Z → Inv h4 → fr S_fillX_72 h h4 → 0 ≤ v3Z ∧ v3Z ≤ 16 → fll h4 72 v v3Z → 16 - v3Z < (nn : Int) → V R_Arr b_Arr_fill 4 none 0 0 (q_fillX_72 h v vZ) h4 5 [some (.ref 72), some (.int v), some (.int v3), some (.int 16)] [] := by
    intro nn
    induction nn with
    | zero => intro v3 v3Z h4 v3E Ih4 Fh4 q5 q6 hm7; exact absurd hm7 (by (first | decide +kernel | omega))
    | succ nn ihL1 =>
      intro v3 v3Z h4 v3E Ih4 Fh4 q5 q6 hm7
      refine V_iload_n 2 d_Arr_fill_5 rfl rfl ?_
      refine V_iload_n 3 d_Arr_fill_6 rfl rfl ?_
      refine V_icmp_ge 20 v3E tc_16 d_Arr_fill_7 (by decide) (fun c8 => ?_) (fun c8 => ?_)
      ·
        exact V_vret rfl d_Arr_fill_20 ⟨rfl, ⟨Ih4, Fh4, (fll_le (by assumption) (by (first | decide +kernel | omega)))⟩⟩
      ·
        refine V_aload_n 0 d_Arr_fill_10 rfl rfl ?_
        refine V_iload_n 2 d_Arr_fill_11 rfl rfl ?_
        refine V_iload_n 1 d_Arr_fill_12 rfl rfl ?_
        refine N_iast sk_72 v3E (by (first | decide +kernel | omega)) d_Arr_fill_13 (fun h9 eh9 => ?_)
        have hI10 : Inv h9 := inv_full Ih4 eh9 rfl
        have f11 : fr S_fillX_72 h h9 := fr_put Fh4 eh9 rfl
        obtain ⟨z12, z12E, z12e⟩ : ∃ y : Int32, y.toInt = v3Z + 1 ∧ y = v3 + Int32.ofInt 1 := ⟨_, ti_add v3E (by decide) (by (first | decide +kernel | omega)), rfl⟩
        refine V_iinc 2 [some (.ref 72), some (.int v), some (.int z12), some (.int 16)] d_Arr_fill_14 rfl z12e.symm (by decide) rfl rfl ?_
        refine V_goto 5 d_Arr_fill_17 (by decide) ?_
        exact ihL1 z12 ((v3Z + 1)) h9 z12E hI10 f11 (by (first | decide +kernel | omega)) (fll_s (by assumption) (by (first | decide +kernel | omega)) eh9) (by (first | decide +kernel | omega))
  exact L1 (Int.toNat ((16 - 0 : Int) + 1)) 0 0 h tc_0 hI f0 (by (first | decide +kernel | omega)) fll_0 (by (first | decide +kernel | omega))
def S_fillX_73 : List (Nat × Option Nat) := [(73, none)]
abbrev q_fillX_73 (h : Hp) (v : Int32) (vZ : Int) : Option Value → Hp → Prop := pVd (fun h' => Inv h' ∧ fr S_fillX_73 h h' ∧ fll h' 73 v 16)
set_option maxRecDepth 100000 in
theorem c_fillX_73 (h : Hp) (hI : Inv h) (v : Int32) (vZ : Int) (vE : v.toInt = vZ) : Ct y_Arr_fill b_Arr_fill 4 none 0 0 [.ref 73, .int v] h (q_fillX_73 h v vZ) := by
  refine ct_ow R_Arr [some (.ref 73), some (.int v), none, none] rfl (by decide) rfl (Nat.le_of_ble_eq_true rfl) ?_
  have f0 : fr S_fillX_73 h h := fr_rf
  refine V_iconst 0 d_Arr_fill_0 (by decide) ?_
  refine V_istore_n 2 [some (.ref 73), some (.int v), some (.int 0), none] d_Arr_fill_1 rfl (by decide) rfl rfl ?_
  refine V_aload_n 0 d_Arr_fill_2 rfl rfl ?_
  refine V_alen sk_73 (by decide) (by decide : Int32.ofNat 16 = 16) d_Arr_fill_3 ?_
  refine V_istore_n 3 [some (.ref 73), some (.int v), some (.int 0), some (.int 16)] d_Arr_fill_4 rfl (by decide) rfl rfl ?_
  have L1 : ∀ (nn : Nat) (v3 : Int32) (v3Z : Int) (h4 : Hp), v3.toInt = v3Z → Inv h4 → fr S_fillX_73 h h4 → 0 ≤ v3Z ∧ v3Z ≤ 16 → fll h4 73 v v3Z → 16 - v3Z < (nn : Int) → V R_Arr b_Arr_fill 4 none 0 0 (q_fillX_73 h v vZ) h4 5 [some (.ref 73), some (.int v), some (.int v3), some (.int 16)] [] := by
    intro nn
    induction nn with
    | zero => intro v3 v3Z h4 v3E Ih4 Fh4 q5 q6 hm7; exact absurd hm7 (by (first | decide +kernel | omega))
    | succ nn ihL1 =>
      intro v3 v3Z h4 v3E Ih4 Fh4 q5 q6 hm7
      refine V_iload_n 2 d_Arr_fill_5 rfl rfl ?_
      refine V_iload_n 3 d_Arr_fill_6 rfl rfl ?_
      refine V_icmp_ge 20 v3E tc_16 d_Arr_fill_7 (by decide) (fun c8 => ?_) (fun c8 => ?_)
      ·
        exact V_vret rfl d_Arr_fill_20 ⟨rfl, ⟨Ih4, Fh4, (fll_le (by assumption) (by (first | decide +kernel | omega)))⟩⟩
      ·
        refine V_aload_n 0 d_Arr_fill_10 rfl rfl ?_
        refine V_iload_n 2 d_Arr_fill_11 rfl rfl ?_
        refine V_iload_n 1 d_Arr_fill_12 rfl rfl ?_
        refine N_iast sk_73 v3E (by (first | decide +kernel | omega)) d_Arr_fill_13 (fun h9 eh9 => ?_)
        have hI10 : Inv h9 := inv_full Ih4 eh9 rfl
        have f11 : fr S_fillX_73 h h9 := fr_put Fh4 eh9 rfl
        obtain ⟨z12, z12E, z12e⟩ : ∃ y : Int32, y.toInt = v3Z + 1 ∧ y = v3 + Int32.ofInt 1 := ⟨_, ti_add v3E (by decide) (by (first | decide +kernel | omega)), rfl⟩
        refine V_iinc 2 [some (.ref 73), some (.int v), some (.int z12), some (.int 16)] d_Arr_fill_14 rfl z12e.symm (by decide) rfl rfl ?_
        refine V_goto 5 d_Arr_fill_17 (by decide) ?_
        exact ihL1 z12 ((v3Z + 1)) h9 z12E hI10 f11 (by (first | decide +kernel | omega)) (fll_s (by assumption) (by (first | decide +kernel | omega)) eh9) (by (first | decide +kernel | omega))
  exact L1 (Int.toNat ((16 - 0 : Int) + 1)) 0 0 h tc_0 hI f0 (by (first | decide +kernel | omega)) fll_0 (by (first | decide +kernel | omega))
def S_fillX_74 : List (Nat × Option Nat) := [(74, none)]
abbrev q_fillX_74 (h : Hp) (v : Int32) (vZ : Int) : Option Value → Hp → Prop := pVd (fun h' => Inv h' ∧ fr S_fillX_74 h h' ∧ fll h' 74 v 16)
set_option maxRecDepth 100000 in
theorem c_fillX_74 (h : Hp) (hI : Inv h) (v : Int32) (vZ : Int) (vE : v.toInt = vZ) : Ct y_Arr_fill b_Arr_fill 4 none 0 0 [.ref 74, .int v] h (q_fillX_74 h v vZ) := by
  refine ct_ow R_Arr [some (.ref 74), some (.int v), none, none] rfl (by decide) rfl (Nat.le_of_ble_eq_true rfl) ?_
  have f0 : fr S_fillX_74 h h := fr_rf
  refine V_iconst 0 d_Arr_fill_0 (by decide) ?_
  refine V_istore_n 2 [some (.ref 74), some (.int v), some (.int 0), none] d_Arr_fill_1 rfl (by decide) rfl rfl ?_
  refine V_aload_n 0 d_Arr_fill_2 rfl rfl ?_
  refine V_alen sk_74 (by decide) (by decide : Int32.ofNat 16 = 16) d_Arr_fill_3 ?_
  refine V_istore_n 3 [some (.ref 74), some (.int v), some (.int 0), some (.int 16)] d_Arr_fill_4 rfl (by decide) rfl rfl ?_
  have L1 : ∀ (nn : Nat) (v3 : Int32) (v3Z : Int) (h4 : Hp), v3.toInt = v3Z → Inv h4 → fr S_fillX_74 h h4 → 0 ≤ v3Z ∧ v3Z ≤ 16 → fll h4 74 v v3Z → 16 - v3Z < (nn : Int) → V R_Arr b_Arr_fill 4 none 0 0 (q_fillX_74 h v vZ) h4 5 [some (.ref 74), some (.int v), some (.int v3), some (.int 16)] [] := by
    intro nn
    induction nn with
    | zero => intro v3 v3Z h4 v3E Ih4 Fh4 q5 q6 hm7; exact absurd hm7 (by (first | decide +kernel | omega))
    | succ nn ihL1 =>
      intro v3 v3Z h4 v3E Ih4 Fh4 q5 q6 hm7
      refine V_iload_n 2 d_Arr_fill_5 rfl rfl ?_
      refine V_iload_n 3 d_Arr_fill_6 rfl rfl ?_
      refine V_icmp_ge 20 v3E tc_16 d_Arr_fill_7 (by decide) (fun c8 => ?_) (fun c8 => ?_)
      ·
        exact V_vret rfl d_Arr_fill_20 ⟨rfl, ⟨Ih4, Fh4, (fll_le (by assumption) (by (first | decide +kernel | omega)))⟩⟩
      ·
        refine V_aload_n 0 d_Arr_fill_10 rfl rfl ?_
        refine V_iload_n 2 d_Arr_fill_11 rfl rfl ?_
        refine V_iload_n 1 d_Arr_fill_12 rfl rfl ?_
        refine N_iast sk_74 v3E (by (first | decide +kernel | omega)) d_Arr_fill_13 (fun h9 eh9 => ?_)
        have hI10 : Inv h9 := inv_full Ih4 eh9 rfl
        have f11 : fr S_fillX_74 h h9 := fr_put Fh4 eh9 rfl
        obtain ⟨z12, z12E, z12e⟩ : ∃ y : Int32, y.toInt = v3Z + 1 ∧ y = v3 + Int32.ofInt 1 := ⟨_, ti_add v3E (by decide) (by (first | decide +kernel | omega)), rfl⟩
        refine V_iinc 2 [some (.ref 74), some (.int v), some (.int z12), some (.int 16)] d_Arr_fill_14 rfl z12e.symm (by decide) rfl rfl ?_
        refine V_goto 5 d_Arr_fill_17 (by decide) ?_
        exact ihL1 z12 ((v3Z + 1)) h9 z12E hI10 f11 (by (first | decide +kernel | omega)) (fll_s (by assumption) (by (first | decide +kernel | omega)) eh9) (by (first | decide +kernel | omega))
  exact L1 (Int.toNat ((16 - 0 : Int) + 1)) 0 0 h tc_0 hI f0 (by (first | decide +kernel | omega)) fll_0 (by (first | decide +kernel | omega))
def S_fillX_76 : List (Nat × Option Nat) := [(76, none)]
abbrev q_fillX_76 (h : Hp) (v : Int32) (vZ : Int) : Option Value → Hp → Prop := pVd (fun h' => Inv h' ∧ fr S_fillX_76 h h' ∧ fll h' 76 v 4)
set_option maxRecDepth 100000 in
theorem c_fillX_76 (h : Hp) (hI : Inv h) (v : Int32) (vZ : Int) (vE : v.toInt = vZ) : Ct y_Arr_fill b_Arr_fill 4 none 0 0 [.ref 76, .int v] h (q_fillX_76 h v vZ) := by
  refine ct_ow R_Arr [some (.ref 76), some (.int v), none, none] rfl (by decide) rfl (Nat.le_of_ble_eq_true rfl) ?_
  have f0 : fr S_fillX_76 h h := fr_rf
  refine V_iconst 0 d_Arr_fill_0 (by decide) ?_
  refine V_istore_n 2 [some (.ref 76), some (.int v), some (.int 0), none] d_Arr_fill_1 rfl (by decide) rfl rfl ?_
  refine V_aload_n 0 d_Arr_fill_2 rfl rfl ?_
  refine V_alen sk_76 (by decide) (by decide : Int32.ofNat 4 = 4) d_Arr_fill_3 ?_
  refine V_istore_n 3 [some (.ref 76), some (.int v), some (.int 0), some (.int 4)] d_Arr_fill_4 rfl (by decide) rfl rfl ?_
  have L1 : ∀ (nn : Nat) (v3 : Int32) (v3Z : Int) (h4 : Hp), v3.toInt = v3Z → Inv h4 → fr S_fillX_76 h h4 → 0 ≤ v3Z ∧ v3Z ≤ 4 → fll h4 76 v v3Z → 4 - v3Z < (nn : Int) → V R_Arr b_Arr_fill 4 none 0 0 (q_fillX_76 h v vZ) h4 5 [some (.ref 76), some (.int v), some (.int v3), some (.int 4)] [] := by
    intro nn
    induction nn with
    | zero => intro v3 v3Z h4 v3E Ih4 Fh4 q5 q6 hm7; exact absurd hm7 (by (first | decide +kernel | omega))
    | succ nn ihL1 =>
      intro v3 v3Z h4 v3E Ih4 Fh4 q5 q6 hm7
      refine V_iload_n 2 d_Arr_fill_5 rfl rfl ?_
      refine V_iload_n 3 d_Arr_fill_6 rfl rfl ?_
      refine V_icmp_ge 20 v3E tc_4 d_Arr_fill_7 (by decide) (fun c8 => ?_) (fun c8 => ?_)
      ·
        exact V_vret rfl d_Arr_fill_20 ⟨rfl, ⟨Ih4, Fh4, (fll_le (by assumption) (by (first | decide +kernel | omega)))⟩⟩
      ·
        refine V_aload_n 0 d_Arr_fill_10 rfl rfl ?_
        refine V_iload_n 2 d_Arr_fill_11 rfl rfl ?_
        refine V_iload_n 1 d_Arr_fill_12 rfl rfl ?_
        refine N_iast sk_76 v3E (by (first | decide +kernel | omega)) d_Arr_fill_13 (fun h9 eh9 => ?_)
        have hI10 : Inv h9 := inv_full Ih4 eh9 rfl
        have f11 : fr S_fillX_76 h h9 := fr_put Fh4 eh9 rfl
        obtain ⟨z12, z12E, z12e⟩ : ∃ y : Int32, y.toInt = v3Z + 1 ∧ y = v3 + Int32.ofInt 1 := ⟨_, ti_add v3E (by decide) (by (first | decide +kernel | omega)), rfl⟩
        refine V_iinc 2 [some (.ref 76), some (.int v), some (.int z12), some (.int 4)] d_Arr_fill_14 rfl z12e.symm (by decide) rfl rfl ?_
        refine V_goto 5 d_Arr_fill_17 (by decide) ?_
        exact ihL1 z12 ((v3Z + 1)) h9 z12E hI10 f11 (by (first | decide +kernel | omega)) (fll_s (by assumption) (by (first | decide +kernel | omega)) eh9) (by (first | decide +kernel | omega))
  exact L1 (Int.toNat ((4 - 0 : Int) + 1)) 0 0 h tc_0 hI f0 (by (first | decide +kernel | omega)) fll_0 (by (first | decide +kernel | omega))
def S_fillX_92 : List (Nat × Option Nat) := [(92, none)]
abbrev q_fillX_92 (h : Hp) (v : Int32) (vZ : Int) : Option Value → Hp → Prop := pVd (fun h' => Inv h' ∧ fr S_fillX_92 h h' ∧ fll h' 92 v 10)
set_option maxRecDepth 100000 in
theorem c_fillX_92 (h : Hp) (hI : Inv h) (v : Int32) (vZ : Int) (vE : v.toInt = vZ) : Ct y_Arr_fill b_Arr_fill 4 none 0 0 [.ref 92, .int v] h (q_fillX_92 h v vZ) := by
  refine ct_ow R_Arr [some (.ref 92), some (.int v), none, none] rfl (by decide) rfl (Nat.le_of_ble_eq_true rfl) ?_
  have f0 : fr S_fillX_92 h h := fr_rf
  refine V_iconst 0 d_Arr_fill_0 (by decide) ?_
  refine V_istore_n 2 [some (.ref 92), some (.int v), some (.int 0), none] d_Arr_fill_1 rfl (by decide) rfl rfl ?_
  refine V_aload_n 0 d_Arr_fill_2 rfl rfl ?_
  refine V_alen sk_92 (by decide) (by decide : Int32.ofNat 10 = 10) d_Arr_fill_3 ?_
  refine V_istore_n 3 [some (.ref 92), some (.int v), some (.int 0), some (.int 10)] d_Arr_fill_4 rfl (by decide) rfl rfl ?_
  have L1 : ∀ (nn : Nat) (v3 : Int32) (v3Z : Int) (h4 : Hp), v3.toInt = v3Z → Inv h4 → fr S_fillX_92 h h4 → 0 ≤ v3Z ∧ v3Z ≤ 10 → fll h4 92 v v3Z → 10 - v3Z < (nn : Int) → V R_Arr b_Arr_fill 4 none 0 0 (q_fillX_92 h v vZ) h4 5 [some (.ref 92), some (.int v), some (.int v3), some (.int 10)] [] := by
    intro nn
    induction nn with
    | zero => intro v3 v3Z h4 v3E Ih4 Fh4 q5 q6 hm7; exact absurd hm7 (by (first | decide +kernel | omega))
    | succ nn ihL1 =>
      intro v3 v3Z h4 v3E Ih4 Fh4 q5 q6 hm7
      refine V_iload_n 2 d_Arr_fill_5 rfl rfl ?_
      refine V_iload_n 3 d_Arr_fill_6 rfl rfl ?_
      refine V_icmp_ge 20 v3E tc_10 d_Arr_fill_7 (by decide) (fun c8 => ?_) (fun c8 => ?_)
      ·
        exact V_vret rfl d_Arr_fill_20 ⟨rfl, ⟨Ih4, Fh4, (fll_le (by assumption) (by (first | decide +kernel | omega)))⟩⟩
      ·
        refine V_aload_n 0 d_Arr_fill_10 rfl rfl ?_
        refine V_iload_n 2 d_Arr_fill_11 rfl rfl ?_
        refine V_iload_n 1 d_Arr_fill_12 rfl rfl ?_
        refine N_iast sk_92 v3E (by (first | decide +kernel | omega)) d_Arr_fill_13 (fun h9 eh9 => ?_)
        have hI10 : Inv h9 := inv_full Ih4 eh9 rfl
        have f11 : fr S_fillX_92 h h9 := fr_put Fh4 eh9 rfl
        obtain ⟨z12, z12E, z12e⟩ : ∃ y : Int32, y.toInt = v3Z + 1 ∧ y = v3 + Int32.ofInt 1 := ⟨_, ti_add v3E (by decide) (by (first | decide +kernel | omega)), rfl⟩
        refine V_iinc 2 [some (.ref 92), some (.int v), some (.int z12), some (.int 10)] d_Arr_fill_14 rfl z12e.symm (by decide) rfl rfl ?_
        refine V_goto 5 d_Arr_fill_17 (by decide) ?_
        exact ihL1 z12 ((v3Z + 1)) h9 z12E hI10 f11 (by (first | decide +kernel | omega)) (fll_s (by assumption) (by (first | decide +kernel | omega)) eh9) (by (first | decide +kernel | omega))
  exact L1 (Int.toNat ((10 - 0 : Int) + 1)) 0 0 h tc_0 hI f0 (by (first | decide +kernel | omega)) fll_0 (by (first | decide +kernel | omega))
def S_Land_resetX_4 : List (Nat × Option Nat) := [(69, none), (70, none), (71, none), (72, none), (73, none), (74, none)]
abbrev q_Land_resetX_4 (h : Hp)  : Option Value → Hp → Prop := pVd (fun h' => Inv h' ∧ fr S_Land_resetX_4 h h' ∧ LR h')
set_option maxRecDepth 100000 in
theorem c_Land_resetX_4 (h : Hp) (hI : Inv h) : Ct y_Land_reset b_Land_reset 1 none 1 23 [.ref 69] h (q_Land_resetX_4 h ) := by
  refine ct_ow R_Land [some (.ref 69)] rfl (by decide) rfl (Nat.le_of_ble_eq_true rfl) ?_
  have f0 : fr S_Land_resetX_4 h h := fr_rf
  refine V_aload_n 0 d_Land_reset_0 rfl rfl ?_
  refine V_iconst 3 d_Land_reset_1 (by decide) ?_
  refine N_putI fp_Land_27 sk_69 rfl d_Land_reset_2 (fun h1 eh1 => ?_)
  have hI2 : Inv h1 := inv_put (lo := 2) (hi := 4) hI eh1 rfl tc_3 (by (first | decide +kernel | omega))
  have f3 : fr S_Land_resetX_4 h h1 := fr_put f0 eh1 rfl
  refine V_aload_n 0 d_Land_reset_5 rfl rfl ?_
  refine V_iconst 3 d_Land_reset_6 (by decide) ?_
  refine N_putI fp_Land_31 sk_69 rfl d_Land_reset_7 (fun h4 eh4 => ?_)
  have hI5 : Inv h4 := inv_put (lo := 2) (hi := 4) hI2 eh4 rfl tc_3 (by (first | decide +kernel | omega))
  have f6 : fr S_Land_resetX_4 h h4 := fr_put f3 eh4 rfl
  refine V_aload_n 0 d_Land_reset_10 rfl rfl ?_
  refine V_iconst 1 d_Land_reset_11 (by decide) ?_
  refine N_putI fp_Land_34 sk_69 rfl d_Land_reset_12 (fun h7 eh7 => ?_)
  have hI8 : Inv h7 := inv_full hI5 eh7 rfl
  have f9 : fr S_Land_resetX_4 h h7 := fr_put f6 eh7 rfl
  refine V_aload_n 0 d_Land_reset_15 rfl rfl ?_
  refine V_bipush 10 d_Land_reset_16 (by decide) ?_
  refine N_putI fp_Land_37 sk_69 rfl d_Land_reset_18 (fun h10 eh10 => ?_)
  have hI11 : Inv h10 := inv_full hI8 eh10 rfl
  have f12 : fr S_Land_resetX_4 h h10 := fr_put f9 eh10 rfl
  refine V_aload_n 0 d_Land_reset_21 rfl rfl ?_
  refine V_getR fa_Land_9 sk_69 rfl d_Land_reset_22 ?_
  refine V_iconst 0 d_Land_reset_25 (by decide) ?_
  refine N_callSV [.ref 70, .int 0] [] cs_Land_40 d_Land_reset_26 rfl (Nat.le_of_ble_eq_true rfl) (by decide) (by decide) (c_fillX_70 h10 hI11 0 0 tc_0) (fun h14 p15 => ?_)
  obtain ⟨hI16, fh14, p15⟩ := p15
  have f17 : fr S_Land_resetX_4 h h14 := fr_call f12 fh14 rfl
  refine V_aload_n 0 d_Land_reset_29 rfl rfl ?_
  refine V_getR fa_Land_15 sk_69 rfl d_Land_reset_30 ?_
  refine V_iconst 0 d_Land_reset_33 (by decide) ?_
  refine N_callSV [.ref 71, .int 0] [] cs_Land_40 d_Land_reset_34 rfl (Nat.le_of_ble_eq_true rfl) (by decide) (by decide) (c_fillX_71 h14 hI16 0 0 tc_0) (fun h19 p20 => ?_)
  obtain ⟨hI21, fh19, p20⟩ := p20
  have f22 : fr S_Land_resetX_4 h h19 := fr_call f17 fh19 rfl
  have A23 : fll h19 70 0 16 := fll_fr fh19 (fun _ => rfl) p15
  refine V_aload_n 0 d_Land_reset_37 rfl rfl ?_
  refine V_getR fa_Land_18 sk_69 rfl d_Land_reset_38 ?_
  refine V_iconst 5 d_Land_reset_41 (by decide) ?_
  refine N_callSV [.ref 72, .int 5] [] cs_Land_40 d_Land_reset_42 rfl (Nat.le_of_ble_eq_true rfl) (by decide) (by decide) (c_fillX_72 h19 hI21 5 5 tc_5) (fun h25 p26 => ?_)
  obtain ⟨hI27, fh25, p26⟩ := p26
  have f28 : fr S_Land_resetX_4 h h25 := fr_call f22 fh25 rfl
  have A29 : fll h25 70 0 16 := fll_fr fh25 (fun _ => rfl) A23
  have A30 : fll h25 71 0 16 := fll_fr fh25 (fun _ => rfl) p20
  refine V_aload_n 0 d_Land_reset_45 rfl rfl ?_
  refine V_getR fa_Land_21 sk_69 rfl d_Land_reset_46 ?_
  refine V_bipush (-4) d_Land_reset_49 (by decide) ?_
  refine N_callSV [.ref 73, .int (-4)] [] cs_Land_40 d_Land_reset_51 rfl (Nat.le_of_ble_eq_true rfl) (by decide) (by decide) (c_fillX_73 h25 hI27 (-4) ((-4)) tc_m4) (fun h32 p33 => ?_)
  obtain ⟨hI34, fh32, p33⟩ := p33
  have f35 : fr S_Land_resetX_4 h h32 := fr_call f28 fh32 rfl
  have A36 : fll h32 70 0 16 := fll_fr fh32 (fun _ => rfl) A29
  have A37 : fll h32 71 0 16 := fll_fr fh32 (fun _ => rfl) A30
  have A38 : fll h32 72 5 16 := fll_fr fh32 (fun _ => rfl) p26
  refine V_aload_n 0 d_Land_reset_54 rfl rfl ?_
  refine V_getR fa_Land_24 sk_69 rfl d_Land_reset_55 ?_
  refine V_iconst 0 d_Land_reset_58 (by decide) ?_
  refine N_callSV [.ref 74, .int 0] [] cs_Land_40 d_Land_reset_59 rfl (Nat.le_of_ble_eq_true rfl) (by decide) (by decide) (c_fillX_74 h32 hI34 0 0 tc_0) (fun h40 p41 => ?_)
  obtain ⟨hI42, fh40, p41⟩ := p41
  have f43 : fr S_Land_resetX_4 h h40 := fr_call f35 fh40 rfl
  have A44 : fll h40 70 0 16 := fll_fr fh40 (fun _ => rfl) A36
  have A45 : fll h40 71 0 16 := fll_fr fh40 (fun _ => rfl) A37
  have A46 : fll h40 72 5 16 := fll_fr fh40 (fun _ => rfl) A38
  have A47 : fll h40 73 (-4) 16 := fll_fr fh40 (fun _ => rfl) p33
  exact V_vret rfl d_Land_reset_62 ⟨rfl, ⟨hI42, f43, ⟨(kn_call fh40 (kn_call fh32 (kn_call fh25 (kn_call fh19 (kn_call fh14 (kn_nei eh10 (kn_nei eh7 (kn_nei eh4 (kn_put eh1) (by decide)) (by decide)) (by decide)) rfl) rfl) rfl) rfl) rfl), (kn_call fh40 (kn_call fh32 (kn_call fh25 (kn_call fh19 (kn_call fh14 (kn_nei eh10 (kn_nei eh7 (kn_put eh4) (by decide)) (by decide)) rfl) rfl) rfl) rfl) rfl), (kn_call fh40 (kn_call fh32 (kn_call fh25 (kn_call fh19 (kn_call fh14 (kn_nei eh10 (kn_put eh7) (by decide)) rfl) rfl) rfl) rfl) rfl), (kn_call fh40 (kn_call fh32 (kn_call fh25 (kn_call fh19 (kn_call fh14 (kn_put eh10) rfl) rfl) rfl) rfl) rfl), A44, A45, A46, A47, p41⟩⟩⟩
def S_Ledger_resetX_4 : List (Nat × Option Nat) := [(76, none), (75, some 4)]
abbrev q_Ledger_resetX_4 (h : Hp)  : Option Value → Hp → Prop := pVd (fun h' => Inv h' ∧ fr S_Ledger_resetX_4 h h' ∧ (fll h' 76 0 4 ∧ h'.1 75 4 = 0))
set_option maxRecDepth 100000 in
theorem c_Ledger_resetX_4 (h : Hp) (hI : Inv h) : Ct y_Ledger_reset b_Ledger_reset 1 none 1 23 [.ref 75] h (q_Ledger_resetX_4 h ) := by
  refine ct_ow R_Ledger [some (.ref 75)] rfl (by decide) rfl (Nat.le_of_ble_eq_true rfl) ?_
  have f0 : fr S_Ledger_resetX_4 h h := fr_rf
  refine V_aload_n 0 d_Ledger_reset_0 rfl rfl ?_
  refine V_getR fa_Ledger_9 sk_75 rfl d_Ledger_reset_1 ?_
  refine V_iconst 0 d_Ledger_reset_4 (by decide) ?_
  refine N_callSV [.ref 76, .int 0] [] cs_Ledger_24 d_Ledger_reset_5 rfl (Nat.le_of_ble_eq_true rfl) (by decide) (by decide) (c_fillX_76 h hI 0 0 tc_0) (fun h2 p3 => ?_)
  obtain ⟨hI4, fh2, p3⟩ := p3
  have f5 : fr S_Ledger_resetX_4 h h2 := fr_call f0 fh2 rfl
  refine V_aload_n 0 d_Ledger_reset_8 rfl rfl ?_
  refine V_iconst 0 d_Ledger_reset_9 (by decide) ?_
  refine N_putI fp_Ledger_30 sk_75 rfl d_Ledger_reset_10 (fun h6 eh6 => ?_)
  have hI7 : Inv h6 := inv_put (lo := 0) (hi := 8) hI4 eh6 rfl tc_0 (by (first | decide +kernel | omega))
  have f8 : fr S_Ledger_resetX_4 h h6 := fr_put f5 eh6 rfl
  exact V_vret rfl d_Ledger_reset_13 ⟨rfl, ⟨hI7, f8, ⟨fll_ne eh6 (by decide) p3, (kn_put eh6)⟩⟩⟩
def S_County_resetX_4 : List (Nat × Option Nat) := [(69, none), (70, none), (71, none), (72, none), (73, none), (74, none), (76, none), (75, some 4), (80, some 4), (68, some 3), (68, some 4)]
abbrev q_County_resetX_4 (h : Hp)  : Option Value → Hp → Prop := pVd (fun h' => Inv h' ∧ fr S_County_resetX_4 h h' ∧ RCd h' x_D0)
set_option maxRecDepth 100000 in
theorem c_County_resetX_4 (h : Hp) (hI : Inv h) : Ct y_County_reset b_County_reset 1 none 2 43 [.ref 68] h (q_County_resetX_4 h ) := by
  refine ct_ow R_County [some (.ref 68)] rfl (by decide) rfl (Nat.le_of_ble_eq_true rfl) ?_
  have f0 : fr S_County_resetX_4 h h := fr_rf
  refine V_aload_n 0 d_County_reset_0 rfl rfl ?_
  refine V_getR fa_County_12 sk_68 rfl d_County_reset_1 ?_
  refine N_callVV [] [] cv_County_35 sk_69 rfl d_County_reset_4 rfl (Nat.le_of_ble_eq_true rfl) (by decide) (by decide) (c_Land_resetX_4 h hI) (fun h2 p3 => ?_)
  obtain ⟨hI4, fh2, p3⟩ := p3
  have f5 : fr S_County_resetX_4 h h2 := fr_call f0 fh2 rfl
  have qL := p3
  refine V_aload_n 0 d_County_reset_7 rfl rfl ?_
  refine V_getR fa_County_21 sk_68 rfl d_County_reset_8 ?_
  refine N_callVV [] [] cv_County_36 sk_75 rfl d_County_reset_11 rfl (Nat.le_of_ble_eq_true rfl) (by decide) (by decide) (c_Ledger_resetX_4 h2 hI4) (fun h7 p8 => ?_)
  obtain ⟨hI9, fh7, p8⟩ := p8
  have f10 : fr S_County_resetX_4 h h7 := fr_call f5 fh7 rfl
  have qL2 : LR h7 := LR_fr fh7 rfl qL
  have qG := p8
  refine V_aload_n 0 d_County_reset_14 rfl rfl ?_
  refine V_getR fa_County_28 sk_68 rfl d_County_reset_15 ?_
  refine V_iconst 0 d_County_reset_18 (by decide) ?_
  refine N_putI fp_County_37 sk_80 rfl d_County_reset_19 (fun h11 eh11 => ?_)
  have hI12 : Inv h11 := inv_put (lo := 0) (hi := 8) hI9 eh11 rfl tc_0 (by (first | decide +kernel | omega))
  have f13 : fr S_County_resetX_4 h h11 := fr_put f10 eh11 rfl
  refine V_aload_n 0 d_County_reset_22 rfl rfl ?_
  refine V_iconst 0 d_County_reset_23 (by decide) ?_
  refine N_putI fp_County_41 sk_68 rfl d_County_reset_24 (fun h14 eh14 => ?_)
  have hI15 : Inv h14 := inv_full hI12 eh14 rfl
  have f16 : fr S_County_resetX_4 h h14 := fr_put f13 eh14 rfl
  refine V_aload_n 0 d_County_reset_27 rfl rfl ?_
  refine V_bipush 9 d_County_reset_28 (by decide) ?_
  refine N_putI fp_County_44 sk_68 rfl d_County_reset_30 (fun h17 eh17 => ?_)
  have hI18 : Inv h17 := inv_full hI15 eh17 rfl
  have f19 : fr S_County_resetX_4 h h17 := fr_put f16 eh17 rfl
  exact V_vret rfl d_County_reset_33 ⟨rfl, ⟨hI18, f19, (RCd_first (LR_ne eh17 (by decide) (LR_ne eh14 (by decide) (LR_ne eh11 (by decide) qL2))) (fll_ne eh17 (by decide) (fll_ne eh14 (by decide) (fll_ne eh11 (by decide) qG.1))) (kn_ne eh17 (kn_ne eh14 (kn_ne eh11 qG.2 (by decide)) (by decide)) (by decide)) (kn_ne eh17 (kn_ne eh14 (kn_put eh11) (by decide)) (by decide)) (kn_nei eh17 (kn_put eh14) (by decide)) (kn_put eh17))⟩⟩
def S_Tape_rewindX : List (Nat × Option Nat) := [(89, some 4)]
abbrev q_Tape_rewindX (h : Hp)  : Option Value → Hp → Prop := pVd (fun h' => Inv h' ∧ fr S_Tape_rewindX h h' ∧ ∃ (u : Int32) (uZ : Int), u.toInt = uZ ∧ h'.1 89 4 = u ∧ (uZ = 0))
set_option maxRecDepth 100000 in
theorem c_Tape_rewindX (h : Hp) (hI : Inv h) : Ct y_Tape_rewind b_Tape_rewind 1 none 0 0 [.ref 89] h (q_Tape_rewindX h ) := by
  refine ct_ow R_Tape [some (.ref 89)] rfl (by decide) rfl (Nat.le_of_ble_eq_true rfl) ?_
  have f0 : fr S_Tape_rewindX h h := fr_rf
  refine V_aload_n 0 d_Tape_rewind_0 rfl rfl ?_
  refine V_iconst 0 d_Tape_rewind_1 (by decide) ?_
  refine N_putI fp_Tape_15 sk_89 rfl d_Tape_rewind_2 (fun h1 eh1 => ?_)
  have hI2 : Inv h1 := inv_put (lo := 0) (hi := 160) hI eh1 rfl tc_0 (by (first | decide +kernel | omega))
  have f3 : fr S_Tape_rewindX h h1 := fr_put f0 eh1 rfl
  exact V_vret rfl d_Tape_rewind_5 ⟨rfl, ⟨hI2, f3, 0, 0, tc_0, (kn_put eh1), (by (first | decide +kernel | omega))⟩⟩
abbrev q_Land_allBitsX_4 (h : Hp) (w : Int32) (wZ : Int) (g : Int32) (gZ : Int) : Option Value → Hp → Prop := pInt (fun r h' => h = h' ∧ (∃ c : Int32, c.toInt = wZ * gZ ∧ r = ((1 : Int32) <<< (c &&& 31)) - 1))
set_option maxRecDepth 100000 in
theorem c_Land_allBitsX_4 (h : Hp) (hI : Inv h) (w : Int32) (wZ : Int) (wE : w.toInt = wZ) (wK : h.1 69 0 = w) (g : Int32) (gZ : Int) (gE : g.toInt = gZ) (gK : h.1 69 1 = g) : Ct y_Land_allBits b_Land_allBits 1 (some .int) 1 20 [.ref 69] h (q_Land_allBitsX_4 h w wZ g gZ) := by
  refine ct_ow R_Land [some (.ref 69)] rfl (by decide) rfl (Nat.le_of_ble_eq_true rfl) ?_
  have f0 : fr [] h h := fr_rf
  have g1 : 2 ≤ wZ ∧ wZ ≤ 4 := inv_at hI wE wK.symm rfl
  have g2 : 2 ≤ gZ ∧ gZ ≤ 4 := inv_at hI gE gK.symm rfl
  refine V_iconst 1 d_Land_allBits_0 (by decide) ?_
  refine V_aload_n 0 d_Land_allBits_1 rfl rfl ?_
  refine N_callVI [] [.int 1] cv_Land_52 sk_69 rfl d_Land_allBits_2 rfl (Nat.le_of_ble_eq_true rfl) (by decide) (by decide) (c_Land_cells_4 h hI w wZ wE wK g gZ gE gK) (fun z3 h4 z3Z z3E p5 => ?_)
  obtain ⟨eh4, p5⟩ := p5
  subst eh4
  refine N_ishl d_Land_allBits_5 (fun z6 z6Z z6E z6e => ?_)
  refine V_iconst 1 d_Land_allBits_6 (by decide) ?_
  refine N_isubw d_Land_allBits_7 (fun z7 z7Z z7E z7e => ?_)
  exact V_iret rfl d_Land_allBits_8 ⟨z7, rfl, ⟨rfl, ⟨z3, z3E.trans (by (first | decide +kernel | omega)), by rw [z7e, z6e]⟩⟩⟩
abbrev q_Reader_tellsBeyondX (h : Hp) (T : Nat → Int → Int) (D : Nat → Int) (w : Int32) (wZ : Int) (g : Int32) (gZ : Int) (t1 : Int32) (t1Z : Int) (t2 : Int32) (t2Z : Int) (t3 : Int32) (t3Z : Int) (t4 : Int32) (t4Z : Int) : Option Value → Hp → Prop := pInt (fun r h' => h = h' ∧ (r.toInt = 1 ∧ x_by T (D 144 * D 145) ∨ r.toInt = 0 ∧ ¬ x_by T (D 144 * D 145)))
set_option maxRecDepth 100000 in
theorem c_Reader_tellsBeyondX (h : Hp) (T : Nat → Int → Int) (D : Nat → Int) (hI : Inv h) (w : Int32) (wZ : Int) (wE : w.toInt = wZ) (wK : h.1 69 0 = w) (g : Int32) (gZ : Int) (gE : g.toInt = gZ) (gK : h.1 69 1 = g) (t1 : Int32) (t1Z : Int) (t1E : t1.toInt = t1Z) (t1K : h.1 92 1 = t1) (t2 : Int32) (t2Z : Int) (t2E : t2.toInt = t2Z) (t2K : h.1 92 2 = t2) (t3 : Int32) (t3Z : Int) (t3E : t3.toInt = t3Z) (t3K : h.1 92 3 = t3) (t4 : Int32) (t4Z : Int) (t4E : t4.toInt = t4Z) (t4K : h.1 92 4 = t4) (hy0 : RC h T D) (hy1 : 2 ≤ D 144 ∧ D 144 ≤ 4 ∧ 2 ≤ D 145 ∧ D 145 ≤ 4) : Ct y_Reader_tellsBeyondCounty b_Reader_tellsBeyondCounty 2 (some .boolean) 2 40 [.ref 88] h (q_Reader_tellsBeyondX h T D w wZ g gZ t1 t1Z t2 t2Z t3 t3Z t4 t4Z) := by
  refine ct_ow R_Reader [some (.ref 88), none] rfl (by decide) rfl (Nat.le_of_ble_eq_true rfl) ?_
  have f0 : fr [] h h := fr_rf
  have g1 : 2 ≤ wZ ∧ wZ ≤ 4 := inv_at hI wE wK.symm rfl
  have g2 : 2 ≤ gZ ∧ gZ ≤ 4 := inv_at hI gE gK.symm rfl
  have g690 : wZ = D 144 := by have q := hy0.2.1 69 0 144 rfl; rw [wK, wE] at q; exact q
  have g691 : gZ = D 145 := by have q := hy0.2.1 69 1 145 rfl; rw [gK, gE] at q; exact q
  refine V_aload_n 0 d_Reader_tellsBeyondCounty_0 rfl rfl ?_
  refine V_getR fa_Reader_29 sk_88 rfl d_Reader_tellsBeyondCounty_1 ?_
  refine V_iconst 1 d_Reader_tellsBeyondCounty_4 (by decide) ?_
  refine N_ialdK sk_92 tc_1 (by (first | decide +kernel | omega)) d_Reader_tellsBeyondCounty_5 t1K ?_
  refine V_aload_n 0 d_Reader_tellsBeyondCounty_6 rfl rfl ?_
  refine V_getR fa_Reader_29 sk_88 rfl d_Reader_tellsBeyondCounty_7 ?_
  refine V_iconst 2 d_Reader_tellsBeyondCounty_10 (by decide) ?_
  refine N_ialdK sk_92 tc_2 (by (first | decide +kernel | omega)) d_Reader_tellsBeyondCounty_11 t2K ?_
  refine N_ior d_Reader_tellsBeyondCounty_12 (fun z5 z5Z z5E z5e => ?_)
  refine V_aload_n 0 d_Reader_tellsBeyondCounty_13 rfl rfl ?_
  refine V_getR fa_Reader_29 sk_88 rfl d_Reader_tellsBeyondCounty_14 ?_
  refine V_iconst 3 d_Reader_tellsBeyondCounty_17 (by decide) ?_
  refine N_ialdK sk_92 tc_3 (by (first | decide +kernel | omega)) d_Reader_tellsBeyondCounty_18 t3K ?_
  refine N_ior d_Reader_tellsBeyondCounty_19 (fun z7 z7Z z7E z7e => ?_)
  refine V_aload_n 0 d_Reader_tellsBeyondCounty_20 rfl rfl ?_
  refine V_getR fa_Reader_29 sk_88 rfl d_Reader_tellsBeyondCounty_21 ?_
  refine V_iconst 4 d_Reader_tellsBeyondCounty_24 (by decide) ?_
  refine N_ialdK sk_92 tc_4 (by (first | decide +kernel | omega)) d_Reader_tellsBeyondCounty_25 t4K ?_
  refine N_ior d_Reader_tellsBeyondCounty_26 (fun z9 z9Z z9E z9e => ?_)
  refine V_istore_n 1 [some (.ref 88), some (.int z9)] d_Reader_tellsBeyondCounty_27 rfl (by decide) rfl rfl ?_
  refine V_iload_n 1 d_Reader_tellsBeyondCounty_28 rfl rfl ?_
  refine V_aload_n 0 d_Reader_tellsBeyondCounty_29 rfl rfl ?_
  refine V_getR fa_Reader_21 sk_88 rfl d_Reader_tellsBeyondCounty_30 ?_
  refine V_getR fa_Reader_71 sk_68 rfl d_Reader_tellsBeyondCounty_33 ?_
  refine N_callVI [] [.int z9] cv_Reader_75 sk_69 rfl d_Reader_tellsBeyondCounty_36 rfl (Nat.le_of_ble_eq_true rfl) (by decide) (by decide) (c_Land_allBitsX_4 h hI w wZ wE wK g gZ gE gK) (fun z10 h11 z10Z z10E p12 => ?_)
  obtain ⟨eh11, p12⟩ := p12
  subst eh11
  obtain ⟨cW, cWE, cWe⟩ := p12
  refine V_iconst (-1) d_Reader_tellsBeyondCounty_39 (by decide) ?_
  refine N_ixor d_Reader_tellsBeyondCounty_40 (fun z13 z13Z z13E z13e => ?_)
  refine N_iand d_Reader_tellsBeyondCounty_41 (fun z14 z14Z z14E z14e => ?_)
  have hB := bey_bits (T := T) (W := D 144 * D 145) (TB_kn t1K (hy0.1.1 1 (by decide) (by decide))) (TB_kn t2K (hy0.1.1 2 (by decide) (by decide))) (TB_kn t3K (hy0.1.1 3 (by decide) (by decide))) (TB_kn t4K (hy0.1.1 4 (by decide) (by decide))) (by assumption) (by assumption) (by assumption) (by rw [← g690, ← g691]; exact cWE) (by rw [← g690, ← g691]; have := mul24 (A := wZ) (B := gZ) (by (first | decide +kernel | omega)) (by (first | decide +kernel | omega)); omega) cWe (by assumption) (by assumption) z14E
  refine V_if_eq 49 z14E d_Reader_tellsBeyondCounty_42 (by decide) (fun c15 => ?_) (fun c15 => ?_)
  ·
    refine V_iconst 0 d_Reader_tellsBeyondCounty_49 (by decide) ?_
    exact V_zret rfl (by decide) d_Reader_tellsBeyondCounty_50 ⟨0, rfl, ⟨rfl, (Or.inr ⟨rfl, (hB.resolve_left (fun q => absurd q.1 (by (first | decide +kernel | omega)))).2⟩)⟩⟩
  ·
    refine V_iconst 1 d_Reader_tellsBeyondCounty_45 (by decide) ?_
    refine V_goto 50 d_Reader_tellsBeyondCounty_46 (by decide) ?_
    exact V_zret rfl (by decide) d_Reader_tellsBeyondCounty_50 ⟨1, rfl, ⟨rfl, (Or.inl ⟨rfl, (hB.resolve_right (fun q => absurd q.1 (by (first | decide +kernel | omega)))).2⟩)⟩⟩
def S_Reader_readAllX : List (Nat × Option Nat) := [(89, some 2), (89, some 3), (89, some 4), (89, some 5), (88, some 5), (88, some 6), (88, some 4), (91, none), (92, none), (69, none), (70, none), (71, none), (72, none), (73, none), (74, none), (76, none), (68, some 3), (68, some 4), (75, some 4), (77, none), (78, none), (79, none), (80, some 4)]
abbrev q_Reader_readAllX (h : Hp) (b : Int → Int) (s : Int32) (sZ : Int) : Option Value → Hp → Prop := pInt (fun r h' => Inv h' ∧ fr S_Reader_readAllX h h' ∧ ∃ (e : Int32) (eZ : Int), e.toInt = eZ ∧ h'.1 88 6 = e ∧ (∃ n : Nat, x_tx b sZ r eZ n ∧ (eZ = 0 ∧ 0 ≤ r.toInt ∧ RC h' (x_st b n).1 (x_st b n).2.1 ∨ eZ ≠ 0 ∧ r.toInt < 0)))
set_option maxRecDepth 100000 in
theorem c_Reader_readAllX (h : Hp) (b : Int → Int) (hI : Inv h) (s : Int32) (sZ : Int) (sE : s.toInt = sZ) (sK : h.1 89 1 = s) (hy0 : TP h 90 sZ b) : Ct y_Reader_readAll b_Reader_readAll 2 (some .int) 8 171 [.ref 88] h (q_Reader_readAllX h b s sZ) := by
  refine ct_ow R_Reader [some (.ref 88), none] rfl (by decide) rfl (Nat.le_of_ble_eq_true rfl) ?_
  have f0 : fr S_Reader_readAllX h h := fr_rf
  have g1 : 0 ≤ sZ ∧ sZ ≤ 160 := inv_at hI sE sK.symm rfl
  refine V_aload_n 0 d_Reader_readAll_0 rfl rfl ?_
  refine V_getR fa_Reader_21 sk_88 rfl d_Reader_readAll_1 ?_
  refine N_callVV [] [] cv_Reader_32 sk_68 rfl d_Reader_readAll_4 rfl (Nat.le_of_ble_eq_true rfl) (by decide) (by decide) (c_County_resetX_4 h hI) (fun h3 p4 => ?_)
  obtain ⟨hI5, fh3, p4⟩ := p4
  have f6 : fr S_Reader_readAllX h h3 := fr_call f0 fh3 rfl
  have qC := p4
  refine V_aload_n 0 d_Reader_readAll_7 rfl rfl ?_
  refine V_getR fa_Reader_29 sk_88 rfl d_Reader_readAll_8 ?_
  refine V_iconst 0 d_Reader_readAll_11 (by decide) ?_
  refine N_callSV [.ref 92, .int 0] [] cs_Reader_35 d_Reader_readAll_12 rfl (Nat.le_of_ble_eq_true rfl) (by decide) (by decide) (c_fillX_92 h3 hI5 0 0 tc_0) (fun h8 p9 => ?_)
  obtain ⟨hI10, fh8, p9⟩ := p9
  have f11 : fr S_Reader_readAllX h h8 := fr_call f6 fh8 rfl
  have qR : RC h8 x_T0 x_D0 := RC_first (RCd_fr fh8 rfl qC) p9
  refine V_aload_n 0 d_Reader_readAll_15 rfl rfl ?_
  refine V_iconst 0 d_Reader_readAll_16 (by decide) ?_
  refine N_putI fp_Reader_41 sk_88 rfl d_Reader_readAll_17 (fun h12 eh12 => ?_)
  have hI13 : Inv h12 := inv_full hI10 eh12 rfl
  have f14 : fr S_Reader_readAllX h h12 := fr_put f11 eh12 rfl
  have R15 : RC h12 x_T0 x_D0 := RC_ne eh12 (by decide) qR
  refine V_aload_n 0 d_Reader_readAll_20 rfl rfl ?_
  refine V_getR fa_Reader_12 sk_88 rfl d_Reader_readAll_21 ?_
  refine N_callVV [] [] cv_Reader_45 sk_89 rfl d_Reader_readAll_24 rfl (Nat.le_of_ble_eq_true rfl) (by decide) (by decide) (c_Tape_rewindX h12 hI13) (fun h17 p18 => ?_)
  obtain ⟨hI19, fh17, o21, o21Z, o21E, o21K, p18⟩ := p18
  have f20 : fr S_Reader_readAllX h h17 := fr_call f14 fh17 rfl
  have R22 : RC h17 x_T0 x_D0 := RC_fr fh17 rfl R15
  have g23 : 0 ≤ o21Z ∧ o21Z ≤ 160 := inv_at hI19 o21E o21K.symm rfl
  refine V_aload_n 0 d_Reader_readAll_27 rfl rfl ?_
  refine V_getR fa_Reader_12 sk_88 rfl d_Reader_readAll_28 ?_
  refine N_callVV [] [] cv_Reader_48 sk_89 rfl d_Reader_readAll_31 rfl (Nat.le_of_ble_eq_true rfl) (by decide) (by decide) (c_Tape_advanceX h17 b hI19 s sZ sE (kn_call fh17 (kn_ne eh12 (kn_call fh8 (kn_call fh3 sK rfl) rfl) (by decide)) rfl) o21 o21Z o21E o21K (TP_fr f20 (fun _ => rfl) hy0) (by (first | decide +kernel | omega))) (fun h25 p26 => ?_)
  obtain ⟨hI27, fh25, o29, o29Z, o29E, o29K, o30, o30Z, o30E, o30K, o31, o31Z, o31E, o31K, o32, o32Z, o32E, o32K, p26⟩ := p26
  have f28 : fr S_Reader_readAllX h h25 := fr_call f20 fh25 rfl
  have g33 : x_kd b o21Z = x_kd b 0 := congrArg (x_kd b) (by (first | decide +kernel | omega))
  have g34 : x_fr b o21Z = x_fr b 0 := congrArg (x_fr b) (by (first | decide +kernel | omega))
  have g35 : x_en b o21Z = x_en b 0 := congrArg (x_en b) (by (first | decide +kernel | omega))
  have R36 : RC h25 x_T0 x_D0 := RC_fr fh25 rfl R22
  have g37 : 0 ≤ o30Z ∧ o30Z ≤ 160 := inv_at hI27 o30E o30K.symm rfl
  have g38 : 0 ≤ o31Z ∧ o31Z ≤ 160 := inv_at hI27 o31E o31K.symm rfl
  refine V_iconst 0 d_Reader_readAll_34 (by decide) ?_
  refine V_istore_n 1 [some (.ref 88), some (.int 0)] d_Reader_readAll_35 rfl (by decide) rfl rfl ?_
  obtain ⟨z44, z44Z, z44E, z44e⟩ : ∃ (y : Int32) (Y : Int), y.toInt = Y ∧ y = h25.1 88 5 := ⟨_, _, rfl, rfl⟩
  have L39 : ∀ (nn : Nat) (v41 : Int32) (v41Z : Int) (h42 : Hp) (v45 : Int32) (v45Z : Int) (v47 : Int32) (v47Z : Int) (v49 : Int32) (v49Z : Int) (v51 : Int32) (v51Z : Int) (v53 : Int32) (v53Z : Int), v41.toInt = v41Z → Inv h42 → fr S_Reader_readAllX h h42 → h42.1 89 1 = s → v45.toInt = v45Z → h42.1 89 2 = v45 → v47.toInt = v47Z → h42.1 89 3 = v47 → v49.toInt = v49Z → h42.1 89 4 = v49 → v51.toInt = v51Z → h42.1 88 5 = v51 → v53.toInt = v53Z → h42.1 88 6 = v53 → 0 ≤ v41Z ∧ v41Z ≤ 160 → CIx b h42 sZ v41Z v45Z v47Z v49Z → v53Z = 0 ∧ 0 ≤ v47Z ∧ v49Z ≤ sZ → 160 - v41Z < (nn : Int) → V R_Reader b_Reader_readAll 2 (some .int) 8 171 (q_Reader_readAllX h b s sZ) h42 36 [some (.ref 88), some (.int v41)] [] := by
    intro nn
    induction nn with
    | zero => intro v41 v41Z h42 v45 v45Z v47 v47Z v49 v49Z v51 v51Z v53 v53Z v41E Ih42 Fh42 K43 v45E K46 v47E K48 v49E K50 v51E K52 v53E K54 q55 q56 q57 hm58; exact absurd hm58 (by (first | decide +kernel | omega))
    | succ nn ihL39 =>
      intro v41 v41Z h42 v45 v45Z v47 v47Z v49 v49Z v51 v51Z v53 v53Z v41E Ih42 Fh42 K43 v45E K46 v47E K48 v49E K50 v51E K52 v53E K54 q55 q56 q57 hm58
      have g59 : 0 ≤ v47Z ∧ v47Z ≤ 160 := inv_at Ih42 v47E K48.symm rfl
      have g60 : 0 ≤ v49Z ∧ v49Z ≤ 160 := inv_at Ih42 v49E K50.symm rfl
      refine V_iload_n 1 d_Reader_readAll_36 rfl rfl ?_
      refine V_sipush 160 d_Reader_readAll_37 (by decide) ?_
      refine V_icmp_ge 73 v41E tc_160 d_Reader_readAll_40 (by decide) (fun c61 => ?_) (fun c61 => ?_)
      ·
        obtain ⟨n, hn, hk, hR, hx⟩ := (show CIx b h42 sZ v41Z v45Z v47Z v49Z from by assumption)
        have hk0 : x_kd b (x_st b n).2.2 = 0 := by (first | decide +kernel | omega)
        have hg := x_good_k n hk
        unfold x_good at hg
        refine V_aload_n 0 d_Reader_readAll_73 rfl rfl ?_
        refine N_getK fa_Reader_41 sk_88 rfl d_Reader_readAll_74 K54 ?_
        refine V_if_ne 101 v53E d_Reader_readAll_77 (by decide) (fun c62 => ?_) (fun c62 => ?_)
        ·
          exact absurd c62 (by (first | decide +kernel | omega))
        ·
          refine V_aload_n 0 d_Reader_readAll_80 rfl rfl ?_
          obtain ⟨z63, z63Z, z63E, z63e⟩ : ∃ (y : Int32) (Y : Int), y.toInt = Y ∧ y = h42.1 69 0 := ⟨_, _, rfl, rfl⟩
          have g64 : 2 ≤ z63Z ∧ z63Z ≤ 4 := inv_at Ih42 z63E z63e rfl
          obtain ⟨z65, z65Z, z65E, z65e⟩ : ∃ (y : Int32) (Y : Int), y.toInt = Y ∧ y = h42.1 69 1 := ⟨_, _, rfl, rfl⟩
          have g66 : 2 ≤ z65Z ∧ z65Z ≤ 4 := inv_at Ih42 z65E z65e rfl
          obtain ⟨z67, z67Z, z67E, z67e⟩ : ∃ (y : Int32) (Y : Int), y.toInt = Y ∧ y = h42.1 92 1 := ⟨_, _, rfl, rfl⟩
          obtain ⟨z68, z68Z, z68E, z68e⟩ : ∃ (y : Int32) (Y : Int), y.toInt = Y ∧ y = h42.1 92 2 := ⟨_, _, rfl, rfl⟩
          obtain ⟨z69, z69Z, z69E, z69e⟩ : ∃ (y : Int32) (Y : Int), y.toInt = Y ∧ y = h42.1 92 3 := ⟨_, _, rfl, rfl⟩
          obtain ⟨z70, z70Z, z70E, z70e⟩ : ∃ (y : Int32) (Y : Int), y.toInt = Y ∧ y = h42.1 92 4 := ⟨_, _, rfl, rfl⟩
          refine N_callVI [] [] cv_Reader_58 sk_88 rfl d_Reader_readAll_81 rfl (Nat.le_of_ble_eq_true rfl) (by decide) (by decide) (c_Reader_tellsBeyondX h42 (x_st b n).1 (x_st b n).2.1 Ih42 z63 z63Z z63E z63e.symm z65 z65Z z65E z65e.symm z67 z67Z z67E z67e.symm z68 z68Z z68E z68e.symm z69 z69Z z69E z69e.symm z70 z70Z z70E z70e.symm hR (by (first | decide +kernel | omega))) (fun z71 h72 z71Z z71E p73 => ?_)
          obtain ⟨eh72, p73⟩ := p73
          subst eh72
          refine V_if_eq 101 z71E d_Reader_readAll_84 (by decide) (fun c74 => ?_) (fun c74 => ?_)
          ·
            have hB := (p73.resolve_left (fun q => absurd q.1 (by (first | decide +kernel | omega)))).2
            refine V_aload_n 0 d_Reader_readAll_101 rfl rfl ?_
            refine N_getK fa_Reader_41 sk_88 rfl d_Reader_readAll_102 K54 ?_
            refine V_if_ne 112 v53E d_Reader_readAll_105 (by decide) (fun c75 => ?_) (fun c75 => ?_)
            ·
              exact absurd c75 (by (first | decide +kernel | omega))
            ·
              refine V_iload_n 1 d_Reader_readAll_108 rfl rfl ?_
              refine V_goto 119 d_Reader_readAll_109 (by decide) ?_
              exact V_iret rfl d_Reader_readAll_119 ⟨v41, rfl, ⟨Ih42, Fh42, v53, v53Z, v53E, K54, ⟨n, ⟨⟨hk, Or.inl hk0⟩, Or.inl ⟨hk0, hB, by rw [v41E]; omega, by (first | decide +kernel | omega)⟩⟩, Or.inl ⟨by (first | decide +kernel | omega), by rw [v41E]; omega, hR⟩⟩⟩⟩
          ·
            have hB := (p73.resolve_right (fun q => absurd q.1 (by (first | decide +kernel | omega)))).2
            clear p73
            refine V_aload_n 0 d_Reader_readAll_87 rfl rfl ?_
            refine V_bipush 6 d_Reader_readAll_88 (by decide) ?_
            refine V_aload_n 0 d_Reader_readAll_90 rfl rfl ?_
            refine V_getR fa_Reader_12 sk_88 rfl d_Reader_readAll_91 ?_
            refine N_getK fa_Reader_61 sk_89 rfl d_Reader_readAll_94 K43 ?_
            refine N_callVI [.int 6, .int s] [] cv_Reader_64 sk_88 rfl d_Reader_readAll_97 rfl (Nat.le_of_ble_eq_true rfl) (by decide) (by decide) (c_Reader_isRefusedX h42 Ih42 6 6 tc_6 s sZ sE) (fun z76 h77 z76Z z76E p78 => ?_)
            obtain ⟨hI79, fh77, o81, o81Z, o81E, o81K, o82, o82Z, o82E, o82K, p78⟩ := p78
            have f80 : fr S_Reader_readAllX h h77 := fr_call Fh42 fh77 rfl
            have R83 : RC h77 ((x_st b n).1) ((x_st b n).2.1) := RC_fr fh77 rfl hR
            refine V_pop d_Reader_readAll_100 rfl ?_
            refine V_aload_n 0 d_Reader_readAll_101 rfl rfl ?_
            refine N_getK fa_Reader_41 sk_88 rfl d_Reader_readAll_102 o81K ?_
            refine V_if_ne 112 o81E d_Reader_readAll_105 (by decide) (fun c84 => ?_) (fun c84 => ?_)
            ·
              refine V_bipush (-10) d_Reader_readAll_112 (by decide) ?_
              refine V_aload_n 0 d_Reader_readAll_114 rfl rfl ?_
              refine N_getK fa_Reader_68 sk_88 rfl d_Reader_readAll_115 o82K ?_
              refine N_isubw d_Reader_readAll_118 (fun z85 z85Z z85E z85e => ?_)
              exact V_iret rfl d_Reader_readAll_119 ⟨z85, rfl, ⟨hI79, f80, o81, o81Z, o81E, o81K, ⟨n, ⟨⟨hk, Or.inl hk0⟩, Or.inr (Or.inl ⟨hk0, hB, by (first | decide +kernel | omega), o82, by rw [o82E]; omega, by assumption⟩)⟩, Or.inr ⟨by (first | decide +kernel | omega), neg_ten (by assumption) o82E (by (first | decide +kernel | omega))⟩⟩⟩⟩
            ·
              exact absurd c84 (by (first | decide +kernel | omega))
      ·
        obtain ⟨n, hn, hk, hR, hx⟩ := (show CIx b h42 sZ v41Z v45Z v47Z v49Z from by assumption)
        refine V_aload_n 0 d_Reader_readAll_43 rfl rfl ?_
        refine V_getR fa_Reader_12 sk_88 rfl d_Reader_readAll_44 ?_
        refine N_getK fa_Reader_51 sk_89 rfl d_Reader_readAll_47 K46 ?_
        refine V_if_eq 73 v45E d_Reader_readAll_50 (by decide) (fun c86 => ?_) (fun c86 => ?_)
        ·
          have hk0 : x_kd b (x_st b n).2.2 = 0 := by (first | decide +kernel | omega)
          have hg := x_good_k n hk
          unfold x_good at hg
          refine V_aload_n 0 d_Reader_readAll_73 rfl rfl ?_
          refine N_getK fa_Reader_41 sk_88 rfl d_Reader_readAll_74 K54 ?_
          refine V_if_ne 101 v53E d_Reader_readAll_77 (by decide) (fun c87 => ?_) (fun c87 => ?_)
          ·
            exact absurd c87 (by (first | decide +kernel | omega))
          ·
            refine V_aload_n 0 d_Reader_readAll_80 rfl rfl ?_
            obtain ⟨z88, z88Z, z88E, z88e⟩ : ∃ (y : Int32) (Y : Int), y.toInt = Y ∧ y = h42.1 69 0 := ⟨_, _, rfl, rfl⟩
            have g89 : 2 ≤ z88Z ∧ z88Z ≤ 4 := inv_at Ih42 z88E z88e rfl
            obtain ⟨z90, z90Z, z90E, z90e⟩ : ∃ (y : Int32) (Y : Int), y.toInt = Y ∧ y = h42.1 69 1 := ⟨_, _, rfl, rfl⟩
            have g91 : 2 ≤ z90Z ∧ z90Z ≤ 4 := inv_at Ih42 z90E z90e rfl
            obtain ⟨z92, z92Z, z92E, z92e⟩ : ∃ (y : Int32) (Y : Int), y.toInt = Y ∧ y = h42.1 92 1 := ⟨_, _, rfl, rfl⟩
            obtain ⟨z93, z93Z, z93E, z93e⟩ : ∃ (y : Int32) (Y : Int), y.toInt = Y ∧ y = h42.1 92 2 := ⟨_, _, rfl, rfl⟩
            obtain ⟨z94, z94Z, z94E, z94e⟩ : ∃ (y : Int32) (Y : Int), y.toInt = Y ∧ y = h42.1 92 3 := ⟨_, _, rfl, rfl⟩
            obtain ⟨z95, z95Z, z95E, z95e⟩ : ∃ (y : Int32) (Y : Int), y.toInt = Y ∧ y = h42.1 92 4 := ⟨_, _, rfl, rfl⟩
            refine N_callVI [] [] cv_Reader_58 sk_88 rfl d_Reader_readAll_81 rfl (Nat.le_of_ble_eq_true rfl) (by decide) (by decide) (c_Reader_tellsBeyondX h42 (x_st b n).1 (x_st b n).2.1 Ih42 z88 z88Z z88E z88e.symm z90 z90Z z90E z90e.symm z92 z92Z z92E z92e.symm z93 z93Z z93E z93e.symm z94 z94Z z94E z94e.symm z95 z95Z z95E z95e.symm hR (by (first | decide +kernel | omega))) (fun z96 h97 z96Z z96E p98 => ?_)
            obtain ⟨eh97, p98⟩ := p98
            subst eh97
            refine V_if_eq 101 z96E d_Reader_readAll_84 (by decide) (fun c99 => ?_) (fun c99 => ?_)
            ·
              have hB := (p98.resolve_left (fun q => absurd q.1 (by (first | decide +kernel | omega)))).2
              refine V_aload_n 0 d_Reader_readAll_101 rfl rfl ?_
              refine N_getK fa_Reader_41 sk_88 rfl d_Reader_readAll_102 K54 ?_
              refine V_if_ne 112 v53E d_Reader_readAll_105 (by decide) (fun c100 => ?_) (fun c100 => ?_)
              ·
                exact absurd c100 (by (first | decide +kernel | omega))
              ·
                refine V_iload_n 1 d_Reader_readAll_108 rfl rfl ?_
                refine V_goto 119 d_Reader_readAll_109 (by decide) ?_
                exact V_iret rfl d_Reader_readAll_119 ⟨v41, rfl, ⟨Ih42, Fh42, v53, v53Z, v53E, K54, ⟨n, ⟨⟨hk, Or.inl hk0⟩, Or.inl ⟨hk0, hB, by rw [v41E]; omega, by (first | decide +kernel | omega)⟩⟩, Or.inl ⟨by (first | decide +kernel | omega), by rw [v41E]; omega, hR⟩⟩⟩⟩
            ·
              have hB := (p98.resolve_right (fun q => absurd q.1 (by (first | decide +kernel | omega)))).2
              clear p98
              refine V_aload_n 0 d_Reader_readAll_87 rfl rfl ?_
              refine V_bipush 6 d_Reader_readAll_88 (by decide) ?_
              refine V_aload_n 0 d_Reader_readAll_90 rfl rfl ?_
              refine V_getR fa_Reader_12 sk_88 rfl d_Reader_readAll_91 ?_
              refine N_getK fa_Reader_61 sk_89 rfl d_Reader_readAll_94 K43 ?_
              refine N_callVI [.int 6, .int s] [] cv_Reader_64 sk_88 rfl d_Reader_readAll_97 rfl (Nat.le_of_ble_eq_true rfl) (by decide) (by decide) (c_Reader_isRefusedX h42 Ih42 6 6 tc_6 s sZ sE) (fun z101 h102 z101Z z101E p103 => ?_)
              obtain ⟨hI104, fh102, o106, o106Z, o106E, o106K, o107, o107Z, o107E, o107K, p103⟩ := p103
              have f105 : fr S_Reader_readAllX h h102 := fr_call Fh42 fh102 rfl
              have R108 : RC h102 ((x_st b n).1) ((x_st b n).2.1) := RC_fr fh102 rfl hR
              refine V_pop d_Reader_readAll_100 rfl ?_
              refine V_aload_n 0 d_Reader_readAll_101 rfl rfl ?_
              refine N_getK fa_Reader_41 sk_88 rfl d_Reader_readAll_102 o106K ?_
              refine V_if_ne 112 o106E d_Reader_readAll_105 (by decide) (fun c109 => ?_) (fun c109 => ?_)
              ·
                refine V_bipush (-10) d_Reader_readAll_112 (by decide) ?_
                refine V_aload_n 0 d_Reader_readAll_114 rfl rfl ?_
                refine N_getK fa_Reader_68 sk_88 rfl d_Reader_readAll_115 o107K ?_
                refine N_isubw d_Reader_readAll_118 (fun z110 z110Z z110E z110e => ?_)
                exact V_iret rfl d_Reader_readAll_119 ⟨z110, rfl, ⟨hI104, f105, o106, o106Z, o106E, o106K, ⟨n, ⟨⟨hk, Or.inl hk0⟩, Or.inr (Or.inl ⟨hk0, hB, by (first | decide +kernel | omega), o107, by rw [o107E]; omega, by assumption⟩)⟩, Or.inr ⟨by (first | decide +kernel | omega), neg_ten (by assumption) o107E (by (first | decide +kernel | omega))⟩⟩⟩⟩
              ·
                exact absurd c109 (by (first | decide +kernel | omega))
        ·
          refine V_aload_n 0 d_Reader_readAll_53 rfl rfl ?_
          refine N_callVI [] [] cv_Reader_54 sk_88 rfl d_Reader_readAll_54 rfl (Nat.le_of_ble_eq_true rfl) (by decide) (by decide) (c_Reader_readLineX h42 b (x_st b n).1 (x_st b n).2.1 (x_st b n).2.2 Ih42 s sZ sE K43 v45 v45Z v45E K46 v47 v47Z v47E K48 v49 v49Z v49E K50 v51 v51Z v51E K52 v53 v53Z v53E K54 (TP_fr Fh42 (fun _ => rfl) hy0) (by (first | decide +kernel | omega)) hR (by (first | decide +kernel | omega))) (fun z111 h112 z111Z z111E p113 => ?_)
          obtain ⟨hI114, fh112, o116, o116Z, o116E, o116K, o117, o117Z, o117E, o117K, o118, o118Z, o118E, o118K, p113⟩ := p113
          have f115 : fr S_Reader_readAllX h h112 := fr_call Fh42 fh112 rfl
          have g119 : 0 ≤ o116Z ∧ o116Z ≤ 160 := inv_at hI114 o116E o116K.symm rfl
          refine V_if_eq 73 z111E d_Reader_readAll_57 (by decide) (fun c120 => ?_) (fun c120 => ?_)
          ·
            obtain ⟨p113r, hpl, p1130⟩ := p113.resolve_left (fun q => absurd q.1 (by (first | decide +kernel | omega)))
            clear p113
            have hpb := x_line_b b (x_st b n).1 ((x_st b n).2.1 86) (p := (x_st b n).2.2) (by (first | decide +kernel | omega))
            rw [hpl] at hpb
            replace hpb : 0 ≤ o118Z ∧ o118Z ≤ (x_st b n).2.2 + 3000 := hpb
            refine V_aload_n 0 d_Reader_readAll_73 rfl rfl ?_
            refine N_getK fa_Reader_41 sk_88 rfl d_Reader_readAll_74 o117K ?_
            refine V_if_ne 101 o117E d_Reader_readAll_77 (by decide) (fun c121 => ?_) (fun c121 => ?_)
            ·
              refine V_aload_n 0 d_Reader_readAll_101 rfl rfl ?_
              refine N_getK fa_Reader_41 sk_88 rfl d_Reader_readAll_102 o117K ?_
              refine V_if_ne 112 o117E d_Reader_readAll_105 (by decide) (fun c122 => ?_) (fun c122 => ?_)
              ·
                refine V_bipush (-10) d_Reader_readAll_112 (by decide) ?_
                refine V_aload_n 0 d_Reader_readAll_114 rfl rfl ?_
                refine N_getK fa_Reader_68 sk_88 rfl d_Reader_readAll_115 o118K ?_
                refine N_isubw d_Reader_readAll_118 (fun z123 z123Z z123E z123e => ?_)
                exact V_iret rfl d_Reader_readAll_119 ⟨z123, rfl, ⟨hI114, f115, o117, o117Z, o117E, o117K, ⟨n, ⟨⟨hk, Or.inr (by unfold x_lk; rw [hpl]; show o117Z ≠ 0; omega)⟩, Or.inr (Or.inr ⟨by (first | decide +kernel | omega), by unfold x_lk; rw [hpl], by (first | decide +kernel | omega), o118, by unfold x_lk; rw [hpl]; exact o118E, by assumption⟩)⟩, Or.inr ⟨by (first | decide +kernel | omega), neg_ten (by assumption) o118E (by (first | decide +kernel | omega))⟩⟩⟩⟩
              ·
                exact absurd c122 (by (first | decide +kernel | omega))
            ·
              exact absurd c121 (by (first | decide +kernel | omega))
          ·
            obtain ⟨p113r, hpl, p1130, p1131, p1132, hpR⟩ := p113.resolve_right (fun q => absurd q.1 (by (first | decide +kernel | omega)))
            clear p113
            obtain ⟨z124, z124E, z124e⟩ : ∃ y : Int32, y.toInt = v41Z + 1 ∧ y = v41 + Int32.ofInt 1 := ⟨_, ti_add v41E (by decide) (by (first | decide +kernel | omega)), rfl⟩
            refine V_iinc 1 [some (.ref 88), some (.int z124)] d_Reader_readAll_60 rfl z124e.symm (by decide) rfl rfl ?_
            refine V_aload_n 0 d_Reader_readAll_63 rfl rfl ?_
            refine V_getR fa_Reader_12 sk_88 rfl d_Reader_readAll_64 ?_
            refine N_callVV [] [] cv_Reader_48 sk_89 rfl d_Reader_readAll_67 rfl (Nat.le_of_ble_eq_true rfl) (by decide) (by decide) (c_Tape_advanceX h112 b hI114 s sZ sE (kn_call fh112 K43 rfl) o116 o116Z o116E o116K (TP_fr f115 (fun _ => rfl) hy0) (by (first | decide +kernel | omega))) (fun h126 p127 => ?_)
            obtain ⟨hI128, fh126, o130, o130Z, o130E, o130K, o131, o131Z, o131E, o131K, o132, o132Z, o132E, o132K, o133, o133Z, o133E, o133K, p127⟩ := p127
            have f129 : fr S_Reader_readAllX h h126 := fr_call f115 fh126 rfl
            have R134 : RC h126 ((x_T b (x_st b n).1 (x_st b n).2.2)) ((x_D b (x_st b n).2.1 (x_st b n).2.2)) := RC_fr fh126 rfl hpR
            have g135 : 0 ≤ o131Z ∧ o131Z ≤ 160 := inv_at hI128 o131E o131K.symm rfl
            have g136 : 0 ≤ o132Z ∧ o132Z ≤ 160 := inv_at hI128 o132E o132K.symm rfl
            refine V_goto 36 d_Reader_readAll_70 (by decide) ?_
            exact ihL39 z124 ((v41Z + 1)) h126 o130 o130Z o131 o131Z o132 o132Z o118 o118Z o117 o117Z z124E hI128 f129 (kn_call fh126 (kn_call fh112 K43 rfl) rfl) o130E o130K o131E o131K o132E o132K o118E (kn_call fh126 o118K rfl) o117E (kn_call fh126 o117K rfl) (by (first | decide +kernel | omega)) (by rw [show (v41Z + 1) = (n : Int) + 1 by (first | decide +kernel | omega)]; exact CIx_step hk (by (first | decide +kernel | omega)) hpl (by (first | decide +kernel | omega)) R134 (by (first | decide +kernel | omega)) (by (first | decide +kernel | omega)) (by (first | decide +kernel | omega)) (by (first | decide +kernel | omega)) (by (first | decide +kernel | omega)) (by (first | decide +kernel | omega)) (by (first | decide +kernel | omega))) (by (first | decide +kernel | omega)) (by (first | decide +kernel | omega))
  exact L39 (Int.toNat ((160 - 0 : Int) + 1)) 0 0 h25 o29 o29Z o30 o30Z o31 o31Z z44 z44Z 0 0 tc_0 hI27 f28 (kn_call fh25 (kn_call fh17 (kn_ne eh12 (kn_call fh8 (kn_call fh3 sK rfl) rfl) (by decide)) rfl) rfl) o29E o29K o30E o30K o31E o31K z44E z44e.symm tc_0 (kn_call fh25 (kn_call fh17 (kn_put eh12) rfl) rfl) (by (first | decide +kernel | omega)) ⟨0, rfl, x_ok_0 b, R36, by show _ = x_kd b 0; omega, by show _ = x_fr b 0; omega, by show _ ∨ _ = x_en b 0; omega, by (first | decide +kernel | omega), by (first | decide +kernel | omega), by (first | decide +kernel | omega), Int.le_refl 0, by show (0 : Int) ≤ _; omega⟩ (by (first | decide +kernel | omega)) (by (first | decide +kernel | omega))
end
section
/-! nothing -/
end
section
theorem byte_same {c : Int32} {C : Int} (p : c.toInt = C) (h : 0 ≤ C ∧ C ≤ 127) : c.toInt8.toInt32 = c := by
  apply Int32.toInt_inj.mp
  rw [Int8.toInt_toInt32, Int32.toInt_toInt8, p]
  exact Int.bmod_eq_of_le (by (first | decide +kernel | omega)) (by (first | decide +kernel | omega))
def fdY (h h' : Hp) (k t : Nat) (c : Int32) : Prop := h'.1 k t = c ∧ ∀ j : Nat, j ≠ t → h'.1 k j = h.1 k j
def fdN (h h' : Hp) (k : Nat) : Prop := ∀ j : Nat, h'.1 k j = h.1 k j
def JT (h : Hp) : Prop := h.1 89 1 = h.1 116 15 ∧ (∀ j : Nat, (j : Int) < (h.1 89 1).toInt → h.1 90 j = h.1 121 j ∧ 0 ≤ (h.1 90 j).toInt ∧ (h.1 90 j).toInt ≤ 127) ∧ h.1 88 6 = h.1 116 20
def jtS (S : List (Nat × Option Nat)) : Bool := S.all (fun q => decide (q.1 ≠ 90 ∧ q.1 ≠ 121) && (decide (q.1 ≠ 116 ∧ q.1 ≠ 88 ∧ q.1 ≠ 89) || (match q.2 with | none => false | some j => decide (¬ (q.1 = 89 ∧ j = 1) ∧ ¬ (q.1 = 88 ∧ j = 6) ∧ ¬ (q.1 = 116 ∧ (j = 15 ∨ j = 20))))))
def jtC (k i : Nat) : Prop := k = 90 ∨ k = 121 ∨ k = 89 ∧ i = 1 ∨ k = 88 ∧ i = 6 ∨ k = 116 ∧ (i = 15 ∨ i = 20)
theorem jtS_no {S : List (Nat × Option Nat)} (hc : jtS S = true) {k i : Nat} (hk : jtC k i) : inS S k i = false := by
  unfold inS
  rw [List.any_eq_false]
  intro q hq e
  have h1 := List.all_eq_true.mp hc q hq
  rw [Bool.and_eq_true, Bool.or_eq_true] at h1
  rw [Bool.and_eq_true] at e
  have e2 : q.1 = k := eq_of_beq e.1
  have h2 := of_decide_eq_true h1.1
  unfold jtC at hk
  rcases h1.2 with h3 | h3
  · have := of_decide_eq_true h3; omega
  · have e3 := e.2
    cases hz : q.2 with
    | none => rw [hz] at h3; cases h3
    | some j =>
      rw [hz] at h3 e3
      have h4 := of_decide_eq_true h3
      have h5 : j = i := eq_of_beq e3
      omega
theorem JT_at {h h' : Hp} (e : ∀ k i : Nat, jtC k i → h'.1 k i = h.1 k i) (r : JT h) : JT h' := by
  have a1 := e 89 1 (by unfold jtC; omega)
  have a2 := e 116 15 (by unfold jtC; omega)
  have a3 := e 88 6 (by unfold jtC; omega)
  have a4 := e 116 20 (by unfold jtC; omega)
  refine ⟨by rw [a1, a2]; exact r.1, fun j hj => ?_, by rw [a3, a4]; exact r.2.2⟩
  rw [e 90 j (by unfold jtC; omega), e 121 j (by unfold jtC; omega)]
  exact r.2.1 j (by rw [a1] at hj; exact hj)
theorem JT_fr {S : List (Nat × Option Nat)} {h h' : Hp} (f : fr S h h') (hc : jtS S = true) (r : JT h) : JT h' := JT_at (fun _ _ hk => f.1 _ _ (jtS_no hc hk)) r
/-- the tape's bytes -/
def tb (h : Hp) : Int → Int := fun j => if 0 ≤ j ∧ j < (h.1 89 1).toInt then (h.1 90 j.toNat).toInt else -1
theorem TP_c {h : Hp} (r : JT h) : TP h 90 (h.1 89 1).toInt (tb h) := fun j hj => by
  by_cases q : j < (h.1 89 1).toInt
  · have := (r.2.1 j.toNat (by (first | decide +kernel | omega))).2
    have e : tb h j = (h.1 90 j.toNat).toInt := if_pos ⟨hj, q⟩
    exact Or.inl ⟨q, e.symm, by (first | decide +kernel | omega), by (first | decide +kernel | omega)⟩
  · exact Or.inr ⟨by (first | decide +kernel | omega), if_neg (by (first | decide +kernel | omega))⟩
theorem TP_m {S : List (Nat × Option Nat)} {h h' : Hp} (r : JT h) (f : fr S h h') (hc : ∀ i : Nat, inS S 121 i = false) (h15 : inS S 116 15 = false) : TP h' 121 (h'.1 116 15).toInt (tb h) := fun j hj => by
  have e15 : (h'.1 116 15).toInt = (h.1 89 1).toInt := by rw [f.1 116 15 h15, ← r.1]
  rw [e15, f.1 121 j.toNat (hc _)]
  by_cases q : j < (h.1 89 1).toInt
  · have g := r.2.1 j.toNat (by (first | decide +kernel | omega))
    have e : tb h j = (h.1 90 j.toNat).toInt := if_pos ⟨hj, q⟩
    exact Or.inl ⟨q, by rw [e, g.1], by (first | decide +kernel | omega), by (first | decide +kernel | omega)⟩
  · exact Or.inr ⟨by (first | decide +kernel | omega), if_neg (by (first | decide +kernel | omega))⟩
theorem JT_text {S1 S2 : List (Nat × Option Nat)} {h h1 h2 : Hp} {r1 r2 v1 v2 e1 e2 : Int32} {v1Z v2Z e1Z e2Z : Int} {n1 n2 : Nat} (r : JT h) (f1 : fr S1 h h1) (f2 : fr S2 h1 h2) (c1 : inS S1 116 15 = false) (c2 : inS S2 89 1 = false) (c3 : inS S2 88 6 = false) (v1E : v1.toInt = v1Z) (v1K : h1.1 89 1 = v1) (v10 : v1Z = 0) (e1E : e1.toInt = e1Z) (e1K : h1.1 88 6 = e1) (X1 : x_tx (tb h) (h.1 89 1).toInt r1 e1Z n1) (v2E : v2.toInt = v2Z) (v2K : h2.1 116 15 = v2) (v20 : v2Z = 0) (e2E : e2.toInt = e2Z) (e2K : h2.1 116 20 = e2) (X2 : x_tx (tb h) (h1.1 116 15).toInt r2 e2Z n2) : JT h2 ∧ r1 = r2 := by
  rw [f1.1 116 15 c1, ← r.1] at X2
  obtain ⟨hn, hr, hu⟩ := x_tx_un X1 X2
  have z1 : h2.1 89 1 = 0 := by rw [f2.1 89 1 c2, v1K]; exact Int32.toInt_inj.mp (by rw [v1E, v10]; rfl)
  have z2 : h2.1 116 15 = 0 := by rw [v2K]; exact Int32.toInt_inj.mp (by rw [v2E, v20]; rfl)
  refine ⟨⟨by rw [z1, z2], fun j hj => ?_, ?_⟩, hr⟩
  · rw [z1] at hj
    exact absurd hj (by show ¬ (j : Int) < 0; omega)
  · rw [f2.1 88 6 c3, e1K, e2K]
    exact Int32.toInt_inj.mp (by rw [e1E, e2E, hu])
theorem JT_feed {S1 S2 : List (Nat × Option Nat)} {h h1 h2 : Hp} {c u1 u2 : Int32} {u1Z u2Z cZ : Int} (r : JT h) (f1 : fr S1 h h1) (f2 : fr S2 h1 h2) (c1 : jtS (S1.filter (fun q => q.1 ≠ 90 ∧ q.1 ≠ 89)) = true) (c2 : jtS (S2.filter (fun q => q.1 ≠ 121 ∧ q ≠ (116, some 15))) = true) (k1 : ∀ i : Nat, inS S1 121 i = false) (k2 : ∀ i : Nat, inS S2 90 i = false) (s1 : inS S1 116 15 = false) (s2 : inS S2 89 1 = false) (s3 : inS S1 116 20 = false ∧ inS S1 88 6 = false) (s4 : inS S2 116 20 = false ∧ inS S2 88 6 = false) (hc : c.toInt = cZ)
    (u1E : u1.toInt = u1Z) (u1K : h1.1 89 1 = u1) (u2E : u2.toInt = u2Z) (u2K : h2.1 116 15 = u2)
    (E1 : 0 ≤ cZ ∧ cZ ≤ 127 ∧ (h.1 89 1).toInt < 160 ∧ u1Z = (h.1 89 1).toInt + 1 ∧ fdY h h1 90 (h.1 89 1).toInt.toNat c ∨ ((h.1 89 1).toInt ≥ 160 ∨ cZ < 0 ∨ 127 < cZ) ∧ u1Z = (h.1 89 1).toInt ∧ fdN h h1 90)
    (E2 : 0 ≤ cZ ∧ cZ ≤ 127 ∧ (h1.1 116 15).toInt < 160 ∧ u2Z = (h1.1 116 15).toInt + 1 ∧ fdY h1 h2 121 (h1.1 116 15).toInt.toNat c ∨ ((h1.1 116 15).toInt ≥ 160 ∨ cZ < 0 ∨ 127 < cZ) ∧ u2Z = (h1.1 116 15).toInt ∧ fdN h1 h2 121) (hs : 0 ≤ (h.1 89 1).toInt) : JT h2 := by
  have e15 : (h1.1 116 15).toInt = (h.1 89 1).toInt := by rw [f1.1 116 15 s1, ← r.1]
  rw [e15] at E2
  have a1 : h2.1 89 1 = u1 := by rw [f2.1 89 1 s2, u1K]
  have hu : u1Z = u2Z := by (first | decide +kernel | omega)
  refine ⟨by rw [a1, u2K]; exact Int32.toInt_inj.mp (by rw [u1E, u2E, hu]), fun j hj => ?_, by rw [f2.1 88 6 s4.2, f1.1 88 6 s3.2, f2.1 116 20 s4.1, f1.1 116 20 s3.1]; exact r.2.2⟩
  rw [a1, u1E] at hj
  rw [f2.1 90 j (k2 j)]
  rcases E1 with ⟨q1, q2, q3, q4, q5⟩ | ⟨q1, q2, q3⟩
  · rcases E2 with ⟨p1, p2, p3, p4, p5⟩ | ⟨p1, p2, p3⟩
    · by_cases w : j = (h.1 89 1).toInt.toNat
      · rw [w, q5.1, p5.1, hc]
        exact ⟨rfl, q1, q2⟩
      · rw [q5.2 j w, p5.2 j w, f1.1 121 j (k1 j)]
        exact r.2.1 j (by (first | decide +kernel | omega))
    · omega
  · rcases E2 with ⟨p1, p2, p3, p4, p5⟩ | ⟨p1, p2, p3⟩
    · omega
    · rw [q3 j, p3 j, f1.1 121 j (k1 j)]
      exact r.2.1 j (by (first | decide +kernel | omega))
theorem JT_end {S1 S2 : List (Nat × Option Nat)} {h h1 h2 : Hp} {u1 u2 : Int32} {u1Z u2Z nZ : Int} (r : JT h) (f1 : fr S1 h h1) (f2 : fr S2 h1 h2) (k1 : ∀ k i : Nat, jtC k i → k ≠ 89 → inS S1 k i = false) (k2 : ∀ k i : Nat, jtC k i → ¬ (k = 116 ∧ i = 15) → inS S2 k i = false) (u1E : u1.toInt = u1Z) (u1K : h1.1 89 1 = u1) (u2E : u2.toInt = u2Z) (u2K : h2.1 116 15 = u2) (E1 : 0 ≤ nZ ∧ nZ ≤ (h.1 89 1).toInt ∧ u1Z = nZ ∨ (nZ < 0 ∨ (h.1 89 1).toInt < nZ) ∧ u1Z = (h.1 89 1).toInt) (E2 : 0 ≤ nZ ∧ nZ ≤ (h1.1 116 15).toInt ∧ u2Z = nZ ∨ (nZ < 0 ∨ (h1.1 116 15).toInt < nZ) ∧ u2Z = (h1.1 116 15).toInt) : JT h2 := by
  have e15 : (h1.1 116 15).toInt = (h.1 89 1).toInt := by rw [f1.1 116 15 (k1 116 15 (by unfold jtC; omega) (by decide)), ← r.1]
  rw [e15] at E2
  have a1 : h2.1 89 1 = u1 := by rw [f2.1 89 1 (k2 89 1 (by unfold jtC; omega) (by decide)), u1K]
  refine ⟨by rw [a1, u2K]; exact Int32.toInt_inj.mp (by rw [u1E, u2E]; omega), fun j hj => ?_, ?_⟩
  · rw [a1, u1E] at hj
    rw [f2.1 90 j (k2 90 j (by unfold jtC; omega) (by (first | decide +kernel | omega))), f1.1 90 j (k1 90 j (by unfold jtC; omega) (by decide)), f2.1 121 j (k2 121 j (by unfold jtC; omega) (by (first | decide +kernel | omega))), f1.1 121 j (k1 121 j (by unfold jtC; omega) (by decide))]
    exact r.2.1 j (by (first | decide +kernel | omega))
  · rw [f2.1 88 6 (k2 88 6 (by unfold jtC; omega) (by (first | decide +kernel | omega))), f1.1 88 6 (k1 88 6 (by unfold jtC; omega) (by decide)), f2.1 116 20 (k2 116 20 (by unfold jtC; omega) (by (first | decide +kernel | omega))), f1.1 116 20 (k1 116 20 (by unfold jtC; omega) (by decide))]
    exact r.2.2
end
section
def S_Rod_feedX : List (Nat × Option Nat) := [(89, some 1), (90, none)]
abbrev q_Rod_feedX (h : Hp) (c : Int32) (cZ : Int) (t : Int32) (tZ : Int) : Option Value → Hp → Prop := pInt (fun r h' => Inv h' ∧ fr S_Rod_feedX h h' ∧ ∃ (u : Int32) (uZ : Int), u.toInt = uZ ∧ h'.1 89 1 = u ∧ (0 ≤ cZ ∧ cZ ≤ 127 ∧ tZ < 160 ∧ uZ = tZ + 1 ∧ fdY h h' 90 tZ.toNat c ∨ (tZ ≥ 160 ∨ cZ < 0 ∨ 127 < cZ) ∧ uZ = tZ ∧ fdN h h' 90))
set_option maxRecDepth 100000 in
theorem c_Rod_feedX (h : Hp) (hI : Inv h) (c : Int32) (cZ : Int) (cE : c.toInt = cZ) (t : Int32) (tZ : Int) (tE : t.toInt = tZ) (tK : h.1 89 1 = t) : Ct y_Rod_feed b_Rod_feed 2 (some .int) 0 0 [.ref 85, .int c] h (q_Rod_feedX h c cZ t tZ) := by
  refine ct_ow R_Rod [some (.ref 85), some (.int c)] rfl (by decide) rfl (Nat.le_of_ble_eq_true rfl) ?_
  have f0 : fr S_Rod_feedX h h := fr_rf
  have g1 : 0 ≤ tZ ∧ tZ ≤ 160 := inv_at hI tE tK.symm rfl
  refine V_iload_n 1 d_Rod_feed_0 rfl rfl ?_
  refine V_if_lt 10 cE d_Rod_feed_1 (by decide) (fun c2 => ?_) (fun c2 => ?_)
  ·
    refine V_iconst (-1) d_Rod_feed_10 (by decide) ?_
    exact V_iret rfl d_Rod_feed_11 ⟨(-1), rfl, ⟨hI, f0, t, tZ, tE, tK, (Or.inr ⟨by (first | decide +kernel | omega), by (first | decide +kernel | omega), fun _ => rfl⟩)⟩⟩
  ·
    refine V_iload_n 1 d_Rod_feed_4 rfl rfl ?_
    refine V_bipush 127 d_Rod_feed_5 (by decide) ?_
    refine V_icmp_le 12 cE tc_127 d_Rod_feed_7 (by decide) (fun c3 => ?_) (fun c3 => ?_)
    ·
      refine V_aload_n 0 d_Rod_feed_12 rfl rfl ?_
      refine V_getR fa_Rod_38 sk_85 rfl d_Rod_feed_13 ?_
      refine N_getK fa_Rod_67 sk_89 rfl d_Rod_feed_16 tK ?_
      refine V_sipush 160 d_Rod_feed_19 (by decide) ?_
      refine V_icmp_lt 28 tE tc_160 d_Rod_feed_22 (by decide) (fun c4 => ?_) (fun c4 => ?_)
      ·
        refine V_aload_n 0 d_Rod_feed_28 rfl rfl ?_
        refine V_getR fa_Rod_38 sk_85 rfl d_Rod_feed_29 ?_
        refine V_getR fa_Rod_73 sk_89 rfl d_Rod_feed_32 ?_
        refine V_aload_n 0 d_Rod_feed_35 rfl rfl ?_
        refine V_getR fa_Rod_38 sk_85 rfl d_Rod_feed_36 ?_
        refine N_getK fa_Rod_67 sk_89 rfl d_Rod_feed_39 tK ?_
        refine V_iload_n 1 d_Rod_feed_42 rfl rfl ?_
        refine N_i2b d_Rod_feed_43 (fun z5 z5Z z5E z5e => ?_)
        refine N_bast sk_90 tE (by (first | decide +kernel | omega)) d_Rod_feed_44 (fun h6 eh6 => ?_)
        have hI7 : Inv h6 := inv_full hI eh6 rfl
        have f8 : fr S_Rod_feedX h h6 := fr_put f0 eh6 rfl
        refine V_aload_n 0 d_Rod_feed_45 rfl rfl ?_
        refine V_getR fa_Rod_38 sk_85 rfl d_Rod_feed_46 ?_
        refine V_dup d_Rod_feed_49 rfl ?_
        refine N_getK fa_Rod_67 sk_89 rfl d_Rod_feed_50 (kn_ne eh6 tK (by decide)) ?_
        refine V_iconst 1 d_Rod_feed_53 (by decide) ?_
        refine V_iadd tE tc_1 (by (first | decide +kernel | omega)) d_Rod_feed_54 (fun z9 z9e z9E => ?_)
        refine N_putI fp_Rod_67 sk_89 rfl d_Rod_feed_55 (fun h10 eh10 => ?_)
        have hI11 : Inv h10 := inv_put (lo := 0) (hi := 160) hI7 eh10 rfl z9E (by (first | decide +kernel | omega))
        have f12 : fr S_Rod_feedX h h10 := fr_put f8 eh10 rfl
        refine V_aload_n 0 d_Rod_feed_58 rfl rfl ?_
        refine V_getR fa_Rod_38 sk_85 rfl d_Rod_feed_59 ?_
        refine N_getK fa_Rod_67 sk_89 rfl d_Rod_feed_62 (kn_put eh10) ?_
        exact V_iret rfl d_Rod_feed_65 ⟨z9, rfl, ⟨hI11, f12, z9, (tZ + 1), z9E, (kn_put eh10), (Or.inl ⟨by (first | decide +kernel | omega), by (first | decide +kernel | omega), by (first | decide +kernel | omega), by (first | decide +kernel | omega), ((kn_ne eh10 (kn_put eh6) (by decide)).trans (by rw [z5e]; exact (pk_vb c).trans (byte_same cE (by (first | decide +kernel | omega))))), fun j hj => (kn_ne eh10 rfl (by decide)).trans (kn_nei eh6 rfl hj)⟩)⟩⟩
      ·
        refine V_bipush (-3) d_Rod_feed_25 (by decide) ?_
        exact V_iret rfl d_Rod_feed_27 ⟨(-3), rfl, ⟨hI, f0, t, tZ, tE, tK, (Or.inr ⟨by (first | decide +kernel | omega), by (first | decide +kernel | omega), fun _ => rfl⟩)⟩⟩
    ·
      refine V_iconst (-1) d_Rod_feed_10 (by decide) ?_
      exact V_iret rfl d_Rod_feed_11 ⟨(-1), rfl, ⟨hI, f0, t, tZ, tE, tK, (Or.inr ⟨by (first | decide +kernel | omega), by (first | decide +kernel | omega), fun _ => rfl⟩)⟩⟩
def S_Mod_feedX : List (Nat × Option Nat) := [(116, some 15), (121, none)]
abbrev q_Mod_feedX (h : Hp) (c : Int32) (cZ : Int) (t : Int32) (tZ : Int) : Option Value → Hp → Prop := pInt (fun r h' => Inv h' ∧ fr S_Mod_feedX h h' ∧ ∃ (u : Int32) (uZ : Int), u.toInt = uZ ∧ h'.1 116 15 = u ∧ (0 ≤ cZ ∧ cZ ≤ 127 ∧ tZ < 160 ∧ uZ = tZ + 1 ∧ fdY h h' 121 tZ.toNat c ∨ (tZ ≥ 160 ∨ cZ < 0 ∨ 127 < cZ) ∧ uZ = tZ ∧ fdN h h' 121))
set_option maxRecDepth 100000 in
theorem c_Mod_feedX (h : Hp) (hI : Inv h) (c : Int32) (cZ : Int) (cE : c.toInt = cZ) (t : Int32) (tZ : Int) (tE : t.toInt = tZ) (tK : h.1 116 15 = t) : Ct y_Mod_feed b_Mod_feed 2 (some .int) 1 25 [.ref 116, .int c] h (q_Mod_feedX h c cZ t tZ) := by
  refine ct_ow R_Mod [some (.ref 116), some (.int c)] rfl (by decide) rfl (Nat.le_of_ble_eq_true rfl) ?_
  have f0 : fr S_Mod_feedX h h := fr_rf
  have g1 : 0 ≤ tZ ∧ tZ ≤ 160 := inv_at hI tE tK.symm rfl
  refine V_iload_n 1 d_Mod_feed_0 rfl rfl ?_
  refine V_i2l d_Mod_feed_1 (fun z2 z2e z2E => ?_)
  have z2F : z2.toInt = cZ := z2E.trans cE
  refine V_lconst 0 d_Mod_feed_2 (by decide) ?_
  refine V_ldc2 d_Mod_feed_3 wl_Mod_93 ?_
  refine N_callSI [.long z2, .long 0, .long 127] [] cs_Mod_95 d_Mod_feed_6 rfl (Nat.le_of_ble_eq_true rfl) (by decide) (by decide) (c_Mod_in h z2 cZ z2F 0 0 tl_0 127 127 tl_127) (fun z3 h4 z3Z z3E p5 => ?_)
  obtain ⟨eh4, p5⟩ := p5
  subst eh4
  refine V_if_ne 14 z3E d_Mod_feed_9 (by decide) (fun c6 => ?_) (fun c6 => ?_)
  ·
    refine V_aload_n 0 d_Mod_feed_14 rfl rfl ?_
    refine N_getK fa_Mod_99 sk_116 rfl d_Mod_feed_15 tK ?_
    refine V_sipush 160 d_Mod_feed_18 (by decide) ?_
    refine V_icmp_ne 27 tE tc_160 d_Mod_feed_21 (by decide) (fun c7 => ?_) (fun c7 => ?_)
    ·
      refine V_aload_n 0 d_Mod_feed_27 rfl rfl ?_
      refine V_getR fa_Mod_23 sk_116 rfl d_Mod_feed_28 ?_
      refine V_aload_n 0 d_Mod_feed_31 rfl rfl ?_
      refine N_getK fa_Mod_99 sk_116 rfl d_Mod_feed_32 tK ?_
      refine V_iload_n 1 d_Mod_feed_35 rfl rfl ?_
      refine N_iast sk_121 tE (by (first | decide +kernel | omega)) d_Mod_feed_36 (fun h8 eh8 => ?_)
      have hI9 : Inv h8 := inv_full hI eh8 rfl
      have f10 : fr S_Mod_feedX h h8 := fr_put f0 eh8 rfl
      refine V_aload_n 0 d_Mod_feed_37 rfl rfl ?_
      refine V_dup d_Mod_feed_38 rfl ?_
      refine N_getK fa_Mod_99 sk_116 rfl d_Mod_feed_39 (kn_ne eh8 tK (by decide)) ?_
      refine V_iconst 1 d_Mod_feed_42 (by decide) ?_
      refine V_iadd tE tc_1 (by (first | decide +kernel | omega)) d_Mod_feed_43 (fun z11 z11e z11E => ?_)
      refine N_putI fp_Mod_99 sk_116 rfl d_Mod_feed_44 (fun h12 eh12 => ?_)
      have hI13 : Inv h12 := inv_put (lo := 0) (hi := 160) hI9 eh12 rfl z11E (by (first | decide +kernel | omega))
      have f14 : fr S_Mod_feedX h h12 := fr_put f10 eh12 rfl
      refine V_aload_n 0 d_Mod_feed_47 rfl rfl ?_
      refine N_getK fa_Mod_99 sk_116 rfl d_Mod_feed_48 (kn_put eh12) ?_
      exact V_iret rfl d_Mod_feed_51 ⟨z11, rfl, ⟨hI13, f14, z11, (tZ + 1), z11E, (kn_put eh12), (Or.inl ⟨by (first | decide +kernel | omega), by (first | decide +kernel | omega), by (first | decide +kernel | omega), by (first | decide +kernel | omega), ((kn_ne eh12 (kn_put eh8) (by decide))), fun j hj => (kn_ne eh12 rfl (by decide)).trans (kn_nei eh8 rfl hj)⟩)⟩⟩
    ·
      refine V_bipush (-3) d_Mod_feed_24 (by decide) ?_
      exact V_iret rfl d_Mod_feed_26 ⟨(-3), rfl, ⟨hI, f0, t, tZ, tE, tK, (Or.inr ⟨by (first | decide +kernel | omega), by (first | decide +kernel | omega), fun _ => rfl⟩)⟩⟩
  ·
    refine V_iconst (-1) d_Mod_feed_12 (by decide) ?_
    exact V_iret rfl d_Mod_feed_13 ⟨(-1), rfl, ⟨hI, f0, t, tZ, tE, tK, (Or.inr ⟨by (first | decide +kernel | omega), by (first | decide +kernel | omega), fun _ => rfl⟩)⟩⟩
abbrev q_Rod_faultX (h : Hp)  : Option Value → Hp → Prop := pInt (fun r h' => h = h' ∧ (r = h.1 88 6))
set_option maxRecDepth 100000 in
theorem c_Rod_faultX (h : Hp) (hI : Inv h) : Ct y_Rod_fault b_Rod_fault 1 (some .int) 0 0 [.ref 85] h (q_Rod_faultX h ) := by
  refine ct_ow R_Rod [some (.ref 85)] rfl (by decide) rfl (Nat.le_of_ble_eq_true rfl) ?_
  have f0 : fr [] h h := fr_rf
  refine V_aload_n 0 d_Rod_fault_0 rfl rfl ?_
  refine V_getR fa_Rod_30 sk_85 rfl d_Rod_fault_1 ?_
  refine N_getI fa_Rod_88 sk_88 rfl d_Rod_fault_4 (fun z1 z1Z z1E z1e => ?_)
  exact V_iret rfl d_Rod_fault_7 ⟨z1, rfl, ⟨rfl, z1e.symm.symm⟩⟩
abbrev q_Mod_faultX (h : Hp)  : Option Value → Hp → Prop := pInt (fun r h' => h = h' ∧ (r = h.1 116 20))
set_option maxRecDepth 100000 in
theorem c_Mod_faultX (h : Hp) (hI : Inv h) : Ct y_Mod_fault b_Mod_fault 1 (some .int) 0 0 [.ref 116] h (q_Mod_faultX h ) := by
  refine ct_ow R_Mod [some (.ref 116)] rfl (by decide) rfl (Nat.le_of_ble_eq_true rfl) ?_
  have f0 : fr [] h h := fr_rf
  refine V_aload_n 0 d_Mod_fault_0 rfl rfl ?_
  refine N_getI fa_Mod_102 sk_116 rfl d_Mod_fault_1 (fun z1 z1Z z1E z1e => ?_)
  exact V_iret rfl d_Mod_fault_4 ⟨z1, rfl, ⟨rfl, z1e.symm.symm⟩⟩
end
section
def aP (d : Nat) : Prop := 16 ≤ d ∧ d < 64 ∨ 84 ≤ d
def mK (d : Nat) : Nat := if d < 144 then 117 else 116
def mJ (o d : Nat) : Nat := if d < 144 then o + d else d - 142
/-- the cells of a county that are copied with it -/
def cpl (k i : Nat) : Prop := k = 0 ∧ (i = 3 ∨ i = 4) ∨ k = 1 ∧ i < 4 ∨ (2 ≤ k ∧ k ≤ 6) ∧ i < 16 ∨ (k = 7 ∨ k = 12) ∧ i = 4 ∨ k = 8 ∧ i < 4 ∨ (9 ≤ k ∧ k ≤ 11 ∨ 13 ≤ k ∧ k ≤ 16) ∧ i < 8
/-- a county of the class (k its first place), one of the reference (o its first cell) -/
def CA (h : Hp) (k o : Nat) : Prop := ∀ k' i d : Nat, dof (68 + k') i = some d → aP d → h.1 (k + k') i = h.1 (mK d) (mJ o d)
def DA (h : Hp) (k o : Nat) : Prop := ∀ i : Nat, i < 8 → (i : Int) < (h.1 (k + 7) 4).toInt → h.1 (k + 9) i = h.1 117 (o + (87 + 3 * i)) ∧ h.1 (k + 10) i = h.1 117 (o + (88 + 3 * i)) ∧ h.1 (k + 11) i = h.1 117 (o + (89 + 3 * i))
def SA (h : Hp) (k o : Nat) : Prop := ∀ i : Nat, i < 8 → (i : Int) < (h.1 (k + 12) 4).toInt → h.1 (k + 13) i = h.1 117 (o + (112 + 4 * i)) ∧ h.1 (k + 14) i = h.1 117 (o + (113 + 4 * i)) ∧ h.1 (k + 15) i = h.1 117 (o + (114 + 4 * i)) ∧ h.1 (k + 16) i = h.1 117 (o + (115 + 4 * i))
def CE (h : Hp) (k o : Nat) : Prop := CA h k o ∧ DA h k o ∧ SA h k o
def JA (h : Hp) : Prop := CE h 0 0 ∧ (h.1 87 0 = h.1 118 0 ∧ h.1 87 1 = h.1 118 1) ∧ (h.1 87 0 ≠ 0 → CE h 34 144) ∧ (h.1 87 1 ≠ 0 → CE h 51 288)
theorem mK_lt {d : Nat} (h : d < 144) : mK d = 117 := if_pos h
theorem mK_ge {d : Nat} (h : ¬ d < 144) : mK d = 116 := if_neg h
theorem mJ_lt {o d : Nat} (h : d < 144) : mJ o d = o + d := if_pos h
theorem mJ_ge {o d : Nat} (h : ¬ d < 144) : mJ o d = d - 142 := if_neg h
theorem dof_c {k i d : Nat} (h : dof (68 + k) i = some d) : cpl k i ∧ d ≤ 147 := by
  unfold cpl
  rcases dof_e h with e | e | e | e | e | e | e | e | e | e | e
  · exact ⟨Or.inr (Or.inr (Or.inl ⟨by (first | decide +kernel | omega), e.1.2⟩)), by (first | decide +kernel | omega)⟩
  · exact ⟨Or.inr (Or.inr (Or.inl ⟨by (first | decide +kernel | omega), e.1.2⟩)), by (first | decide +kernel | omega)⟩
  · exact ⟨Or.inr (Or.inr (Or.inl ⟨by (first | decide +kernel | omega), e.1.2⟩)), by (first | decide +kernel | omega)⟩
  · exact ⟨Or.inr (Or.inr (Or.inl ⟨by (first | decide +kernel | omega), e.1.2⟩)), by (first | decide +kernel | omega)⟩
  · exact ⟨Or.inr (Or.inr (Or.inl ⟨by (first | decide +kernel | omega), e.1.2⟩)), by (first | decide +kernel | omega)⟩
  · exact ⟨Or.inr (Or.inr (Or.inr (Or.inr (Or.inl ⟨by (first | decide +kernel | omega), e.1.2⟩)))), by (first | decide +kernel | omega)⟩
  · exact ⟨Or.inl ⟨by (first | decide +kernel | omega), Or.inl e.1.2⟩, by (first | decide +kernel | omega)⟩
  · exact ⟨Or.inl ⟨by (first | decide +kernel | omega), Or.inr e.1.2⟩, by (first | decide +kernel | omega)⟩
  · exact ⟨Or.inr (Or.inr (Or.inr (Or.inl ⟨Or.inl (by (first | decide +kernel | omega)), e.1.2⟩))), by (first | decide +kernel | omega)⟩
  · exact ⟨Or.inr (Or.inr (Or.inr (Or.inl ⟨Or.inr (by (first | decide +kernel | omega)), e.1.2⟩))), by (first | decide +kernel | omega)⟩
  · exact ⟨Or.inr (Or.inl ⟨by (first | decide +kernel | omega), e.1.2⟩), by (first | decide +kernel | omega)⟩
theorem dof_p {k i d : Nat} (h : dof (68 + k) i = some d) (ha : aP d) : k ≠ 2 ∧ k ≠ 6 ∧ k ≠ 8 := by
  unfold aP at ha
  rcases dof_e h with e | e | e | e | e | e | e | e | e | e | e <;> omega
theorem pI_at (h : Hp) (k i : Nat) (x : Int32) (k' i' : Nat) : (pI h k i x).1 k' i' = if k' = k ∧ i' = i then x else h.1 k' i' := by
  by_cases q : k' = k
  · subst q
    by_cases w : i' = i
    · subst w; rw [pI_eq, if_pos ⟨rfl, rfl⟩]
    · rw [pI_nei w, if_neg (fun c => w c.2)]
  · rw [pI_ne q, if_neg (fun c => q c.1)]
theorem pI_comm {h : Hp} {k i k' i' : Nat} {x y : Int32} (hne : ¬ (k = k' ∧ i = i')) : pI (pI h k i x) k' i' y = pI (pI h k' i' y) k i x := by
  refine Prod.ext (funext (fun a => funext (fun b => ?_))) rfl
  rw [pI_at, pI_at, pI_at, pI_at]
  by_cases q : a = k' ∧ b = i'
  · rw [if_pos q, if_pos q, if_neg (fun c => hne ⟨c.1.symm.trans q.1, c.2.symm.trans q.2⟩)]
  · rw [if_neg q, if_neg q]
theorem CE_at {h h' : Hp} {k o : Nat} (e1 : ∀ k' i : Nat, cpl k' i → k' ≠ 2 ∧ k' ≠ 6 ∧ k' ≠ 8 → h'.1 (k + k') i = h.1 (k + k') i) (e2 : ∀ i : Nat, aP i → i < 144 → h'.1 117 (o + i) = h.1 117 (o + i)) (e3 : ∀ i : Nat, 2 ≤ i → i ≤ 5 → h'.1 116 i = h.1 116 i) (r : CE h k o) : CE h' k o := by
  refine ⟨fun k' i d hd ha => ?_, fun i hi hc => ?_, fun i hi hc => ?_⟩
  · have c := dof_c hd
    rw [e1 k' i c.1 (dof_p hd ha), r.1 k' i d hd ha]
    by_cases q : d < 144
    · rw [mK_lt q, mJ_lt q]; exact (e2 d ha q).symm
    · rw [mK_ge q, mJ_ge q]; exact (e3 _ (by (first | decide +kernel | omega)) (by (first | decide +kernel | omega))).symm
  · rw [e1 7 4 (by unfold cpl; omega) (by (first | decide +kernel | omega))] at hc
    rw [e1 9 i (by unfold cpl; omega) (by (first | decide +kernel | omega)), e1 10 i (by unfold cpl; omega) (by (first | decide +kernel | omega)), e1 11 i (by unfold cpl; omega) (by (first | decide +kernel | omega)), e2 _ (by unfold aP; omega) (by (first | decide +kernel | omega)), e2 _ (by unfold aP; omega) (by (first | decide +kernel | omega)), e2 _ (by unfold aP; omega) (by (first | decide +kernel | omega))]
    exact r.2.1 i hi hc
  · rw [e1 12 4 (by unfold cpl; omega) (by (first | decide +kernel | omega))] at hc
    rw [e1 13 i (by unfold cpl; omega) (by (first | decide +kernel | omega)), e1 14 i (by unfold cpl; omega) (by (first | decide +kernel | omega)), e1 15 i (by unfold cpl; omega) (by (first | decide +kernel | omega)), e1 16 i (by unfold cpl; omega) (by (first | decide +kernel | omega)), e2 _ (by unfold aP; omega) (by (first | decide +kernel | omega)), e2 _ (by unfold aP; omega) (by (first | decide +kernel | omega)), e2 _ (by unfold aP; omega) (by (first | decide +kernel | omega)), e2 _ (by unfold aP; omega) (by (first | decide +kernel | omega))]
    exact r.2.2 i hi hc
theorem CE_cp {h h' : Hp} {k o k2 o2 : Nat} (e1 : ∀ k' i : Nat, cpl k' i → h'.1 (k + k') i = h.1 (k2 + k') i) (e2 : ∀ i : Nat, i < 144 → h'.1 117 (o + i) = h.1 117 (o2 + i)) (e3 : ∀ i : Nat, 2 ≤ i → i ≤ 5 → h'.1 116 i = h.1 116 i) (r : CE h k2 o2) : CE h' k o := by
  refine ⟨fun k' i d hd ha => ?_, fun i hi hc => ?_, fun i hi hc => ?_⟩
  · have c := dof_c hd
    rw [e1 k' i c.1, r.1 k' i d hd ha]
    by_cases q : d < 144
    · rw [mK_lt q, mJ_lt q, mJ_lt q]; exact (e2 d q).symm
    · rw [mK_ge q, mJ_ge q, mJ_ge q]; exact (e3 _ (by (first | decide +kernel | omega)) (by (first | decide +kernel | omega))).symm
  · rw [e1 7 4 (by unfold cpl; omega)] at hc
    rw [e1 9 i (by unfold cpl; omega), e1 10 i (by unfold cpl; omega), e1 11 i (by unfold cpl; omega), e2 _ (by (first | decide +kernel | omega)), e2 _ (by (first | decide +kernel | omega)), e2 _ (by (first | decide +kernel | omega))]
    exact r.2.1 i hi hc
  · rw [e1 12 4 (by unfold cpl; omega)] at hc
    rw [e1 13 i (by unfold cpl; omega), e1 14 i (by unfold cpl; omega), e1 15 i (by unfold cpl; omega), e1 16 i (by unfold cpl; omega), e2 _ (by (first | decide +kernel | omega)), e2 _ (by (first | decide +kernel | omega)), e2 _ (by (first | decide +kernel | omega)), e2 _ (by (first | decide +kernel | omega))]
    exact r.2.2 i hi hc
/-- the cells that the relation reads -/
def jaC (k i : Nat) : Prop := cpl k i ∧ (k ≠ 2 ∧ k ≠ 6 ∧ k ≠ 8) ∨ (34 ≤ k ∧ k ≤ 67) ∨ k = 87 ∨ k = 118 ∨ k = 117 ∧ (16 ≤ i ∧ i < 64 ∨ 84 ≤ i) ∨ k = 116 ∧ 2 ≤ i ∧ i ≤ 5
theorem jaC_c {k i : Nat} (h : cpl k i) (g : k ≠ 2 ∧ k ≠ 6 ∧ k ≠ 8) : jaC k i := Or.inl ⟨h, g⟩
theorem jaC_i {k i : Nat} (h : 34 ≤ k ∧ k ≤ 67) : jaC k i := Or.inr (Or.inl h)
theorem jaC_k {i : Nat} : jaC 87 i := Or.inr (Or.inr (Or.inl rfl))
theorem jaC_m {i : Nat} : jaC 118 i := Or.inr (Or.inr (Or.inr (Or.inl rfl)))
theorem jaC_s {i : Nat} (h : 16 ≤ i ∧ i < 64 ∨ 84 ≤ i) : jaC 117 i := Or.inr (Or.inr (Or.inr (Or.inr (Or.inl ⟨rfl, h⟩))))
theorem jaC_w {i : Nat} (h : 2 ≤ i) (g : i ≤ 5) : jaC 116 i := Or.inr (Or.inr (Or.inr (Or.inr (Or.inr ⟨rfl, h, g⟩))))
theorem cpl_k {k i : Nat} (h : cpl k i) : k ≤ 16 := by unfold cpl at h; omega
theorem CE0_at {h h' : Hp} (e : ∀ k i : Nat, jaC k i → h'.1 k i = h.1 k i) (r : CE h 0 0) : CE h' 0 0 :=
  CE_at (fun k' i c g => by rw [Nat.zero_add]; exact e _ _ (jaC_c c g)) (fun i ha _ => by rw [Nat.zero_add]; exact e _ _ (jaC_s ha)) (fun i a b => e _ _ (jaC_w a b)) r
theorem CE2_at {h h' : Hp} (e : ∀ k i : Nat, jaC k i → h'.1 k i = h.1 k i) (r : CE h 34 144) : CE h' 34 144 :=
  CE_at (fun k' i c _ => e _ _ (jaC_i (by have := cpl_k c; omega))) (fun i _ _ => e _ _ (jaC_s (by (first | decide +kernel | omega)))) (fun i a b => e _ _ (jaC_w a b)) r
theorem CE3_at {h h' : Hp} (e : ∀ k i : Nat, jaC k i → h'.1 k i = h.1 k i) (r : CE h 51 288) : CE h' 51 288 :=
  CE_at (fun k' i c _ => e _ _ (jaC_i (by have := cpl_k c; omega))) (fun i _ _ => e _ _ (jaC_s (by (first | decide +kernel | omega)))) (fun i a b => e _ _ (jaC_w a b)) r
theorem JA_at {h h' : Hp} (e : ∀ k i : Nat, jaC k i → h'.1 k i = h.1 k i) (r : JA h) : JA h' := by
  obtain ⟨r1, ⟨r2, r3⟩, r4, r5⟩ := r
  refine ⟨CE0_at e r1, ⟨?_, ?_⟩, fun c => ?_, fun c => ?_⟩
  · rw [e _ _ jaC_k, e _ _ jaC_m]; exact r2
  · rw [e _ _ jaC_k, e _ _ jaC_m]; exact r3
  · rw [e _ _ jaC_k] at c; exact CE2_at e (r4 c)
  · rw [e _ _ jaC_k] at c; exact CE3_at e (r5 c)
def jaS (S : List (Nat × Option Nat)) : Bool := S.all (fun q => decide ((16 < q.1 ∧ q.1 < 34 ∨ 67 < q.1 ∨ q.1 = 2 ∨ q.1 = 6 ∨ q.1 = 8) ∧ q.1 ≠ 87 ∧ q.1 ≠ 118 ∧ q.1 ≠ 117) && (decide (q.1 ≠ 116) || (match q.2 with | none => false | some j => decide (j < 2 ∨ 5 < j))))
theorem jaS_no {S : List (Nat × Option Nat)} (hc : jaS S = true) {k i : Nat} (hk : jaC k i) : inS S k i = false := by
  unfold inS
  rw [List.any_eq_false]
  intro q hq e
  have h1 := List.all_eq_true.mp hc q hq
  rw [Bool.and_eq_true, Bool.or_eq_true] at h1
  rw [Bool.and_eq_true] at e
  have e2 : q.1 = k := eq_of_beq e.1
  have h2 := of_decide_eq_true h1.1
  rcases hk with hk | hk | hk | hk | hk | hk
  · have := cpl_k hk.1; omega
  · omega
  · omega
  · omega
  · omega
  · rcases h1.2 with h3 | h3
    · have := of_decide_eq_true h3; omega
    · have e3 := e.2
      cases hz : q.2 with
      | none => rw [hz] at h3; cases h3
      | some j =>
        rw [hz] at h3 e3
        have h4 := of_decide_eq_true h3
        have h5 : j = i := eq_of_beq e3
        omega
theorem JA_fr {S : List (Nat × Option Nat)} {h h' : Hp} (f : fr S h h') (hc : jaS S = true) (r : JA h) : JA h' := JA_at (fun _ _ hk => f.1 _ _ (jaS_no hc hk)) r
theorem inS_flt {S : List (Nat × Option Nat)} {P : Nat → Bool} {k i : Nat} (hp : P k = true) (h : inS (S.filter (fun q => P q.1)) k i = false) : inS S k i = false := by
  unfold inS at h ⊢
  rw [List.any_eq_false] at h ⊢
  intro q hq e
  have e2 : q.1 = k := by rw [Bool.and_eq_true] at e; exact eq_of_beq e.1
  exact h q (List.mem_filter.mpr ⟨hq, by rw [e2]; exact hp⟩) e
theorem JA_mix {S : List (Nat × Option Nat)} {h h' : Hp} (P : Nat → Bool) (f : fr S h h') (hc : jaS (S.filter (fun q => P q.1)) = true) (e : ∀ k i : Nat, jaC k i → P k = false → h'.1 k i = h.1 k i) (r : JA h) : JA h' := JA_at (fun k i hk => by
  cases hp : P k with
  | true => exact f.1 k i (inS_flt hp (jaS_no hc hk))
  | false => exact e k i hk hp) r
/-- the reference's row keeps all but water, bores, purses -/
def nA (h h' : Hp) : Prop := ∀ i : Nat, (16 ≤ i ∧ i < 64 ∨ 84 ≤ i) → h'.1 117 i = h.1 117 i
theorem JA_nA {S : List (Nat × Option Nat)} {h h' : Hp} (f : fr S h h') (hc : jaS (S.filter (fun q => decide (q.1 ≠ 117))) = true) (g : nA h h') (r : JA h) : JA h' := JA_mix (fun k => decide (k ≠ 117)) f hc (fun k i hk hp => by
  have hp' : k = 117 := by
    have := of_decide_eq_false hp
    omega
  subst hp'
  refine g i ?_
  rcases hk with hk | hk | hk | hk | hk | hk
  · have := cpl_k hk.1; omega
  · omega
  · omega
  · omega
  · exact hk.2
  · omega) r
/-- the class's county keeps all but water, bores, purses -/
def cA (h h' : Hp) : Prop := ∀ k i : Nat, cpl k i → k ≠ 2 ∧ k ≠ 6 ∧ k ≠ 8 → h'.1 k i = h.1 k i
theorem JA_cA {S : List (Nat × Option Nat)} {h h' : Hp} (f : fr S h h') (hc : jaS (S.filter (fun q => decide (16 < q.1))) = true) (g : cA h h') (r : JA h) : JA h' := JA_mix (fun k => decide (16 < k)) f hc (fun k i hk hp => by
  have hp' := of_decide_eq_false hp
  rcases hk with hk | hk | hk | hk | hk | hk
  · exact g k i hk.1 hk.2
  · omega
  · omega
  · omega
  · omega
  · omega) r
theorem CA_put {h h1 h2 : Hp} {k i d : Nat} {x : Int32} (r : CA h 0 0) (hd : dof (68 + k) i = some d) (h144 : d < 144) (e1 : h1 = pI h k i x) (e2 : h2 = pI h1 117 d x) : CA h2 0 0 := fun k' i' d' hd' ha => by
  have b := dof_k hd
  have b' := dof_k hd'
  have c' := dof_c hd'
  rw [Nat.zero_add]
  have g := r k' i' d' hd' ha
  rw [Nat.zero_add] at g
  by_cases q : k' = k ∧ i' = i
  · obtain ⟨rfl, rfl⟩ := q
    rw [hd] at hd'
    cases hd'
    rw [mK_lt h144, mJ_lt h144, Nat.zero_add, e2, pI_at, if_neg (by (first | decide +kernel | omega)), e1, pI_at, if_pos ⟨rfl, rfl⟩, pI_at, if_pos ⟨rfl, rfl⟩]
  · have hne : d' ≠ d := fun c => by
      subst c
      have a1 := dofi_of hd
      have a2 := dofi_of hd'
      rw [a1] at a2
      have a3 : 68 + k = 68 + k' := congrArg Prod.fst a2
      have a4 : i = i' := congrArg Prod.snd a2
      exact q ⟨by (first | decide +kernel | omega), a4.symm⟩
    have e3 : h2.1 k' i' = h.1 k' i' := by rw [e2, pI_at, if_neg (by (first | decide +kernel | omega)), e1, pI_at, if_neg q]
    rw [e3, g]
    by_cases w : d' < 144
    · rw [mK_lt w, mJ_lt w, Nat.zero_add, e2, pI_at, if_neg (by (first | decide +kernel | omega)), e1, pI_at, if_neg (by (first | decide +kernel | omega))]
    · rw [mK_ge w, mJ_ge w, e2, pI_at, if_neg (by (first | decide +kernel | omega)), e1, pI_at, if_neg (by (first | decide +kernel | omega))]
theorem JA_rest {h h2 : Hp} (r : JA h) (c : CE h2 0 0) (e : ∀ k i : Nat, (34 ≤ k ∧ k ≤ 67 ∨ k = 87 ∨ k = 118 ∨ k = 117 ∧ 144 ≤ i ∨ k = 116 ∧ 2 ≤ i ∧ i ≤ 5) → h2.1 k i = h.1 k i) : JA h2 := by
  obtain ⟨r1, ⟨r2, r3⟩, r4, r5⟩ := r
  refine ⟨c, ⟨?_, ?_⟩, fun q => ?_, fun q => ?_⟩
  · rw [e 87 0 (by (first | decide +kernel | omega)), e 118 0 (by (first | decide +kernel | omega))]; exact r2
  · rw [e 87 1 (by (first | decide +kernel | omega)), e 118 1 (by (first | decide +kernel | omega))]; exact r3
  · rw [e 87 0 (by (first | decide +kernel | omega))] at q
    exact CE_at (fun k' i c _ => e _ _ (by have := cpl_k c; omega)) (fun i _ _ => e _ _ (by (first | decide +kernel | omega))) (fun i a b => e _ _ (by (first | decide +kernel | omega))) (r4 q)
  · rw [e 87 1 (by (first | decide +kernel | omega))] at q
    exact CE_at (fun k' i c _ => e _ _ (by have := cpl_k c; omega)) (fun i _ _ => e _ _ (by (first | decide +kernel | omega))) (fun i a b => e _ _ (by (first | decide +kernel | omega))) (r5 q)
theorem dof_not {k i d : Nat} (hd : dof (68 + k) i = some d) (h86 : d < 86) : k ≠ 7 ∧ k ≠ 12 ∧ k ≤ 12 := by
  rcases dof_e hd with e | e | e | e | e | e | e | e | e | e | e <;> omega
theorem JA_put {h h1 h2 : Hp} {k i d : Nat} {x : Int32} (r : JA h) (hd : dof (68 + k) i = some d) (h86 : d < 86) (e1 : h1 = pI h k i x) (e2 : h2 = pI h1 117 d x) : JA h2 := by
  have b := dof_k hd
  have b2 := dof_not hd h86
  have cell : ∀ k' i' : Nat, k' ≠ k → ¬ (k' = 117 ∧ i' = d) → h2.1 k' i' = h.1 k' i' := fun k' i' a c => by
    rw [e2, pI_at, if_neg c, e1, pI_at, if_neg (fun w => a w.1)]
  refine JA_rest r ⟨CA_put r.1.1 hd (by (first | decide +kernel | omega)) e1 e2, fun j hj hc => ?_, fun j hj hc => ?_⟩ (fun k' i' w => cell k' i' (by (first | decide +kernel | omega)) (by (first | decide +kernel | omega)))
  · rw [cell _ _ (by (first | decide +kernel | omega)) (by (first | decide +kernel | omega))] at hc
    rw [cell _ _ (by (first | decide +kernel | omega)) (by (first | decide +kernel | omega)), cell _ _ (by (first | decide +kernel | omega)) (by (first | decide +kernel | omega)), cell _ _ (by (first | decide +kernel | omega)) (by (first | decide +kernel | omega)), cell _ _ (by (first | decide +kernel | omega)) (by (first | decide +kernel | omega)), cell _ _ (by (first | decide +kernel | omega)) (by (first | decide +kernel | omega)), cell _ _ (by (first | decide +kernel | omega)) (by (first | decide +kernel | omega))]
    exact r.1.2.1 j hj hc
  · rw [cell _ _ (by (first | decide +kernel | omega)) (by (first | decide +kernel | omega))] at hc
    rw [cell _ _ (by (first | decide +kernel | omega)) (by (first | decide +kernel | omega)), cell _ _ (by (first | decide +kernel | omega)) (by (first | decide +kernel | omega)), cell _ _ (by (first | decide +kernel | omega)) (by (first | decide +kernel | omega)), cell _ _ (by (first | decide +kernel | omega)) (by (first | decide +kernel | omega)), cell _ _ (by (first | decide +kernel | omega)) (by (first | decide +kernel | omega)), cell _ _ (by (first | decide +kernel | omega)) (by (first | decide +kernel | omega)), cell _ _ (by (first | decide +kernel | omega)) (by (first | decide +kernel | omega)), cell _ _ (by (first | decide +kernel | omega)) (by (first | decide +kernel | omega))]
    exact r.1.2.2 j hj hc
theorem JA_cell {h : Hp} {k i d : Nat} (r : JA h) (hd : dof (68 + k) i = some d) (ha : aP d) (h144 : d < 144) : h.1 k i = h.1 117 d := by
  have g := r.1.1 k i d hd ha
  rw [Nat.zero_add, mK_lt h144, mJ_lt h144, Nat.zero_add] at g
  exact g
theorem JA_wh {h : Hp} (r : JA h) {i : Nat} (hi : i < 4) : h.1 1 i = h.1 116 (i + 2) := by
  have hd : dof (68 + 1) i = some (144 + i) := by
    unfold dof
    rw [if_neg (by (first | decide +kernel | omega)), if_neg (by (first | decide +kernel | omega)), if_neg (by (first | decide +kernel | omega)), if_neg (by (first | decide +kernel | omega)), if_neg (by (first | decide +kernel | omega)), if_neg (by (first | decide +kernel | omega)), if_neg (by (first | decide +kernel | omega)), if_neg (by (first | decide +kernel | omega)), if_neg (by (first | decide +kernel | omega)), if_neg (by (first | decide +kernel | omega)), if_pos (by (first | decide +kernel | omega))]
  have g := r.1.1 1 i (144 + i) hd (by unfold aP; omega)
  rw [mK_ge (by (first | decide +kernel | omega)), mJ_ge (by (first | decide +kernel | omega)), show 144 + i - 142 = i + 2 by (first | decide +kernel | omega)] at g
  exact g
theorem m1_eq {r s : Int32} (a : r.toInt = -1) (b : s.toInt = -1) : r = s := Int32.toInt_inj.mp (a.trans b.symm)
/-- a cell is told anew, its old number is the answer; or BAD -/
def Er (h h' : Hp) (k i : Nat) (G : Prop) (V : Int32 → Prop) (r : Int32) : Prop := G ∧ (∃ x : Int32, V x ∧ h' = pI h k i x ∧ r = h.1 k i) ∨ ¬ G ∧ h' = h ∧ r.toInt = -1
theorem JA_row {h h1 h2 : Hp} {k i d : Nat} {G1 G2 : Prop} {V1 V2 : Int32 → Prop} {r1 r2 : Int32} (r : JA h) (f1 : Er h h1 k i G1 V1 r1) (f2 : Er h1 h2 117 d G2 V2 r2) (hG : G1 ↔ G2) (hV : ∀ x y : Int32, V1 x → V2 y → x = y) (hd : G1 → dof (68 + k) i = some d ∧ d < 86 ∧ aP d) : JA h2 ∧ r1 = r2 := by
  rcases f1 with ⟨g1, x, vx, e1, q1⟩ | ⟨g1, e1, q1⟩
  · rcases f2 with ⟨g2, y, vy, e2, q2⟩ | ⟨g2, e2, q2⟩
    · obtain ⟨d1, d2, d3⟩ := hd g1
      have b := dof_k d1
      rw [← hV x y vx vy] at e2
      refine ⟨JA_put r d1 d2 e1 e2, ?_⟩
      rw [q1, q2, e1, pI_at, if_neg (by (first | decide +kernel | omega))]
      exact JA_cell r d1 d3 (by (first | decide +kernel | omega))
    · exact absurd (hG.mp g1) g2
  · rcases f2 with ⟨g2, y, vy, e2, q2⟩ | ⟨g2, e2, q2⟩
    · exact absurd (hG.mpr g2) g1
    · rw [e1] at e2
      rw [e2]
      exact ⟨r, m1_eq q1 q2⟩
/-- one that becomes another state -/
def Ew (h h' : Hp) (G : Prop) (hn : Hp) (r0 r : Int32) : Prop := G ∧ h' = hn ∧ r = r0 ∨ ¬ G ∧ h' = h ∧ r.toInt = -1
theorem JA_cut {h h1 h2 : Hp} {G1 G2 : Prop} {n v a b r1 r2 : Int32} (r : JA h) (f1 : Ew h h1 G1 (pI (pI h 0 3 n) 0 4 v) a r1) (f2 : Ew h1 h2 G2 (pI (pI h1 117 85 v) 117 84 n) b r2) (hG : G1 ↔ G2) (ha : a = h.1 0 3) (hb : b = h.1 117 84) : JA h2 ∧ r1 = r2 := by
  rcases f1 with ⟨g1, e1, q1⟩ | ⟨g1, e1, q1⟩
  · rcases f2 with ⟨g2, e2, q2⟩ | ⟨g2, e2, q2⟩
    · refine ⟨?_, ?_⟩
      · have e3 : h2 = pI (pI (pI (pI h 0 3 n) 117 84 n) 0 4 v) 117 85 v := by
          rw [e2, e1, pI_comm (h := pI (pI h 0 3 n) 0 4 v) (k := 117) (i := 85) (by (first | decide +kernel | omega)), pI_comm (h := pI h 0 3 n) (k := 0) (i := 4) (by (first | decide +kernel | omega))]
        exact JA_put (JA_put r (k := 0) (i := 3) (d := 84) rfl (by decide) rfl rfl) (k := 0) (i := 4) (d := 85) rfl (by decide) rfl e3
      · rw [q1, q2, ha, hb]
        exact JA_cell r rfl (Or.inr (by decide)) (by decide)
    · exact absurd (hG.mp g1) g2
  · rcases f2 with ⟨g2, e2, q2⟩ | ⟨g2, e2, q2⟩
    · exact absurd (hG.mpr g2) g1
    · rw [e1] at e2
      rw [e2]
      exact ⟨r, m1_eq q1 q2⟩
theorem JA_cnt7 {h h1 h2 : Hp} {n : Int32} (r : JA h) (hn : n.toInt ≤ (h.1 7 4).toInt) (e1 : h1 = pI h 7 4 n) (e2 : h2 = pI h1 117 86 n) : JA h2 := by
  have cell : ∀ k' i' : Nat, k' ≠ 7 → ¬ (k' = 117 ∧ i' = 86) → h2.1 k' i' = h.1 k' i' := fun k' i' a c => by
    rw [e2, pI_at, if_neg c, e1, pI_at, if_neg (fun w => a w.1)]
  refine JA_rest r ⟨CA_put r.1.1 (k := 7) (i := 4) (d := 86) rfl (by decide) e1 e2, fun j hj hc => ?_, fun j hj hc => ?_⟩ (fun k' i' w => cell k' i' (by (first | decide +kernel | omega)) (by (first | decide +kernel | omega)))
  · have e7 : h2.1 (0 + 7) 4 = n := by rw [e2, pI_at, if_neg (by (first | decide +kernel | omega)), e1, pI_at, if_pos (by (first | decide +kernel | omega))]
    rw [e7] at hc
    rw [cell _ _ (by (first | decide +kernel | omega)) (by (first | decide +kernel | omega)), cell _ _ (by (first | decide +kernel | omega)) (by (first | decide +kernel | omega)), cell _ _ (by (first | decide +kernel | omega)) (by (first | decide +kernel | omega)), cell _ _ (by (first | decide +kernel | omega)) (by (first | decide +kernel | omega)), cell _ _ (by (first | decide +kernel | omega)) (by (first | decide +kernel | omega)), cell _ _ (by (first | decide +kernel | omega)) (by (first | decide +kernel | omega))]
    exact r.1.2.1 j hj (by rw [Nat.zero_add]; omega)
  · rw [cell _ _ (by (first | decide +kernel | omega)) (by (first | decide +kernel | omega))] at hc
    rw [cell _ _ (by (first | decide +kernel | omega)) (by (first | decide +kernel | omega)), cell _ _ (by (first | decide +kernel | omega)) (by (first | decide +kernel | omega)), cell _ _ (by (first | decide +kernel | omega)) (by (first | decide +kernel | omega)), cell _ _ (by (first | decide +kernel | omega)) (by (first | decide +kernel | omega)), cell _ _ (by (first | decide +kernel | omega)) (by (first | decide +kernel | omega)), cell _ _ (by (first | decide +kernel | omega)) (by (first | decide +kernel | omega)), cell _ _ (by (first | decide +kernel | omega)) (by (first | decide +kernel | omega)), cell _ _ (by (first | decide +kernel | omega)) (by (first | decide +kernel | omega))]
    exact r.1.2.2 j hj hc
theorem JA_cnt12 {h h1 h2 : Hp} {n : Int32} (r : JA h) (hn : n.toInt ≤ (h.1 12 4).toInt) (e1 : h1 = pI h 12 4 n) (e2 : h2 = pI h1 117 111 n) : JA h2 := by
  have cell : ∀ k' i' : Nat, k' ≠ 12 → ¬ (k' = 117 ∧ i' = 111) → h2.1 k' i' = h.1 k' i' := fun k' i' a c => by
    rw [e2, pI_at, if_neg c, e1, pI_at, if_neg (fun w => a w.1)]
  refine JA_rest r ⟨CA_put r.1.1 (k := 12) (i := 4) (d := 111) rfl (by decide) e1 e2, fun j hj hc => ?_, fun j hj hc => ?_⟩ (fun k' i' w => cell k' i' (by (first | decide +kernel | omega)) (by (first | decide +kernel | omega)))
  · rw [cell _ _ (by (first | decide +kernel | omega)) (by (first | decide +kernel | omega))] at hc
    rw [cell _ _ (by (first | decide +kernel | omega)) (by (first | decide +kernel | omega)), cell _ _ (by (first | decide +kernel | omega)) (by (first | decide +kernel | omega)), cell _ _ (by (first | decide +kernel | omega)) (by (first | decide +kernel | omega)), cell _ _ (by (first | decide +kernel | omega)) (by (first | decide +kernel | omega)), cell _ _ (by (first | decide +kernel | omega)) (by (first | decide +kernel | omega)), cell _ _ (by (first | decide +kernel | omega)) (by (first | decide +kernel | omega))]
    exact r.1.2.1 j hj hc
  · have e7 : h2.1 (0 + 12) 4 = n := by rw [e2, pI_at, if_neg (by (first | decide +kernel | omega)), e1, pI_at, if_pos (by (first | decide +kernel | omega))]
    rw [e7] at hc
    rw [cell _ _ (by (first | decide +kernel | omega)) (by (first | decide +kernel | omega)), cell _ _ (by (first | decide +kernel | omega)) (by (first | decide +kernel | omega)), cell _ _ (by (first | decide +kernel | omega)) (by (first | decide +kernel | omega)), cell _ _ (by (first | decide +kernel | omega)) (by (first | decide +kernel | omega)), cell _ _ (by (first | decide +kernel | omega)) (by (first | decide +kernel | omega)), cell _ _ (by (first | decide +kernel | omega)) (by (first | decide +kernel | omega)), cell _ _ (by (first | decide +kernel | omega)) (by (first | decide +kernel | omega)), cell _ _ (by (first | decide +kernel | omega)) (by (first | decide +kernel | omega))]
    exact r.1.2.2 j hj (by rw [Nat.zero_add]; omega)
theorem JA_pay {h h1 h2 : Hp} {G1 G2 : Prop} {n a b r1 r2 : Int32} (r : JA h) (f1 : Ew h h1 G1 (pI h 7 4 n) a r1) (f2 : Ew h1 h2 G2 (pI h1 117 86 n) b r2) (hG : G1 ↔ G2) (hn : G1 → n.toInt ≤ (h.1 7 4).toInt) (ha : a = h.1 7 4) (hb : b = h.1 117 86) : JA h2 ∧ r1 = r2 := by
  rcases f1 with ⟨g1, e1, q1⟩ | ⟨g1, e1, q1⟩
  · rcases f2 with ⟨g2, e2, q2⟩ | ⟨g2, e2, q2⟩
    · exact ⟨JA_cnt7 r (hn g1) e1 e2, by rw [q1, q2, ha, hb]; exact JA_cell r rfl (Or.inr (by decide)) (by decide)⟩
    · exact absurd (hG.mp g1) g2
  · rcases f2 with ⟨g2, e2, q2⟩ | ⟨g2, e2, q2⟩
    · exact absurd (hG.mpr g2) g1
    · rw [e1] at e2
      rw [e2]
      exact ⟨r, m1_eq q1 q2⟩
theorem JA_forget {h h1 h2 : Hp} {G1 G2 : Prop} {n a b r1 r2 : Int32} (r : JA h) (f1 : Ew h h1 G1 (pI h 12 4 n) a r1) (f2 : Ew h1 h2 G2 (pI h1 117 111 n) b r2) (hG : G1 ↔ G2) (hn : G1 → n.toInt ≤ (h.1 12 4).toInt) (ha : a = h.1 12 4) (hb : b = h.1 117 111) : JA h2 ∧ r1 = r2 := by
  rcases f1 with ⟨g1, e1, q1⟩ | ⟨g1, e1, q1⟩
  · rcases f2 with ⟨g2, e2, q2⟩ | ⟨g2, e2, q2⟩
    · exact ⟨JA_cnt12 r (hn g1) e1 e2, by rw [q1, q2, ha, hb]; exact JA_cell r rfl (Or.inr (by decide)) (by decide)⟩
    · exact absurd (hG.mp g1) g2
  · rcases f2 with ⟨g2, e2, q2⟩ | ⟨g2, e2, q2⟩
    · exact absurd (hG.mpr g2) g1
    · rw [e1] at e2
      rw [e2]
      exact ⟨r, m1_eq q1 q2⟩
end
section
theorem JA_owe1 {h h1 h2 : Hp} {a b v u : Int32} {t : Int} (r : JA h) (ht : 0 ≤ t ∧ t < 8) (h7 : (h.1 7 4).toInt = t) (hu : u.toInt = t + 1) (e1 : h1 = pI (pI (pI (pI h 9 t.toNat a) 10 t.toNat b) 11 t.toNat v) 7 4 u) (e2 : h2 = pI (pI (pI (pI h1 117 (87 + 3 * t).toNat a) 117 (87 + 3 * t + 1).toNat b) 117 (87 + 3 * t + 2).toNat v) 117 86 u) : JA h2 := by
  have cell : ∀ k i : Nat, k ≠ 7 → k ≠ 9 → k ≠ 10 → k ≠ 11 → ¬ (k = 117 ∧ 86 ≤ i ∧ i ≤ 110) → h2.1 k i = h.1 k i := fun k i a1 a2 a3 a4 a5 => by
    rw [e2, pI_at, if_neg (by (first | decide +kernel | omega)), pI_at, if_neg (by (first | decide +kernel | omega)), pI_at, if_neg (by (first | decide +kernel | omega)), pI_at, if_neg (by (first | decide +kernel | omega)), e1, pI_at, if_neg (by (first | decide +kernel | omega)), pI_at, if_neg (by (first | decide +kernel | omega)), pI_at, if_neg (by (first | decide +kernel | omega)), pI_at, if_neg (by (first | decide +kernel | omega))]
  have c7 : h2.1 7 4 = u := by rw [e2, pI_at, if_neg (by (first | decide +kernel | omega)), pI_at, if_neg (by (first | decide +kernel | omega)), pI_at, if_neg (by (first | decide +kernel | omega)), pI_at, if_neg (by (first | decide +kernel | omega)), e1, pI_at, if_pos (by (first | decide +kernel | omega))]
  have c86 : h2.1 117 86 = u := by rw [e2, pI_at, if_pos (by (first | decide +kernel | omega))]
  refine JA_rest r ⟨fun k i d hd ha => ?_, fun j hj hc => ?_, fun j hj hc => ?_⟩ (fun k i w => cell k i (by (first | decide +kernel | omega)) (by (first | decide +kernel | omega)) (by (first | decide +kernel | omega)) (by (first | decide +kernel | omega)) (by (first | decide +kernel | omega)))
  · have q := dof_k hd
    have q2 := dof_c hd
    rw [Nat.zero_add]
    by_cases w : d = 86
    · subst w
      have a2 := dofi_of hd
      have a3 : 68 + k = 75 := (congrArg Prod.fst a2).symm
      have a4 : i = 4 := (congrArg Prod.snd a2).symm
      obtain rfl : k = 7 := by (first | decide +kernel | omega)
      subst a4
      rw [mK_lt (by decide), mJ_lt (by decide), Nat.zero_add, c7, c86]
    · have k7 : k ≠ 7 := fun c => by
        subst c
        exact w (dof_86 hd)
      have g := r.1.1 k i d hd ha
      rw [Nat.zero_add] at g
      rw [cell k i k7 (by (first | decide +kernel | omega)) (by (first | decide +kernel | omega)) (by (first | decide +kernel | omega)) (by (first | decide +kernel | omega)), g]
      by_cases z : d < 144
      · rw [mK_lt z, mJ_lt z, Nat.zero_add, cell 117 d (by (first | decide +kernel | omega)) (by (first | decide +kernel | omega)) (by (first | decide +kernel | omega)) (by (first | decide +kernel | omega)) (by (first | decide +kernel | omega))]
      · rw [mK_ge z, mJ_ge z, cell 116 _ (by (first | decide +kernel | omega)) (by (first | decide +kernel | omega)) (by (first | decide +kernel | omega)) (by (first | decide +kernel | omega)) (by (first | decide +kernel | omega))]
  · rw [Nat.zero_add] at hc
    rw [c7, hu] at hc
    rw [Nat.zero_add, Nat.zero_add, Nat.zero_add, Nat.zero_add, Nat.zero_add, Nat.zero_add]
    by_cases w : j = t.toNat
    · subst w
      refine ⟨?_, ?_, ?_⟩
      · have p1 : h2.1 9 t.toNat = a := by rw [e2, pI_at, if_neg (by (first | decide +kernel | omega)), pI_at, if_neg (by (first | decide +kernel | omega)), pI_at, if_neg (by (first | decide +kernel | omega)), pI_at, if_neg (by (first | decide +kernel | omega)), e1, pI_at, if_neg (by (first | decide +kernel | omega)), pI_at, if_neg (by (first | decide +kernel | omega)), pI_at, if_neg (by (first | decide +kernel | omega)), pI_at, if_pos (by (first | decide +kernel | omega))]
        have p2 : h2.1 117 (87 + 3 * t.toNat) = a := by rw [e2, pI_at, if_neg (by (first | decide +kernel | omega)), pI_at, if_neg (by (first | decide +kernel | omega)), pI_at, if_neg (by (first | decide +kernel | omega)), pI_at, if_pos (by (first | decide +kernel | omega))]
        rw [p1, p2]
      · have p1 : h2.1 10 t.toNat = b := by rw [e2, pI_at, if_neg (by (first | decide +kernel | omega)), pI_at, if_neg (by (first | decide +kernel | omega)), pI_at, if_neg (by (first | decide +kernel | omega)), pI_at, if_neg (by (first | decide +kernel | omega)), e1, pI_at, if_neg (by (first | decide +kernel | omega)), pI_at, if_neg (by (first | decide +kernel | omega)), pI_at, if_pos (by (first | decide +kernel | omega))]
        have p2 : h2.1 117 (88 + 3 * t.toNat) = b := by rw [e2, pI_at, if_neg (by (first | decide +kernel | omega)), pI_at, if_neg (by (first | decide +kernel | omega)), pI_at, if_pos (by (first | decide +kernel | omega))]
        rw [p1, p2]
      · have p1 : h2.1 11 t.toNat = v := by rw [e2, pI_at, if_neg (by (first | decide +kernel | omega)), pI_at, if_neg (by (first | decide +kernel | omega)), pI_at, if_neg (by (first | decide +kernel | omega)), pI_at, if_neg (by (first | decide +kernel | omega)), e1, pI_at, if_neg (by (first | decide +kernel | omega)), pI_at, if_pos (by (first | decide +kernel | omega))]
        have p2 : h2.1 117 (89 + 3 * t.toNat) = v := by rw [e2, pI_at, if_neg (by (first | decide +kernel | omega)), pI_at, if_pos (by (first | decide +kernel | omega))]
        rw [p1, p2]
    · have cj : ∀ k i : Nat, k = 9 ∧ i = j ∨ k = 10 ∧ i = j ∨ k = 11 ∧ i = j ∨ k = 117 ∧ (i = 87 + 3 * j ∨ i = 88 + 3 * j ∨ i = 89 + 3 * j) → h2.1 k i = h.1 k i := fun k i a1 => by
        rw [e2, pI_at, if_neg (by (first | decide +kernel | omega)), pI_at, if_neg (by (first | decide +kernel | omega)), pI_at, if_neg (by (first | decide +kernel | omega)), pI_at, if_neg (by (first | decide +kernel | omega)), e1, pI_at, if_neg (by (first | decide +kernel | omega)), pI_at, if_neg (by (first | decide +kernel | omega)), pI_at, if_neg (by (first | decide +kernel | omega)), pI_at, if_neg (by (first | decide +kernel | omega))]
      have g := r.1.2.1 j hj (by rw [Nat.zero_add]; omega)
      rw [Nat.zero_add, Nat.zero_add, Nat.zero_add, Nat.zero_add, Nat.zero_add, Nat.zero_add] at g
      rw [cj 9 j (by (first | decide +kernel | omega)), cj 10 j (by (first | decide +kernel | omega)), cj 11 j (by (first | decide +kernel | omega)), cj 117 _ (by (first | decide +kernel | omega)), cj 117 _ (by (first | decide +kernel | omega)), cj 117 _ (by (first | decide +kernel | omega))]
      exact g
  · rw [Nat.zero_add, cell 12 4 (by (first | decide +kernel | omega)) (by (first | decide +kernel | omega)) (by (first | decide +kernel | omega)) (by (first | decide +kernel | omega)) (by (first | decide +kernel | omega))] at hc
    rw [cell _ _ (by (first | decide +kernel | omega)) (by (first | decide +kernel | omega)) (by (first | decide +kernel | omega)) (by (first | decide +kernel | omega)) (by (first | decide +kernel | omega)), cell _ _ (by (first | decide +kernel | omega)) (by (first | decide +kernel | omega)) (by (first | decide +kernel | omega)) (by (first | decide +kernel | omega)) (by (first | decide +kernel | omega)), cell _ _ (by (first | decide +kernel | omega)) (by (first | decide +kernel | omega)) (by (first | decide +kernel | omega)) (by (first | decide +kernel | omega)) (by (first | decide +kernel | omega)), cell _ _ (by (first | decide +kernel | omega)) (by (first | decide +kernel | omega)) (by (first | decide +kernel | omega)) (by (first | decide +kernel | omega)) (by (first | decide +kernel | omega)), cell _ _ (by (first | decide +kernel | omega)) (by (first | decide +kernel | omega)) (by (first | decide +kernel | omega)) (by (first | decide +kernel | omega)) (by (first | decide +kernel | omega)), cell _ _ (by (first | decide +kernel | omega)) (by (first | decide +kernel | omega)) (by (first | decide +kernel | omega)) (by (first | decide +kernel | omega)) (by (first | decide +kernel | omega)), cell _ _ (by (first | decide +kernel | omega)) (by (first | decide +kernel | omega)) (by (first | decide +kernel | omega)) (by (first | decide +kernel | omega)) (by (first | decide +kernel | omega)), cell _ _ (by (first | decide +kernel | omega)) (by (first | decide +kernel | omega)) (by (first | decide +kernel | omega)) (by (first | decide +kernel | omega)) (by (first | decide +kernel | omega))]
    exact r.1.2.2 j hj (by rw [Nat.zero_add]; exact hc)
theorem JA_see1 {h h1 h2 : Hp} {a b v x u : Int32} {t : Int} (r : JA h) (ht : 0 ≤ t ∧ t < 8) (h7 : (h.1 12 4).toInt = t) (hu : u.toInt = t + 1) (e1 : h1 = pI (pI (pI (pI (pI h 13 t.toNat a) 14 t.toNat b) 15 t.toNat v) 16 t.toNat x) 12 4 u) (e2 : h2 = pI (pI (pI (pI (pI h1 117 (112 + 4 * t).toNat a) 117 (112 + 4 * t + 1).toNat b) 117 (112 + 4 * t + 2).toNat v) 117 (112 + 4 * t + 3).toNat x) 117 111 u) : JA h2 := by
  have cell : ∀ k i : Nat, k ≤ 11 ∨ 16 < k ∧ ¬ (k = 117 ∧ 111 ≤ i ∧ i ≤ 143) → h2.1 k i = h.1 k i := fun k i a1 => by
    rw [e2, pI_at, if_neg (by (first | decide +kernel | omega)), pI_at, if_neg (by (first | decide +kernel | omega)), pI_at, if_neg (by (first | decide +kernel | omega)), pI_at, if_neg (by (first | decide +kernel | omega)), pI_at, if_neg (by (first | decide +kernel | omega)), e1, pI_at, if_neg (by (first | decide +kernel | omega)), pI_at, if_neg (by (first | decide +kernel | omega)), pI_at, if_neg (by (first | decide +kernel | omega)), pI_at, if_neg (by (first | decide +kernel | omega)), pI_at, if_neg (by (first | decide +kernel | omega))]
  have c7 : h2.1 12 4 = u := by rw [e2, pI_at, if_neg (by (first | decide +kernel | omega)), pI_at, if_neg (by (first | decide +kernel | omega)), pI_at, if_neg (by (first | decide +kernel | omega)), pI_at, if_neg (by (first | decide +kernel | omega)), pI_at, if_neg (by (first | decide +kernel | omega)), e1, pI_at, if_pos (by (first | decide +kernel | omega))]
  have c86 : h2.1 117 111 = u := by rw [e2, pI_at, if_pos (by (first | decide +kernel | omega))]
  refine JA_rest r ⟨fun k i d hd ha => ?_, fun j hj hc => ?_, fun j hj hc => ?_⟩ (fun k i w => cell k i (by (first | decide +kernel | omega)))
  · have q := dof_k hd
    have q2 := dof_c hd
    rw [Nat.zero_add]
    by_cases w : d = 111
    · subst w
      have a2 := dofi_of hd
      have a3 : 68 + k = 80 := (congrArg Prod.fst a2).symm
      have a4 : i = 4 := (congrArg Prod.snd a2).symm
      obtain rfl : k = 12 := by (first | decide +kernel | omega)
      subst a4
      rw [mK_lt (by decide), mJ_lt (by decide), Nat.zero_add, c7, c86]
    · have k7 : k ≠ 12 := fun c => by
        subst c
        exact w (dof_111 hd)
      have g := r.1.1 k i d hd ha
      rw [Nat.zero_add] at g
      rw [cell k i (by (first | decide +kernel | omega)), g]
      by_cases z : d < 144
      · rw [mK_lt z, mJ_lt z, Nat.zero_add, cell 117 d (by (first | decide +kernel | omega))]
      · rw [mK_ge z, mJ_ge z, cell 116 _ (by (first | decide +kernel | omega))]
  · rw [Nat.zero_add, cell 7 4 (by (first | decide +kernel | omega))] at hc
    rw [cell _ _ (by (first | decide +kernel | omega)), cell _ _ (by (first | decide +kernel | omega)), cell _ _ (by (first | decide +kernel | omega)), cell _ _ (by (first | decide +kernel | omega)), cell _ _ (by (first | decide +kernel | omega)), cell _ _ (by (first | decide +kernel | omega))]
    exact r.1.2.1 j hj (by rw [Nat.zero_add]; exact hc)
  · rw [Nat.zero_add] at hc
    rw [c7, hu] at hc
    rw [Nat.zero_add, Nat.zero_add, Nat.zero_add, Nat.zero_add, Nat.zero_add, Nat.zero_add, Nat.zero_add, Nat.zero_add]
    by_cases w : j = t.toNat
    · subst w
      refine ⟨?_, ?_, ?_, ?_⟩
      · have p1 : h2.1 13 t.toNat = a := by rw [e2, pI_at, if_neg (by (first | decide +kernel | omega)), pI_at, if_neg (by (first | decide +kernel | omega)), pI_at, if_neg (by (first | decide +kernel | omega)), pI_at, if_neg (by (first | decide +kernel | omega)), pI_at, if_neg (by (first | decide +kernel | omega)), e1, pI_at, if_neg (by (first | decide +kernel | omega)), pI_at, if_neg (by (first | decide +kernel | omega)), pI_at, if_neg (by (first | decide +kernel | omega)), pI_at, if_neg (by (first | decide +kernel | omega)), pI_at, if_pos (by (first | decide +kernel | omega))]
        have p2 : h2.1 117 (112 + 4 * t.toNat) = a := by rw [e2, pI_at, if_neg (by (first | decide +kernel | omega)), pI_at, if_neg (by (first | decide +kernel | omega)), pI_at, if_neg (by (first | decide +kernel | omega)), pI_at, if_neg (by (first | decide +kernel | omega)), pI_at, if_pos (by (first | decide +kernel | omega))]
        rw [p1, p2]
      · have p1 : h2.1 14 t.toNat = b := by rw [e2, pI_at, if_neg (by (first | decide +kernel | omega)), pI_at, if_neg (by (first | decide +kernel | omega)), pI_at, if_neg (by (first | decide +kernel | omega)), pI_at, if_neg (by (first | decide +kernel | omega)), pI_at, if_neg (by (first | decide +kernel | omega)), e1, pI_at, if_neg (by (first | decide +kernel | omega)), pI_at, if_neg (by (first | decide +kernel | omega)), pI_at, if_neg (by (first | decide +kernel | omega)), pI_at, if_pos (by (first | decide +kernel | omega))]
        have p2 : h2.1 117 (113 + 4 * t.toNat) = b := by rw [e2, pI_at, if_neg (by (first | decide +kernel | omega)), pI_at, if_neg (by (first | decide +kernel | omega)), pI_at, if_neg (by (first | decide +kernel | omega)), pI_at, if_pos (by (first | decide +kernel | omega))]
        rw [p1, p2]
      · have p1 : h2.1 15 t.toNat = v := by rw [e2, pI_at, if_neg (by (first | decide +kernel | omega)), pI_at, if_neg (by (first | decide +kernel | omega)), pI_at, if_neg (by (first | decide +kernel | omega)), pI_at, if_neg (by (first | decide +kernel | omega)), pI_at, if_neg (by (first | decide +kernel | omega)), e1, pI_at, if_neg (by (first | decide +kernel | omega)), pI_at, if_neg (by (first | decide +kernel | omega)), pI_at, if_pos (by (first | decide +kernel | omega))]
        have p2 : h2.1 117 (114 + 4 * t.toNat) = v := by rw [e2, pI_at, if_neg (by (first | decide +kernel | omega)), pI_at, if_neg (by (first | decide +kernel | omega)), pI_at, if_pos (by (first | decide +kernel | omega))]
        rw [p1, p2]
      · have p1 : h2.1 16 t.toNat = x := by rw [e2, pI_at, if_neg (by (first | decide +kernel | omega)), pI_at, if_neg (by (first | decide +kernel | omega)), pI_at, if_neg (by (first | decide +kernel | omega)), pI_at, if_neg (by (first | decide +kernel | omega)), pI_at, if_neg (by (first | decide +kernel | omega)), e1, pI_at, if_neg (by (first | decide +kernel | omega)), pI_at, if_pos (by (first | decide +kernel | omega))]
        have p2 : h2.1 117 (115 + 4 * t.toNat) = x := by rw [e2, pI_at, if_neg (by (first | decide +kernel | omega)), pI_at, if_pos (by (first | decide +kernel | omega))]
        rw [p1, p2]
    · have cj : ∀ k i : Nat, (k = 13 ∨ k = 14 ∨ k = 15 ∨ k = 16) ∧ i = j ∨ k = 117 ∧ 112 + 4 * j ≤ i ∧ i ≤ 115 + 4 * j → h2.1 k i = h.1 k i := fun k i a1 => by
        rw [e2, pI_at, if_neg (by (first | decide +kernel | omega)), pI_at, if_neg (by (first | decide +kernel | omega)), pI_at, if_neg (by (first | decide +kernel | omega)), pI_at, if_neg (by (first | decide +kernel | omega)), pI_at, if_neg (by (first | decide +kernel | omega)), e1, pI_at, if_neg (by (first | decide +kernel | omega)), pI_at, if_neg (by (first | decide +kernel | omega)), pI_at, if_neg (by (first | decide +kernel | omega)), pI_at, if_neg (by (first | decide +kernel | omega)), pI_at, if_neg (by (first | decide +kernel | omega))]
      have g := r.1.2.2 j hj (by rw [Nat.zero_add]; omega)
      rw [Nat.zero_add, Nat.zero_add, Nat.zero_add, Nat.zero_add, Nat.zero_add, Nat.zero_add, Nat.zero_add, Nat.zero_add] at g
      rw [cj 13 j (by (first | decide +kernel | omega)), cj 14 j (by (first | decide +kernel | omega)), cj 15 j (by (first | decide +kernel | omega)), cj 16 j (by (first | decide +kernel | omega)), cj 117 _ (by (first | decide +kernel | omega)), cj 117 _ (by (first | decide +kernel | omega)), cj 117 _ (by (first | decide +kernel | omega)), cj 117 _ (by (first | decide +kernel | omega))]
      exact g
theorem same_of {x y : Int32} {a : Int} (p : x.toInt = a) (q : y.toInt = a) : x = y := Int32.toInt_inj.mp (p.trans q.symm)
theorem JA_owe {h h1 h2 : Hp} {G1 G2 : Prop} {a b v r1 r2 : Int32} {t1 t2 : Int} (r : JA h) (f1 : G1 ∧ t1 < 8 ∧ (∃ u : Int32, u.toInt = t1 + 1 ∧ h1 = pI (pI (pI (pI h 9 t1.toNat a) 10 t1.toNat b) 11 t1.toNat v) 7 4 u ∧ r1 = u) ∨ G1 ∧ 8 ≤ t1 ∧ h1 = h ∧ r1.toInt = -3 ∨ ¬ G1 ∧ h1 = h ∧ r1.toInt = -1) (f2 : G2 ∧ t2 < 8 ∧ (∃ u : Int32, u.toInt = t2 + 1 ∧ h2 = pI (pI (pI (pI h1 117 (87 + 3 * t2).toNat a) 117 (87 + 3 * t2 + 1).toNat b) 117 (87 + 3 * t2 + 2).toNat v) 117 86 u ∧ r2 = u) ∨ G2 ∧ 8 ≤ t2 ∧ h2 = h1 ∧ r2.toInt = -3 ∨ ¬ G2 ∧ h2 = h1 ∧ r2.toInt = -1) (hG : G1 ↔ G2) (h0 : 0 ≤ t1) (ht : t2 = t1) (h7 : (h.1 7 4).toInt = t1) : JA h2 ∧ r1 = r2 := by
  subst ht
  rcases f1 with ⟨g1, l1, u1, p1, e1, q1⟩ | ⟨g1, l1, e1, q1⟩ | ⟨g1, e1, q1⟩
  · rcases f2 with ⟨g2, l2, u2, p2, e2, q2⟩ | ⟨g2, l2, e2, q2⟩ | ⟨g2, e2, q2⟩
    · have hu : u2 = u1 := same_of p2 p1
      subst hu
      exact ⟨JA_owe1 r ⟨h0, l1⟩ h7 p1 e1 e2, by rw [q1, q2]⟩
    · omega
    · exact absurd (hG.mp g1) g2
  · rcases f2 with ⟨g2, l2, u2, p2, e2, q2⟩ | ⟨g2, l2, e2, q2⟩ | ⟨g2, e2, q2⟩
    · omega
    · rw [e1] at e2
      rw [e2]
      exact ⟨r, same_of q1 q2⟩
    · exact absurd (hG.mp g1) g2
  · rcases f2 with ⟨g2, l2, u2, p2, e2, q2⟩ | ⟨g2, l2, e2, q2⟩ | ⟨g2, e2, q2⟩
    · exact absurd (hG.mpr g2) g1
    · exact absurd (hG.mpr g2) g1
    · rw [e1] at e2
      rw [e2]
      exact ⟨r, same_of q1 q2⟩
theorem JA_see {h h1 h2 : Hp} {G1 G2 : Prop} {a b v r1 r2 : Int32} {t1 t2 z : Int} (r : JA h) (f1 : G1 ∧ t1 < 8 ∧ (∃ u x : Int32, u.toInt = t1 + 1 ∧ (z ≠ 0 ∧ x.toInt = 1 ∨ z = 0 ∧ x.toInt = 0) ∧ h1 = pI (pI (pI (pI (pI h 13 t1.toNat a) 14 t1.toNat b) 15 t1.toNat v) 16 t1.toNat x) 12 4 u ∧ r1 = u) ∨ G1 ∧ 8 ≤ t1 ∧ h1 = h ∧ r1.toInt = -3 ∨ ¬ G1 ∧ h1 = h ∧ r1.toInt = -1) (f2 : G2 ∧ t2 < 8 ∧ (∃ u x : Int32, u.toInt = t2 + 1 ∧ (z ≠ 0 ∧ x.toInt = 1 ∨ z = 0 ∧ x.toInt = 0) ∧ h2 = pI (pI (pI (pI (pI h1 117 (112 + 4 * t2).toNat a) 117 (112 + 4 * t2 + 1).toNat b) 117 (112 + 4 * t2 + 2).toNat v) 117 (112 + 4 * t2 + 3).toNat x) 117 111 u ∧ r2 = u) ∨ G2 ∧ 8 ≤ t2 ∧ h2 = h1 ∧ r2.toInt = -3 ∨ ¬ G2 ∧ h2 = h1 ∧ r2.toInt = -1) (hG : G1 ↔ G2) (h0 : 0 ≤ t1) (ht : t2 = t1) (h7 : (h.1 12 4).toInt = t1) : JA h2 ∧ r1 = r2 := by
  subst ht
  rcases f1 with ⟨g1, l1, u1, x1, p1, w1, e1, q1⟩ | ⟨g1, l1, e1, q1⟩ | ⟨g1, e1, q1⟩
  · rcases f2 with ⟨g2, l2, u2, x2, p2, w2, e2, q2⟩ | ⟨g2, l2, e2, q2⟩ | ⟨g2, e2, q2⟩
    · have hu : u2 = u1 := same_of p2 p1
      have hx : x2 = x1 := by
        rcases w1 with ⟨a1, b1⟩ | ⟨a1, b1⟩ <;> rcases w2 with ⟨a2, b2⟩ | ⟨a2, b2⟩
        · exact same_of b2 b1
        · exact absurd a2 a1
        · exact absurd a1 a2
        · exact same_of b2 b1
      subst hu
      subst hx
      exact ⟨JA_see1 r ⟨h0, l1⟩ h7 p1 e1 e2, by rw [q1, q2]⟩
    · omega
    · exact absurd (hG.mp g1) g2
  · rcases f2 with ⟨g2, l2, u2, x2, p2, w2, e2, q2⟩ | ⟨g2, l2, e2, q2⟩ | ⟨g2, e2, q2⟩
    · omega
    · rw [e1] at e2
      rw [e2]
      exact ⟨r, same_of q1 q2⟩
    · exact absurd (hG.mp g1) g2
  · rcases f2 with ⟨g2, l2, u2, x2, p2, w2, e2, q2⟩ | ⟨g2, l2, e2, q2⟩ | ⟨g2, e2, q2⟩
    · exact absurd (hG.mpr g2) g1
    · exact absurd (hG.mpr g2) g1
    · rw [e1] at e2
      rw [e2]
      exact ⟨r, same_of q1 q2⟩
def rcp (h h' : Hp) (k1 k0 n : Nat) : Prop := ∀ i : Nat, i < n → h'.1 k1 i = h.1 k0 i
theorem rcp_now {S : List (Nat × Option Nat)} {h h1 h2 : Hp} {k1 k0 n : Nat} (f : fr S h h1) (hs : ∀ i : Nat, inS S k0 i = false) (e : h2 = pR h1 k1 (va_cpy (h1.1 k0) (h1.1 k1) 0 0 n)) : rcp h h2 k1 k0 n := fun i hi => by
  rw [e, pR_eq, ← f.1 k0 i (hs i)]
  unfold va_cpy
  rw [if_pos (by (first | decide +kernel | omega)), show 0 + (i - 0) = i by (first | decide +kernel | omega)]
theorem rcp_row {h h1 h2 : Hp} {k1 k0 n k : Nat} {f : Nat → Int32} (r : rcp h h1 k1 k0 n) (e : h2 = pR h1 k f) (hk : k1 ≠ k) : rcp h h2 k1 k0 n := fun i hi => kn_row e (r i hi) hk
theorem rcp_put {h h1 h2 : Hp} {k1 k0 n k i' : Nat} {x : Int32} (r : rcp h h1 k1 k0 n) (e : h2 = pI h1 k i' x) (hk : k1 ≠ k) : rcp h h2 k1 k0 n := fun i hi => kn_ne e (r i hi) hk
def ckS (S : List (Nat × Option Nat)) (lo hi : Nat) : Bool := S.all (fun q => decide (q.1 < lo ∨ hi < q.1))
theorem ckS_no {S : List (Nat × Option Nat)} {lo hi : Nat} (hc : ckS S lo hi = true) {k i : Nat} (h1 : lo ≤ k) (h2 : k ≤ hi) : inS S k i = false := by
  unfold inS
  rw [List.any_eq_false]
  intro q hq e
  have := of_decide_eq_true (List.all_eq_true.mp hc q hq)
  rw [Bool.and_eq_true] at e
  have e2 : q.1 = k := eq_of_beq e.1
  omega
def cpy (h h' : Hp) (a b : Nat) : Prop := ∀ k i : Nat, cpl k i → h'.1 (a + k) i = h.1 (b + k) i
theorem cpy_of {S1 S2 S3 : List (Nat × Option Nat)} {h h1 h2 h3 h4 h5 : Hp} {a b : Nat} {n m : Int32}
    (qL : h1.1 (a + 1) 0 = h.1 (b + 1) 0 ∧ h1.1 (a + 1) 1 = h.1 (b + 1) 1 ∧ h1.1 (a + 1) 2 = h.1 (b + 1) 2 ∧ h1.1 (a + 1) 3 = h.1 (b + 1) 3 ∧ rcp h h1 (a + 2) (b + 2) 16 ∧ rcp h h1 (a + 3) (b + 3) 16 ∧ rcp h h1 (a + 4) (b + 4) 16 ∧ rcp h h1 (a + 5) (b + 5) 16 ∧ rcp h h1 (a + 6) (b + 6) 16) (f2 : fr S2 h1 h2)
    (qG : h2.1 (a + 7) 4 = h1.1 (b + 7) 4 ∧ rcp h1 h2 (a + 8) (b + 8) 4 ∧ rcp h1 h2 (a + 9) (b + 9) 8 ∧ rcp h1 h2 (a + 10) (b + 10) 8 ∧ rcp h1 h2 (a + 11) (b + 11) 8) (f3 : fr S3 h2 h3)
    (qS : h3.1 (a + 12) 4 = h2.1 (b + 12) 4 ∧ rcp h2 h3 (a + 13) (b + 13) 8 ∧ rcp h2 h3 (a + 14) (b + 14) 8 ∧ rcp h2 h3 (a + 15) (b + 15) 8 ∧ rcp h2 h3 (a + 16) (b + 16) 8) (f1 : fr S1 h h1) (e1 : h4 = pI h3 a 3 n) (e2 : h5 = pI h4 a 4 m) (nK : h.1 b 3 = n) (mK : h.1 b 4 = m)
    (s1 : ckS S1 b (b + 16) = true) (s2 : ckS S2 b (b + 16) = true) (s3 : ckS S2 (a + 1) (a + 6) = true) (s4 : ckS S3 (a + 1) (a + 11) = true) : cpy h h5 a b := by
  have up : ∀ k i : Nat, 1 ≤ k → h5.1 (a + k) i = h3.1 (a + k) i := fun k i hk => by rw [e2, pI_at, if_neg (by (first | decide +kernel | omega)), e1, pI_at, if_neg (by (first | decide +kernel | omega))]
  have u6 : ∀ k i : Nat, 1 ≤ k → k ≤ 6 → h5.1 (a + k) i = h1.1 (a + k) i := fun k i p q => by rw [up k i p, f3.1 _ _ (ckS_no s4 (by (first | decide +kernel | omega)) (by (first | decide +kernel | omega))), f2.1 _ _ (ckS_no s3 (by (first | decide +kernel | omega)) (by (first | decide +kernel | omega)))]
  have u11 : ∀ k i : Nat, 7 ≤ k → k ≤ 11 → h5.1 (a + k) i = h2.1 (a + k) i := fun k i p q => by rw [up k i (by (first | decide +kernel | omega)), f3.1 _ _ (ckS_no s4 (by (first | decide +kernel | omega)) (by (first | decide +kernel | omega)))]
  have d1 : ∀ k i : Nat, k ≤ 16 → h1.1 (b + k) i = h.1 (b + k) i := fun k i q => f1.1 _ _ (ckS_no s1 (by (first | decide +kernel | omega)) (by (first | decide +kernel | omega)))
  have d2 : ∀ k i : Nat, k ≤ 16 → h2.1 (b + k) i = h.1 (b + k) i := fun k i q => by rw [f2.1 _ _ (ckS_no s2 (by (first | decide +kernel | omega)) (by (first | decide +kernel | omega))), d1 k i q]
  obtain ⟨l0, l1, l2, l3, l4, l5, l6, l7, l8⟩ := qL
  obtain ⟨g0, g1, g2, g3, g4⟩ := qG
  obtain ⟨t0, t1, t2, t3, t4⟩ := qS
  intro k i hc
  unfold cpl at hc
  rcases hc with ⟨rfl, hi⟩ | ⟨rfl, hi⟩ | ⟨hk, hi⟩ | ⟨hk, rfl⟩ | ⟨rfl, hi⟩ | ⟨hk, hi⟩
  · rcases hi with rfl | rfl
    · rw [Nat.add_zero, Nat.add_zero, e2, pI_at, if_neg (by (first | decide +kernel | omega)), e1, pI_at, if_pos (by (first | decide +kernel | omega)), nK]
    · rw [Nat.add_zero, Nat.add_zero, e2, pI_at, if_pos (by (first | decide +kernel | omega)), mK]
  · rw [u6 1 i (by (first | decide +kernel | omega)) (by (first | decide +kernel | omega))]
    rcases (by (first | decide +kernel | omega) : i = 0 ∨ i = 1 ∨ i = 2 ∨ i = 3) with rfl | rfl | rfl | rfl
    · exact l0
    · exact l1
    · exact l2
    · exact l3
  · rw [u6 k i (by (first | decide +kernel | omega)) (by (first | decide +kernel | omega))]
    rcases (by (first | decide +kernel | omega) : k = 2 ∨ k = 3 ∨ k = 4 ∨ k = 5 ∨ k = 6) with rfl | rfl | rfl | rfl | rfl
    · exact l4 i hi
    · exact l5 i hi
    · exact l6 i hi
    · exact l7 i hi
    · exact l8 i hi
  · rcases hk with rfl | rfl
    · rw [u11 7 4 (by (first | decide +kernel | omega)) (by (first | decide +kernel | omega)), g0]; exact d1 7 4 (by (first | decide +kernel | omega))
    · rw [up 12 4 (by (first | decide +kernel | omega)), t0]; exact d2 12 4 (by (first | decide +kernel | omega))
  · rw [u11 8 i (by (first | decide +kernel | omega)) (by (first | decide +kernel | omega)), g1 i hi]; exact d1 8 i (by (first | decide +kernel | omega))
  · rcases (by (first | decide +kernel | omega) : k = 9 ∨ k = 10 ∨ k = 11 ∨ k = 13 ∨ k = 14 ∨ k = 15 ∨ k = 16) with rfl | rfl | rfl | rfl | rfl | rfl | rfl
    · rw [u11 9 i (by (first | decide +kernel | omega)) (by (first | decide +kernel | omega)), g2 i hi]; exact d1 9 i (by (first | decide +kernel | omega))
    · rw [u11 10 i (by (first | decide +kernel | omega)) (by (first | decide +kernel | omega)), g3 i hi]; exact d1 10 i (by (first | decide +kernel | omega))
    · rw [u11 11 i (by (first | decide +kernel | omega)) (by (first | decide +kernel | omega)), g4 i hi]; exact d1 11 i (by (first | decide +kernel | omega))
    · rw [up 13 i (by (first | decide +kernel | omega)), t1 i hi]; exact d2 13 i (by (first | decide +kernel | omega))
    · rw [up 14 i (by (first | decide +kernel | omega)), t2 i hi]; exact d2 14 i (by (first | decide +kernel | omega))
    · rw [up 15 i (by (first | decide +kernel | omega)), t3 i hi]; exact d2 15 i (by (first | decide +kernel | omega))
    · rw [up 16 i (by (first | decide +kernel | omega)), t4 i hi]; exact d2 16 i (by (first | decide +kernel | omega))
/-- the reference's copy: so many cells of it -/
def mcl (h h' : Hp) (t f k : Int) : Prop := (∀ j : Nat, (j : Int) < k → h'.1 117 (t.toNat + j) = h.1 117 (f.toNat + j)) ∧ ∀ i : Nat, (i < t.toNat ∨ t.toNat + 144 ≤ i) → h'.1 117 i = h.1 117 i
theorem mcl_0 {h : Hp} {t f : Int} : mcl h h t f 0 := ⟨fun j hj => by (first | decide +kernel | omega), fun _ _ => rfl⟩
theorem mcl_s {h h1 h2 : Hp} {t f k : Int} {y : Int32} (r : mcl h h1 t f k) (hk : 0 ≤ k ∧ k < 144) (ht : (t = 0 ∨ t = 144 ∨ t = 288) ∧ (f = 0 ∨ f = 144 ∨ f = 288)) (hne : t ≠ f) (e : h2 = pI h1 117 (t + k).toNat y) (ey : y = h1.1 117 (f + k).toNat) : mcl h h2 t f (k + 1) := by
  refine ⟨fun j hj => ?_, fun i hi => ?_⟩
  · rw [e, pI_at]
    by_cases q : j = k.toNat
    · rw [if_pos (by (first | decide +kernel | omega)), ey, r.2 _ (by (first | decide +kernel | omega)), show (f + k).toNat = f.toNat + j by (first | decide +kernel | omega)]
    · rw [if_neg (by (first | decide +kernel | omega))]
      exact r.1 j (by (first | decide +kernel | omega))
  · rw [e, pI_at, if_neg (by (first | decide +kernel | omega))]
    exact r.2 i hi
theorem mcl_T {h h' : Hp} {t T T' n : Int} (e : T = T') (r : mcl h h' t T n) : mcl h h' t T' n := by rw [← e]; exact r
def FQ (b r : Int32) : Prop := b.toInt ≠ 0 ∧ r.toInt = 1 ∨ b.toInt = 0 ∧ r.toInt = 0
theorem FQ_of {h : Hp} {y R : Int32} {Y : Int} {k jj j : Nat} (ye : y = h.1 k jj) (hj : jj = j) (yE : y.toInt = Y) (p : Y ≠ 0 ∧ R.toInt = 1 ∨ Y = 0 ∧ R.toInt = 0) : FQ (h.1 k j) R := by
  subst hj
  unfold FQ
  rw [← ye, yE]
  exact p
theorem FQ_un {b r s : Int32} (p : FQ b r) (q : FQ b s) : r = s := by
  rcases p with ⟨a1, b1⟩ | ⟨a1, b1⟩ <;> rcases q with ⟨a2, b2⟩ | ⟨a2, b2⟩
  · exact same_of b1 b2
  · exact absurd a2 a1
  · exact absurd a1 a2
  · exact same_of b1 b2
/-- the class keeps an image: a its county, o the other's, j its number -/
def KP (h h' : Hp) (a o j : Nat) : Prop := cpy h h' a 0 ∧ (∀ k i : Nat, o ≤ k → k ≤ o + 16 → h'.1 k i = h.1 k i) ∧ h'.1 87 j = 1 ∧ ∀ i : Nat, i ≠ j → h'.1 87 i = h.1 87 i
theorem KP_of {S : List (Nat × Option Nat)} {h h1 h2 : Hp} {a o j jj : Nat} {x : Int32} (hc : cpy h h1 a 0) (f : fr S h h1) (ck : ckS S o (o + 16) = true) (c87 : ckS S 87 87 = true) (ha : a + 16 < 87 ∧ o + 16 < 87) (e : h2 = pI h1 87 jj x) (hx : x = 1) (hj : jj = j) : KP h h2 a o j := by
  subst hj
  refine ⟨fun k i hk => ?_, fun k i h1 h2 => ?_, ?_, fun i hi => ?_⟩
  · have := cpl_k hk
    rw [e, pI_at, if_neg (by (first | decide +kernel | omega))]
    exact hc k i hk
  · rw [e, pI_at, if_neg (by (first | decide +kernel | omega))]
    exact f.1 _ _ (ckS_no ck h1 h2)
  · rw [e, pI_at, if_pos ⟨rfl, rfl⟩]
    exact hx
  · rw [e, pI_at, if_neg (by (first | decide +kernel | omega))]
    exact f.1 _ _ (ckS_no c87 (by (first | decide +kernel | omega)) (by (first | decide +kernel | omega)))
def MKP (h h' : Hp) (t j : Nat) : Prop := (∀ i : Nat, i < 144 → h'.1 117 (t + i) = h.1 117 (0 + i)) ∧ (∀ i : Nat, (i < t ∨ t + 144 ≤ i) → h'.1 117 i = h.1 117 i) ∧ h'.1 118 j = 1 ∧ ∀ i : Nat, i ≠ j → h'.1 118 i = h.1 118 i
theorem MKP_of {S : List (Nat × Option Nat)} {h h1 h2 : Hp} {t j jj : Nat} {x : Int32} {T : Int} (e : h1 = pI h 118 jj x) (hx : x = 1) (hj : jj = j) (m : mcl h1 h2 T 0 144) (hT : T = (t : Int)) (f : fr S h1 h2) (ck : ckS S 118 118 = true) : MKP h h2 t j := by
  subst hj
  subst hT
  refine ⟨fun i hi => ?_, fun i hi => ?_, ?_, fun i hi => ?_⟩
  · have g := m.1 i (by (first | decide +kernel | omega))
    rw [show ((t : Int)).toNat = t from rfl, show ((0 : Int)).toNat = 0 from rfl] at g
    rw [g, e, pI_at, if_neg (by (first | decide +kernel | omega))]
  · rw [m.2 i (by (first | decide +kernel | omega)), e, pI_at, if_neg (by (first | decide +kernel | omega))]
  · rw [f.1 _ _ (ckS_no ck (by (first | decide +kernel | omega)) (by (first | decide +kernel | omega))), e, pI_at, if_pos ⟨rfl, rfl⟩]
    exact hx
  · rw [f.1 _ _ (ckS_no ck (by (first | decide +kernel | omega)) (by (first | decide +kernel | omega))), e, pI_at, if_neg (by (first | decide +kernel | omega))]
theorem JA_keep0 {S1 S2 : List (Nat × Option Nat)} {h h1 h2 : Hp} (r : JA h) (f1 : fr S1 h h1) (f2 : fr S2 h1 h2) (k1 : KP h h1 34 51 0) (k2 : MKP h1 h2 144 0) (s1 : ckS S1 0 16 = true) (s2 : ckS S1 116 118 = true) (s3 : ckS S2 0 116 = true) : JA h2 := by
  obtain ⟨r1, ⟨r2, r3⟩, r4, r5⟩ := r
  obtain ⟨a1, a2, a3, a4⟩ := k1
  obtain ⟨b1, b2, b3, b4⟩ := k2
  have c0 : ∀ k i : Nat, k ≤ 16 → h2.1 k i = h.1 k i := fun k i hk => by rw [f2.1 _ _ (ckS_no s3 (by (first | decide +kernel | omega)) (by (first | decide +kernel | omega))), f1.1 _ _ (ckS_no s1 (by (first | decide +kernel | omega)) hk)]
  have c6 : ∀ k i : Nat, k ≤ 116 → h2.1 k i = h1.1 k i := fun k i hk => f2.1 _ _ (ckS_no s3 (by (first | decide +kernel | omega)) hk)
  have m1 : ∀ k i : Nat, 116 ≤ k → k ≤ 118 → h1.1 k i = h.1 k i := fun k i p q => f1.1 _ _ (ckS_no s2 p q)
  have w : ∀ i : Nat, 2 ≤ i → i ≤ 5 → h2.1 116 i = h.1 116 i := fun i _ _ => by rw [c6 _ _ (by (first | decide +kernel | omega)), m1 _ _ (by (first | decide +kernel | omega)) (by (first | decide +kernel | omega))]
  refine ⟨CE_at (fun k i c _ => by have := cpl_k c; rw [Nat.zero_add]; exact c0 k i this) (fun i _ hi => by rw [Nat.zero_add, b2 _ (by (first | decide +kernel | omega)), m1 _ _ (by (first | decide +kernel | omega)) (by (first | decide +kernel | omega))]) w r1, ⟨?_, ?_⟩, fun _ => ?_, fun q => ?_⟩
  · rw [c6 _ _ (by (first | decide +kernel | omega)), a3, b3]
  · rw [c6 _ _ (by (first | decide +kernel | omega)), a4 1 (by (first | decide +kernel | omega)), b4 1 (by (first | decide +kernel | omega)), m1 _ _ (by (first | decide +kernel | omega)) (by (first | decide +kernel | omega))]; exact r3
  · exact CE_cp (fun k i c => by have := cpl_k c; rw [c6 _ _ (by (first | decide +kernel | omega))]; exact a1 k i c) (fun i hi => by rw [b1 i hi, m1 _ _ (by (first | decide +kernel | omega)) (by (first | decide +kernel | omega))]) w r1
  · rw [c6 _ _ (by (first | decide +kernel | omega)), a4 1 (by (first | decide +kernel | omega))] at q
    exact CE_at (fun k i c _ => by have := cpl_k c; rw [c6 _ _ (by (first | decide +kernel | omega))]; exact a2 _ i (by (first | decide +kernel | omega)) (by (first | decide +kernel | omega))) (fun i _ hi => by rw [b2 _ (by (first | decide +kernel | omega)), m1 _ _ (by (first | decide +kernel | omega)) (by (first | decide +kernel | omega))]) w (r5 q)
theorem JA_keep1 {S1 S2 : List (Nat × Option Nat)} {h h1 h2 : Hp} (r : JA h) (f1 : fr S1 h h1) (f2 : fr S2 h1 h2) (k1 : KP h h1 51 34 1) (k2 : MKP h1 h2 288 1) (s1 : ckS S1 0 16 = true) (s2 : ckS S1 116 118 = true) (s3 : ckS S2 0 116 = true) : JA h2 := by
  obtain ⟨r1, ⟨r2, r3⟩, r4, r5⟩ := r
  obtain ⟨a1, a2, a3, a4⟩ := k1
  obtain ⟨b1, b2, b3, b4⟩ := k2
  have c0 : ∀ k i : Nat, k ≤ 16 → h2.1 k i = h.1 k i := fun k i hk => by rw [f2.1 _ _ (ckS_no s3 (by (first | decide +kernel | omega)) (by (first | decide +kernel | omega))), f1.1 _ _ (ckS_no s1 (by (first | decide +kernel | omega)) hk)]
  have c6 : ∀ k i : Nat, k ≤ 116 → h2.1 k i = h1.1 k i := fun k i hk => f2.1 _ _ (ckS_no s3 (by (first | decide +kernel | omega)) hk)
  have m1 : ∀ k i : Nat, 116 ≤ k → k ≤ 118 → h1.1 k i = h.1 k i := fun k i p q => f1.1 _ _ (ckS_no s2 p q)
  have w : ∀ i : Nat, 2 ≤ i → i ≤ 5 → h2.1 116 i = h.1 116 i := fun i _ _ => by rw [c6 _ _ (by (first | decide +kernel | omega)), m1 _ _ (by (first | decide +kernel | omega)) (by (first | decide +kernel | omega))]
  refine ⟨CE_at (fun k i c _ => by have := cpl_k c; rw [Nat.zero_add]; exact c0 k i this) (fun i _ hi => by rw [Nat.zero_add, b2 _ (by (first | decide +kernel | omega)), m1 _ _ (by (first | decide +kernel | omega)) (by (first | decide +kernel | omega))]) w r1, ⟨?_, ?_⟩, fun q => ?_, fun _ => ?_⟩
  · rw [c6 _ _ (by (first | decide +kernel | omega)), a4 0 (by (first | decide +kernel | omega)), b4 0 (by (first | decide +kernel | omega)), m1 _ _ (by (first | decide +kernel | omega)) (by (first | decide +kernel | omega))]; exact r2
  · rw [c6 _ _ (by (first | decide +kernel | omega)), a3, b3]
  · rw [c6 _ _ (by (first | decide +kernel | omega)), a4 0 (by (first | decide +kernel | omega))] at q
    exact CE_at (fun k i c _ => by have := cpl_k c; rw [c6 _ _ (by (first | decide +kernel | omega))]; exact a2 _ i (by (first | decide +kernel | omega)) (by (first | decide +kernel | omega))) (fun i _ hi => by rw [b2 _ (by (first | decide +kernel | omega)), m1 _ _ (by (first | decide +kernel | omega)) (by (first | decide +kernel | omega))]) w (r4 q)
  · exact CE_cp (fun k i c => by have := cpl_k c; rw [c6 _ _ (by (first | decide +kernel | omega))]; exact a1 k i c) (fun i hi => by rw [b1 i hi, m1 _ _ (by (first | decide +kernel | omega)) (by (first | decide +kernel | omega))]) w r1
theorem JA_keep {S1 S2 : List (Nat × Option Nat)} {h h1 h2 : Hp} {k : Int} {r1 r2 : Int32} (r : JA h) (f1 : fr S1 h h1) (f2 : fr S2 h1 h2) (s1 : ckS S1 0 16 = true) (s2 : ckS S1 116 118 = true) (s3 : ckS S2 0 116 = true)
    (E1 : k = 0 ∧ KP h h1 34 51 0 ∧ FQ (h.1 87 0) r1 ∨ k = 1 ∧ KP h h1 51 34 1 ∧ FQ (h.1 87 1) r1 ∨ (k < 0 ∨ 1 < k) ∧ h1 = h ∧ r1.toInt = -1) (E2 : k = 0 ∧ MKP h1 h2 144 0 ∧ FQ (h1.1 118 0) r2 ∨ k = 1 ∧ MKP h1 h2 288 1 ∧ FQ (h1.1 118 1) r2 ∨ (k < 0 ∨ 1 < k) ∧ h2 = h1 ∧ r2.toInt = -1) : JA h2 ∧ r1 = r2 := by
  have m1 : ∀ i : Nat, h1.1 118 i = h.1 118 i := fun i => f1.1 _ _ (ckS_no s2 (by (first | decide +kernel | omega)) (by (first | decide +kernel | omega)))
  rcases E1 with ⟨p1, p2, p3⟩ | ⟨p1, p2, p3⟩ | ⟨p1, p2, p3⟩
  · rcases E2 with ⟨q1, q2, q3⟩ | ⟨q1, q2, q3⟩ | ⟨q1, q2, q3⟩
    · rw [m1, ← r.2.1.1] at q3
      exact ⟨JA_keep0 r f1 f2 p2 q2 s1 s2 s3, FQ_un p3 q3⟩
    · omega
    · omega
  · rcases E2 with ⟨q1, q2, q3⟩ | ⟨q1, q2, q3⟩ | ⟨q1, q2, q3⟩
    · omega
    · rw [m1, ← r.2.1.2] at q3
      exact ⟨JA_keep1 r f1 f2 p2 q2 s1 s2 s3, FQ_un p3 q3⟩
    · omega
  · rcases E2 with ⟨q1, q2, q3⟩ | ⟨q1, q2, q3⟩ | ⟨q1, q2, q3⟩
    · omega
    · omega
    · rw [p2] at q2
      rw [q2]
      exact ⟨r, same_of p3 q3⟩
theorem JA_back1 {S1 S2 : List (Nat × Option Nat)} {h h1 h2 : Hp} {a o : Nat} {T : Int} (r : JA h) (c : CE h a o) (f1 : fr S1 h h1) (f2 : fr S2 h1 h2) (k1 : cpy h h1 0 a) (k2 : mcl h1 h2 0 T 144) (hT : T = (o : Int)) (s1 : ckS S1 34 67 = true) (s2 : ckS S1 87 118 = true) (s3 : ckS S2 0 116 = true) (s4 : ckS S2 118 118 = true) : JA h2 := by
  subst hT
  have m1 : ∀ k i : Nat, 87 ≤ k → k ≤ 118 → h1.1 k i = h.1 k i := fun k i p q => f1.1 _ _ (ckS_no s2 p q)
  have c6 : ∀ k i : Nat, k ≤ 116 → h2.1 k i = h1.1 k i := fun k i hk => f2.1 _ _ (ckS_no s3 (by (first | decide +kernel | omega)) hk)
  have i1 : ∀ k i : Nat, 34 ≤ k → k ≤ 67 → h1.1 k i = h.1 k i := fun k i p q => f1.1 _ _ (ckS_no s1 p q)
  refine JA_rest r (CE_cp (k2 := a) (o2 := o) (fun k i c => by have := cpl_k c; rw [c6 _ _ (by (first | decide +kernel | omega))]; exact k1 k i c) (fun i hi => ?_) (fun i _ _ => by rw [c6 _ _ (by (first | decide +kernel | omega)), m1 _ _ (by (first | decide +kernel | omega)) (by (first | decide +kernel | omega))]) c) (fun k i w => ?_)
  · have g := k2.1 i (by (first | decide +kernel | omega))
    rw [show ((o : Int)).toNat = o from rfl, show ((0 : Int)).toNat = 0 from rfl] at g
    rw [g, m1 _ _ (by (first | decide +kernel | omega)) (by (first | decide +kernel | omega))]
  · rcases w with w | rfl | rfl | ⟨rfl, w⟩ | ⟨rfl, w⟩
    · rw [c6 _ _ (by (first | decide +kernel | omega)), i1 _ _ (by (first | decide +kernel | omega)) (by (first | decide +kernel | omega))]
    · rw [c6 _ _ (by (first | decide +kernel | omega)), m1 _ _ (by (first | decide +kernel | omega)) (by (first | decide +kernel | omega))]
    · rw [f2.1 _ _ (ckS_no s4 (by (first | decide +kernel | omega)) (by (first | decide +kernel | omega))), m1 _ _ (by (first | decide +kernel | omega)) (by (first | decide +kernel | omega))]
    · rw [k2.2 _ (by rw [show ((0 : Int)).toNat = 0 from rfl]; omega), m1 _ _ (by (first | decide +kernel | omega)) (by (first | decide +kernel | omega))]
    · rw [c6 _ _ (by (first | decide +kernel | omega)), m1 _ _ (by (first | decide +kernel | omega)) (by (first | decide +kernel | omega))]
theorem toInt_ne {x : Int32} (h : x.toInt ≠ 0) : x ≠ 0 := fun c => h (by rw [c]; rfl)
theorem JA_back {S1 S2 : List (Nat × Option Nat)} {h h1 h2 : Hp} {k : Int} (r : JA h) (f1 : fr S1 h h1) (f2 : fr S2 h1 h2) (s1 : ckS S1 34 67 = true) (s2 : ckS S1 87 118 = true) (s3 : ckS S2 0 116 = true) (s4 : ckS S2 118 118 = true)
    (E1 : k = 0 ∧ (h.1 87 0).toInt ≠ 0 ∧ cpy h h1 0 34 ∨ k = 1 ∧ (h.1 87 1).toInt ≠ 0 ∧ cpy h h1 0 51 ∨ (k = 0 ∧ (h.1 87 0).toInt = 0 ∨ k = 1 ∧ (h.1 87 1).toInt = 0 ∨ k < 0 ∨ 1 < k) ∧ h1 = h)
    (E2 : k = 0 ∧ (h1.1 118 0).toInt ≠ 0 ∧ mcl h1 h2 0 144 144 ∨ k = 1 ∧ (h1.1 118 1).toInt ≠ 0 ∧ mcl h1 h2 0 288 144 ∨ (k = 0 ∧ (h1.1 118 0).toInt = 0 ∨ k = 1 ∧ (h1.1 118 1).toInt = 0 ∨ k < 0 ∨ 1 < k) ∧ h2 = h1) : JA h2 := by
  have m1 : ∀ i : Nat, h1.1 118 i = h.1 118 i := fun i => f1.1 _ _ (ckS_no s2 (by (first | decide +kernel | omega)) (by (first | decide +kernel | omega)))
  rw [m1, m1, ← r.2.1.1, ← r.2.1.2] at E2
  rcases E1 with ⟨p1, p2, p3⟩ | ⟨p1, p2, p3⟩ | ⟨p1, p2⟩
  · rcases E2 with ⟨q1, q2, q3⟩ | ⟨q1, q2, q3⟩ | ⟨q1, q2⟩
    · exact JA_back1 r (r.2.2.1 (toInt_ne p2)) f1 f2 p3 q3 rfl s1 s2 s3 s4
    · omega
    · omega
  · rcases E2 with ⟨q1, q2, q3⟩ | ⟨q1, q2, q3⟩ | ⟨q1, q2⟩
    · omega
    · exact JA_back1 r (r.2.2.2 (toInt_ne p2)) f1 f2 p3 q3 rfl s1 s2 s3 s4
    · omega
  · rcases E2 with ⟨q1, q2, q3⟩ | ⟨q1, q2, q3⟩ | ⟨q1, q2⟩
    · omega
    · omega
    · rw [q2, p2]; exact r
def sp2 (h h' : Hp) : Prop := ∀ k i : Nat, cpl k i → k ≠ 2 ∧ k ≠ 6 ∧ k ≠ 8 → h'.1 k i = h.1 k i ∧ h'.1 (17 + k) i = h.1 k i
def spS (S : List (Nat × Option Nat)) : Bool := S.all (fun q => decide (q.1 = 6 ∨ q.1 = 8 ∨ 33 < q.1))
theorem spS_no {S : List (Nat × Option Nat)} (hc : spS S = true) {k i : Nat} (h1 : k ≠ 6 ∧ k ≠ 8 ∧ k ≤ 33) : inS S k i = false := by
  unfold inS
  rw [List.any_eq_false]
  intro q hq e
  have := of_decide_eq_true (List.all_eq_true.mp hc q hq)
  rw [Bool.and_eq_true] at e
  have e2 : q.1 = k := eq_of_beq e.1
  omega
end
section
abbrev q_Land_hasX_0 (h : Hp) (c : Int32) (cZ : Int) (w : Int32) (wZ : Int) (g : Int32) (gZ : Int) : Option Value → Hp → Prop := pInt (fun r h' => h = h' ∧ (r.toInt = 1 ∧ 0 ≤ cZ ∧ cZ ≤ 15 ∧ cZ < wZ * gZ ∨ r.toInt = 0 ∧ (cZ < 0 ∨ wZ * gZ ≤ cZ)))
set_option maxRecDepth 100000 in
theorem c_Land_hasX_0 (h : Hp) (hI : Inv h) (c : Int32) (cZ : Int) (cE : c.toInt = cZ) (w : Int32) (wZ : Int) (wE : w.toInt = wZ) (wK : h.1 1 0 = w) (g : Int32) (gZ : Int) (gE : g.toInt = gZ) (gK : h.1 1 1 = g) : Ct y_Land_has b_Land_has 2 (some .boolean) 1 20 [.ref 1, .int c] h (q_Land_hasX_0 h c cZ w wZ g gZ) := by
  refine ct_ow R_Land [some (.ref 1), some (.int c)] rfl (by decide) rfl (Nat.le_of_ble_eq_true rfl) ?_
  have f0 : fr [] h h := fr_rf
  have g1 : 2 ≤ wZ ∧ wZ ≤ 4 := inv_at hI wE wK.symm rfl
  have g2 : 2 ≤ gZ ∧ gZ ≤ 4 := inv_at hI gE gK.symm rfl
  refine V_iload_n 1 d_Land_has_0 rfl rfl ?_
  refine V_if_lt 16 cE d_Land_has_1 (by decide) (fun c3 => ?_) (fun c3 => ?_)
  ·
    refine V_iconst 0 d_Land_has_16 (by decide) ?_
    exact V_zret rfl (by decide) d_Land_has_17 ⟨0, rfl, ⟨rfl, (by (try rw [show Int32.toInt 0 = 0 from rfl]) <;> omega)⟩⟩
  ·
    refine V_iload_n 1 d_Land_has_4 rfl rfl ?_
    refine V_aload_n 0 d_Land_has_5 rfl rfl ?_
    refine N_callVI [] [.int c] cv_Land_52 sk_1 rfl d_Land_has_6 rfl (Nat.le_of_ble_eq_true rfl) (by decide) (by decide) (c_Land_cells_0 h hI w wZ wE wK g gZ gE gK) (fun z4 h5 z4Z z4E p6 => ?_)
    obtain ⟨eh5, p6⟩ := p6
    subst eh5
    refine V_icmp_ge 16 cE z4E d_Land_has_9 (by decide) (fun c7 => ?_) (fun c7 => ?_)
    ·
      refine V_iconst 0 d_Land_has_16 (by decide) ?_
      exact V_zret rfl (by decide) d_Land_has_17 ⟨0, rfl, ⟨rfl, (by (try rw [show Int32.toInt 0 = 0 from rfl]) <;> omega)⟩⟩
    ·
      refine V_iconst 1 d_Land_has_12 (by decide) ?_
      refine V_goto 17 d_Land_has_13 (by decide) ?_
      exact V_zret rfl (by decide) d_Land_has_17 ⟨1, rfl, ⟨rfl, (by (try rw [show Int32.toInt 1 = 1 from rfl]) <;> omega)⟩⟩
abbrev q_Mod_isCellX (h : Hp) (c : Int32) (cZ : Int) (w : Int32) (wZ : Int) (g : Int32) (gZ : Int) : Option Value → Hp → Prop := pInt (fun r h' => h = h' ∧ (r.toInt = 1 ∧ 0 ≤ cZ ∧ cZ ≤ 15 ∧ cZ < wZ * gZ ∨ r.toInt = 0 ∧ (cZ < 0 ∨ wZ * gZ ≤ cZ)))
set_option maxRecDepth 100000 in
theorem c_Mod_isCellX (h : Hp) (hI : Inv h) (c : Int32) (cZ : Int) (cE : c.toInt = cZ) (w : Int32) (wZ : Int) (wE : w.toInt = wZ) (wK : h.1 116 2 = w) (g : Int32) (gZ : Int) (gE : g.toInt = gZ) (gK : h.1 116 3 = g) : Ct y_Mod_isCell b_Mod_isCell 2 (some .boolean) 1 25 [.ref 116, .int c] h (q_Mod_isCellX h c cZ w wZ g gZ) := by
  refine ct_ow R_Mod [some (.ref 116), some (.int c)] rfl (by decide) rfl (Nat.le_of_ble_eq_true rfl) ?_
  have f0 : fr [] h h := fr_rf
  have g1 : 2 ≤ wZ ∧ wZ ≤ 4 := inv_at hI wE wK.symm rfl
  have g2 : 2 ≤ gZ ∧ gZ ≤ 4 := inv_at hI gE gK.symm rfl
  refine V_iload_n 1 d_Mod_isCell_0 rfl rfl ?_
  refine V_i2l d_Mod_isCell_1 (fun z3 z3e z3E => ?_)
  have z3F : z3.toInt = cZ := z3E.trans cE
  refine V_lconst 0 d_Mod_isCell_2 (by decide) ?_
  refine V_aload_n 0 d_Mod_isCell_3 rfl rfl ?_
  refine N_callVI [] [.long 0, .long z3] cv_Mod_183 sk_116 rfl d_Mod_isCell_4 rfl (Nat.le_of_ble_eq_true rfl) (by decide) (by decide) (c_Mod_cellMany h hI w wZ wE wK g gZ gE gK) (fun z4 h5 z4Z z4E p6 => ?_)
  obtain ⟨eh5, p6⟩ := p6
  subst eh5
  refine V_iconst 1 d_Mod_isCell_7 (by decide) ?_
  refine V_isub z4E tc_1 (by (first | decide +kernel | omega)) d_Mod_isCell_8 (fun z7 z7e z7E => ?_)
  refine V_i2l d_Mod_isCell_9 (fun z8 z8e z8E => ?_)
  have z8F : z8.toInt = (z4Z - 1) := z8E.trans z7E
  refine N_callSI [.long z3, .long 0, .long z8] [] cs_Mod_95 d_Mod_isCell_10 rfl (Nat.le_of_ble_eq_true rfl) (by decide) (by decide) (c_Mod_in h z3 cZ z3F 0 0 tl_0 z8 ((z4Z - 1)) z8F) (fun z9 h10 z9Z z9E p11 => ?_)
  obtain ⟨eh10, p11⟩ := p11
  subst eh10
  exact V_zret rfl (by rw [z9E]; omega) d_Mod_isCell_13 ⟨z9, rfl, ⟨rfl, (by (try rw [z9E]); omega)⟩⟩
abbrev q_Rod_isSightX (h : Hp) (c : Int32) (cZ : Int) (o : Int32) (oZ : Int) (s : Int32) (sZ : Int) (w : Int32) (wZ : Int) (g : Int32) (gZ : Int) : Option Value → Hp → Prop := pInt (fun r h' => h = h' ∧ (r.toInt = 1 ∧ 0 ≤ cZ ∧ cZ ≤ 15 ∧ cZ < wZ * gZ ∧ 0 ≤ oZ ∧ oZ ≤ 3 ∧ 1 ≤ sZ ∧ sZ ≤ 9 ∨ r.toInt = 0 ∧ ¬ (0 ≤ cZ ∧ cZ < wZ * gZ ∧ 0 ≤ oZ ∧ oZ ≤ 3 ∧ 1 ≤ sZ ∧ sZ ≤ 9)))
set_option maxRecDepth 100000 in
theorem c_Rod_isSightX (h : Hp) (hI : Inv h) (c : Int32) (cZ : Int) (cE : c.toInt = cZ) (o : Int32) (oZ : Int) (oE : o.toInt = oZ) (s : Int32) (sZ : Int) (sE : s.toInt = sZ) (w : Int32) (wZ : Int) (wE : w.toInt = wZ) (wK : h.1 1 0 = w) (g : Int32) (gZ : Int) (gE : g.toInt = gZ) (gK : h.1 1 1 = g) : Ct y_Rod_isSight b_Rod_isSight 4 (some .boolean) 2 41 [.ref 85, .int c, .int o, .int s] h (q_Rod_isSightX h c cZ o oZ s sZ w wZ g gZ) := by
  refine ct_ow R_Rod [some (.ref 85), some (.int c), some (.int o), some (.int s)] rfl (by decide) rfl (Nat.le_of_ble_eq_true rfl) ?_
  have f0 : fr [] h h := fr_rf
  have g1 : 2 ≤ wZ ∧ wZ ≤ 4 := inv_at hI wE wK.symm rfl
  have g2 : 2 ≤ gZ ∧ gZ ≤ 4 := inv_at hI gE gK.symm rfl
  refine V_aload_n 0 d_Rod_isSight_0 rfl rfl ?_
  refine V_getR fa_Rod_12 sk_85 rfl d_Rod_isSight_1 ?_
  refine V_getR fa_Rod_91 sk_0 rfl d_Rod_isSight_4 ?_
  refine V_iload_n 1 d_Rod_isSight_7 rfl rfl ?_
  refine N_callVI [.int c] [] cv_Rod_124 sk_1 rfl d_Rod_isSight_8 rfl (Nat.le_of_ble_eq_true rfl) (by decide) (by decide) (c_Land_hasX_0 h hI c cZ cE w wZ wE wK g gZ gE gK) (fun z3 h4 z3Z z3E p5 => ?_)
  obtain ⟨eh4, p5⟩ := p5
  subst eh4
  refine V_if_eq 36 z3E d_Rod_isSight_11 (by decide) (fun c6 => ?_) (fun c6 => ?_)
  ·
    refine V_iconst 0 d_Rod_isSight_36 (by decide) ?_
    exact V_zret rfl (by decide) d_Rod_isSight_37 ⟨0, rfl, ⟨rfl, (by (try rw [show Int32.toInt 0 = 0 from rfl]) <;> omega)⟩⟩
  ·
    refine V_iload_n 2 d_Rod_isSight_14 rfl rfl ?_
    refine N_callSI [.int o] [] cs_Rod_151 d_Rod_isSight_15 rfl (Nat.le_of_ble_eq_true rfl) (by decide) (by decide) (c_Rod_isOwner h o oZ oE) (fun z7 h8 z7Z z7E p9 => ?_)
    obtain ⟨eh8, p9⟩ := p9
    subst eh8
    refine V_if_eq 36 z7E d_Rod_isSight_18 (by decide) (fun c10 => ?_) (fun c10 => ?_)
    ·
      refine V_iconst 0 d_Rod_isSight_36 (by decide) ?_
      exact V_zret rfl (by decide) d_Rod_isSight_37 ⟨0, rfl, ⟨rfl, (by (try rw [show Int32.toInt 0 = 0 from rfl]) <;> omega)⟩⟩
    ·
      refine V_iload_n 3 d_Rod_isSight_21 rfl rfl ?_
      refine V_iconst 1 d_Rod_isSight_22 (by decide) ?_
      refine V_icmp_lt 36 sE tc_1 d_Rod_isSight_23 (by decide) (fun c11 => ?_) (fun c11 => ?_)
      ·
        refine V_iconst 0 d_Rod_isSight_36 (by decide) ?_
        exact V_zret rfl (by decide) d_Rod_isSight_37 ⟨0, rfl, ⟨rfl, (by (try rw [show Int32.toInt 0 = 0 from rfl]) <;> omega)⟩⟩
      ·
        refine V_iload_n 3 d_Rod_isSight_26 rfl rfl ?_
        refine V_bipush 9 d_Rod_isSight_27 (by decide) ?_
        refine V_icmp_gt 36 sE tc_9 d_Rod_isSight_29 (by decide) (fun c12 => ?_) (fun c12 => ?_)
        ·
          refine V_iconst 0 d_Rod_isSight_36 (by decide) ?_
          exact V_zret rfl (by decide) d_Rod_isSight_37 ⟨0, rfl, ⟨rfl, (by (try rw [show Int32.toInt 0 = 0 from rfl]) <;> omega)⟩⟩
        ·
          refine V_iconst 1 d_Rod_isSight_32 (by decide) ?_
          refine V_goto 37 d_Rod_isSight_33 (by decide) ?_
          exact V_zret rfl (by decide) d_Rod_isSight_37 ⟨1, rfl, ⟨rfl, (by (try rw [show Int32.toInt 1 = 1 from rfl]) <;> omega)⟩⟩
abbrev q_Mod_isSeenX (h : Hp) (c : Int32) (cZ : Int) (o : Int32) (oZ : Int) (s : Int32) (sZ : Int) (w : Int32) (wZ : Int) (g : Int32) (gZ : Int) : Option Value → Hp → Prop := pInt (fun r h' => h = h' ∧ (r.toInt = 1 ∧ 0 ≤ cZ ∧ cZ ≤ 15 ∧ cZ < wZ * gZ ∧ 0 ≤ oZ ∧ oZ ≤ 3 ∧ 1 ≤ sZ ∧ sZ ≤ 9 ∨ r.toInt = 0 ∧ ¬ (0 ≤ cZ ∧ cZ < wZ * gZ ∧ 0 ≤ oZ ∧ oZ ≤ 3 ∧ 1 ≤ sZ ∧ sZ ≤ 9)))
set_option maxRecDepth 100000 in
theorem c_Mod_isSeenX (h : Hp) (hI : Inv h) (c : Int32) (cZ : Int) (cE : c.toInt = cZ) (o : Int32) (oZ : Int) (oE : o.toInt = oZ) (s : Int32) (sZ : Int) (sE : s.toInt = sZ) (w : Int32) (wZ : Int) (wE : w.toInt = wZ) (wK : h.1 116 2 = w) (g : Int32) (gZ : Int) (gE : g.toInt = gZ) (gK : h.1 116 3 = g) : Ct y_Mod_isSeen b_Mod_isSeen 4 (some .boolean) 2 46 [.ref 116, .int c, .int o, .int s] h (q_Mod_isSeenX h c cZ o oZ s sZ w wZ g gZ) := by
  refine ct_ow R_Mod [some (.ref 116), some (.int c), some (.int o), some (.int s)] rfl (by decide) rfl (Nat.le_of_ble_eq_true rfl) ?_
  have f0 : fr [] h h := fr_rf
  have g1 : 2 ≤ wZ ∧ wZ ≤ 4 := inv_at hI wE wK.symm rfl
  have g2 : 2 ≤ gZ ∧ gZ ≤ 4 := inv_at hI gE gK.symm rfl
  refine V_aload_n 0 d_Mod_isSeen_0 rfl rfl ?_
  refine V_iload_n 1 d_Mod_isSeen_1 rfl rfl ?_
  refine N_callVI [.int c] [] cv_Mod_200 sk_116 rfl d_Mod_isSeen_2 rfl (Nat.le_of_ble_eq_true rfl) (by decide) (by decide) (c_Mod_isCellX h hI c cZ cE w wZ wE wK g gZ gE gK) (fun z3 h4 z3Z z3E p5 => ?_)
  obtain ⟨eh4, p5⟩ := p5
  subst eh4
  refine V_if_eq 31 z3E d_Mod_isSeen_5 (by decide) (fun c6 => ?_) (fun c6 => ?_)
  ·
    refine V_iconst 0 d_Mod_isSeen_31 (by decide) ?_
    exact V_zret rfl (by decide) d_Mod_isSeen_32 ⟨0, rfl, ⟨rfl, (by (try rw [show Int32.toInt 0 = 0 from rfl]) <;> omega)⟩⟩
  ·
    refine V_iload_n 2 d_Mod_isSeen_8 rfl rfl ?_
    refine N_callSI [.int o] [] cs_Mod_205 d_Mod_isSeen_9 rfl (Nat.le_of_ble_eq_true rfl) (by decide) (by decide) (c_Mod_isOwner h o oZ oE) (fun z7 h8 z7Z z7E p9 => ?_)
    obtain ⟨eh8, p9⟩ := p9
    subst eh8
    refine V_if_eq 31 z7E d_Mod_isSeen_12 (by decide) (fun c10 => ?_) (fun c10 => ?_)
    ·
      refine V_iconst 0 d_Mod_isSeen_31 (by decide) ?_
      exact V_zret rfl (by decide) d_Mod_isSeen_32 ⟨0, rfl, ⟨rfl, (by (try rw [show Int32.toInt 0 = 0 from rfl]) <;> omega)⟩⟩
    ·
      refine V_iload_n 3 d_Mod_isSeen_15 rfl rfl ?_
      refine V_i2l d_Mod_isSeen_16 (fun z11 z11e z11E => ?_)
      have z11F : z11.toInt = sZ := z11E.trans sE
      refine V_lconst 1 d_Mod_isSeen_17 (by decide) ?_
      refine V_ldc2 d_Mod_isSeen_18 wl_Mod_208 ?_
      refine N_callSI [.long z11, .long 1, .long 9] [] cs_Mod_95 d_Mod_isSeen_21 rfl (Nat.le_of_ble_eq_true rfl) (by decide) (by decide) (c_Mod_in h z11 sZ z11F 1 1 tl_1 9 9 tl_9) (fun z12 h13 z12Z z12E p14 => ?_)
      obtain ⟨eh13, p14⟩ := p14
      subst eh13
      refine V_if_eq 31 z12E d_Mod_isSeen_24 (by decide) (fun c15 => ?_) (fun c15 => ?_)
      ·
        refine V_iconst 0 d_Mod_isSeen_31 (by decide) ?_
        exact V_zret rfl (by decide) d_Mod_isSeen_32 ⟨0, rfl, ⟨rfl, (by (try rw [show Int32.toInt 0 = 0 from rfl]) <;> omega)⟩⟩
      ·
        refine V_iconst 1 d_Mod_isSeen_27 (by decide) ?_
        refine V_goto 32 d_Mod_isSeen_28 (by decide) ?_
        exact V_zret rfl (by decide) d_Mod_isSeen_32 ⟨1, rfl, ⟨rfl, (by (try rw [show Int32.toInt 1 = 1 from rfl]) <;> omega)⟩⟩
def S_Rod_ironX : List (Nat × Option Nat) := [(3, none)]
abbrev q_Rod_ironX (h : Hp) (c : Int32) (cZ : Int) (b : Int32) (bZ : Int) (w : Int32) (wZ : Int) (g : Int32) (gZ : Int) : Option Value → Hp → Prop := pInt (fun r h' => Inv h' ∧ fr S_Rod_ironX h h' ∧ (Er h h' 3 cZ.toNat (0 ≤ cZ ∧ cZ < wZ * gZ) (fun x => bZ ≠ 0 ∧ x.toInt = 1 ∨ bZ = 0 ∧ x.toInt = 0) r))
set_option maxRecDepth 100000 in
theorem c_Rod_ironX (h : Hp) (hI : Inv h) (c : Int32) (cZ : Int) (cE : c.toInt = cZ) (b : Int32) (bZ : Int) (bE : b.toInt = bZ) (w : Int32) (wZ : Int) (wE : w.toInt = wZ) (wK : h.1 1 0 = w) (g : Int32) (gZ : Int) (gE : g.toInt = gZ) (gK : h.1 1 1 = g) : Ct y_Rod_iron b_Rod_iron 5 (some .int) 2 41 [.ref 85, .int c, .int b] h (q_Rod_ironX h c cZ b bZ w wZ g gZ) := by
  refine ct_ow R_Rod [some (.ref 85), some (.int c), some (.int b), none, none] rfl (by decide) rfl (Nat.le_of_ble_eq_true rfl) ?_
  have f0 : fr S_Rod_ironX h h := fr_rf
  have g1 : 2 ≤ wZ ∧ wZ ≤ 4 := inv_at hI wE wK.symm rfl
  have g2 : 2 ≤ gZ ∧ gZ ≤ 4 := inv_at hI gE gK.symm rfl
  refine V_aload_n 0 d_Rod_iron_0 rfl rfl ?_
  refine V_getR fa_Rod_12 sk_85 rfl d_Rod_iron_1 ?_
  refine V_getR fa_Rod_91 sk_0 rfl d_Rod_iron_4 ?_
  refine V_astore_n 3 [some (.ref 85), some (.int c), some (.int b), some (.ref 1), none] d_Rod_iron_7 rfl (by decide) rfl rfl ?_
  refine V_aload_n 3 d_Rod_iron_8 rfl rfl ?_
  refine V_iload_n 1 d_Rod_iron_9 rfl rfl ?_
  refine N_callVI [.int c] [] cv_Rod_124 sk_1 rfl d_Rod_iron_10 rfl (Nat.le_of_ble_eq_true rfl) (by decide) (by decide) (c_Land_hasX_0 h hI c cZ cE w wZ wE wK g gZ gE gK) (fun z3 h4 z3Z z3E p5 => ?_)
  obtain ⟨eh4, p5⟩ := p5
  subst eh4
  refine V_if_ne 18 z3E d_Rod_iron_13 (by decide) (fun c6 => ?_) (fun c6 => ?_)
  ·
    refine V_aload_n 3 d_Rod_iron_18 rfl rfl ?_
    refine V_getR fa_Rod_132 sk_1 rfl d_Rod_iron_19 ?_
    refine V_iload_n 1 d_Rod_iron_22 rfl rfl ?_
    refine N_iald sk_3 cE (by (first | decide +kernel | omega)) d_Rod_iron_23 (fun z7 z7Z z7E z7e => ?_)
    refine V_istore 4 [some (.ref 85), some (.int c), some (.int b), some (.ref 1), some (.int z7)] d_Rod_iron_24 (by decide) rfl rfl ?_
    refine V_aload_n 3 d_Rod_iron_26 rfl rfl ?_
    refine V_getR fa_Rod_132 sk_1 rfl d_Rod_iron_27 ?_
    refine V_iload_n 1 d_Rod_iron_30 rfl rfl ?_
    refine V_iload_n 2 d_Rod_iron_31 rfl rfl ?_
    refine N_callSI [.int b] [.int c, .ref 3] cs_Rod_147 d_Rod_iron_32 rfl (Nat.le_of_ble_eq_true rfl) (by decide) (by decide) (c_Rod_oneIf h b bZ bE) (fun z8 h9 z8Z z8E p10 => ?_)
    obtain ⟨eh9, p10⟩ := p10
    subst eh9
    refine N_iast sk_3 cE (by (first | decide +kernel | omega)) d_Rod_iron_35 (fun h11 eh11 => ?_)
    have hI12 : Inv h11 := inv_full hI eh11 rfl
    have f13 : fr S_Rod_ironX h h11 := fr_put f0 eh11 rfl
    refine V_iload d_Rod_iron_36 rfl ?_
    exact V_iret rfl d_Rod_iron_38 ⟨z7, rfl, ⟨hI12, f13, (Or.inl ⟨by (first | decide +kernel | omega), z8, p10, (by rw [eh11] <;> rfl), z7e⟩)⟩⟩
  ·
    refine V_iconst (-1) d_Rod_iron_16 (by decide) ?_
    exact V_iret rfl d_Rod_iron_17 ⟨(-1), rfl, ⟨hI, f0, (Or.inr ⟨by (first | decide +kernel | omega), rfl, tc_m1⟩)⟩⟩
def S_Rod_oddX : List (Nat × Option Nat) := [(4, none)]
abbrev q_Rod_oddX (h : Hp) (c : Int32) (cZ : Int) (v : Int32) (vZ : Int) (w : Int32) (wZ : Int) (g : Int32) (gZ : Int) : Option Value → Hp → Prop := pInt (fun r h' => Inv h' ∧ fr S_Rod_oddX h h' ∧ (Er h h' 4 cZ.toNat (0 ≤ cZ ∧ cZ < wZ * gZ ∧ 0 ≤ vZ ∧ vZ ≤ 10) (fun x => x = v) r))
set_option maxRecDepth 100000 in
theorem c_Rod_oddX (h : Hp) (hI : Inv h) (c : Int32) (cZ : Int) (cE : c.toInt = cZ) (v : Int32) (vZ : Int) (vE : v.toInt = vZ) (w : Int32) (wZ : Int) (wE : w.toInt = wZ) (wK : h.1 1 0 = w) (g : Int32) (gZ : Int) (gE : g.toInt = gZ) (gK : h.1 1 1 = g) : Ct y_Rod_odd b_Rod_odd 5 (some .int) 2 41 [.ref 85, .int c, .int v] h (q_Rod_oddX h c cZ v vZ w wZ g gZ) := by
  refine ct_ow R_Rod [some (.ref 85), some (.int c), some (.int v), none, none] rfl (by decide) rfl (Nat.le_of_ble_eq_true rfl) ?_
  have f0 : fr S_Rod_oddX h h := fr_rf
  have g1 : 2 ≤ wZ ∧ wZ ≤ 4 := inv_at hI wE wK.symm rfl
  have g2 : 2 ≤ gZ ∧ gZ ≤ 4 := inv_at hI gE gK.symm rfl
  refine V_aload_n 0 d_Rod_odd_0 rfl rfl ?_
  refine V_getR fa_Rod_12 sk_85 rfl d_Rod_odd_1 ?_
  refine V_getR fa_Rod_91 sk_0 rfl d_Rod_odd_4 ?_
  refine V_astore_n 3 [some (.ref 85), some (.int c), some (.int v), some (.ref 1), none] d_Rod_odd_7 rfl (by decide) rfl rfl ?_
  refine V_aload_n 3 d_Rod_odd_8 rfl rfl ?_
  refine V_iload_n 1 d_Rod_odd_9 rfl rfl ?_
  refine N_callVI [.int c] [] cv_Rod_124 sk_1 rfl d_Rod_odd_10 rfl (Nat.le_of_ble_eq_true rfl) (by decide) (by decide) (c_Land_hasX_0 h hI c cZ cE w wZ wE wK g gZ gE gK) (fun z3 h4 z3Z z3E p5 => ?_)
  obtain ⟨eh4, p5⟩ := p5
  subst eh4
  refine V_if_eq 26 z3E d_Rod_odd_13 (by decide) (fun c6 => ?_) (fun c6 => ?_)
  ·
    refine V_iconst (-1) d_Rod_odd_26 (by decide) ?_
    exact V_iret rfl d_Rod_odd_27 ⟨(-1), rfl, ⟨hI, f0, (Or.inr ⟨by (first | decide +kernel | omega), rfl, tc_m1⟩)⟩⟩
  ·
    refine V_iload_n 2 d_Rod_odd_16 rfl rfl ?_
    refine V_if_lt 26 vE d_Rod_odd_17 (by decide) (fun c7 => ?_) (fun c7 => ?_)
    ·
      refine V_iconst (-1) d_Rod_odd_26 (by decide) ?_
      exact V_iret rfl d_Rod_odd_27 ⟨(-1), rfl, ⟨hI, f0, (Or.inr ⟨by (first | decide +kernel | omega), rfl, tc_m1⟩)⟩⟩
    ·
      refine V_iload_n 2 d_Rod_odd_20 rfl rfl ?_
      refine V_bipush 10 d_Rod_odd_21 (by decide) ?_
      refine V_icmp_le 28 vE tc_10 d_Rod_odd_23 (by decide) (fun c8 => ?_) (fun c8 => ?_)
      ·
        refine V_aload_n 3 d_Rod_odd_28 rfl rfl ?_
        refine V_getR fa_Rod_135 sk_1 rfl d_Rod_odd_29 ?_
        refine V_iload_n 1 d_Rod_odd_32 rfl rfl ?_
        refine N_iald sk_4 cE (by (first | decide +kernel | omega)) d_Rod_odd_33 (fun z9 z9Z z9E z9e => ?_)
        refine V_istore 4 [some (.ref 85), some (.int c), some (.int v), some (.ref 1), some (.int z9)] d_Rod_odd_34 (by decide) rfl rfl ?_
        refine V_aload_n 3 d_Rod_odd_36 rfl rfl ?_
        refine V_getR fa_Rod_135 sk_1 rfl d_Rod_odd_37 ?_
        refine V_iload_n 1 d_Rod_odd_40 rfl rfl ?_
        refine V_iload_n 2 d_Rod_odd_41 rfl rfl ?_
        refine N_iast sk_4 cE (by (first | decide +kernel | omega)) d_Rod_odd_42 (fun h10 eh10 => ?_)
        have hI11 : Inv h10 := inv_full hI eh10 rfl
        have f12 : fr S_Rod_oddX h h10 := fr_put f0 eh10 rfl
        refine V_iload d_Rod_odd_43 rfl ?_
        exact V_iret rfl d_Rod_odd_45 ⟨z9, rfl, ⟨hI11, f12, (Or.inl ⟨by (first | decide +kernel | omega), v, rfl, (by rw [eh10] <;> rfl), z9e⟩)⟩⟩
      ·
        refine V_iconst (-1) d_Rod_odd_26 (by decide) ?_
        exact V_iret rfl d_Rod_odd_27 ⟨(-1), rfl, ⟨hI, f0, (Or.inr ⟨by (first | decide +kernel | omega), rfl, tc_m1⟩)⟩⟩
def S_Rod_claimX : List (Nat × Option Nat) := [(5, none)]
abbrev q_Rod_claimX (h : Hp) (c : Int32) (cZ : Int) (o : Int32) (oZ : Int) (w : Int32) (wZ : Int) (g : Int32) (gZ : Int) : Option Value → Hp → Prop := pInt (fun r h' => Inv h' ∧ fr S_Rod_claimX h h' ∧ (Er h h' 5 cZ.toNat (0 ≤ cZ ∧ cZ < wZ * gZ ∧ (oZ = -4 ∨ 0 ≤ oZ ∧ oZ ≤ 3)) (fun x => x = o) r))
set_option maxRecDepth 100000 in
theorem c_Rod_claimX (h : Hp) (hI : Inv h) (c : Int32) (cZ : Int) (cE : c.toInt = cZ) (o : Int32) (oZ : Int) (oE : o.toInt = oZ) (w : Int32) (wZ : Int) (wE : w.toInt = wZ) (wK : h.1 1 0 = w) (g : Int32) (gZ : Int) (gE : g.toInt = gZ) (gK : h.1 1 1 = g) : Ct y_Rod_claim b_Rod_claim 5 (some .int) 2 41 [.ref 85, .int c, .int o] h (q_Rod_claimX h c cZ o oZ w wZ g gZ) := by
  refine ct_ow R_Rod [some (.ref 85), some (.int c), some (.int o), none, none] rfl (by decide) rfl (Nat.le_of_ble_eq_true rfl) ?_
  have f0 : fr S_Rod_claimX h h := fr_rf
  have g1 : 2 ≤ wZ ∧ wZ ≤ 4 := inv_at hI wE wK.symm rfl
  have g2 : 2 ≤ gZ ∧ gZ ≤ 4 := inv_at hI gE gK.symm rfl
  refine V_aload_n 0 d_Rod_claim_0 rfl rfl ?_
  refine V_getR fa_Rod_12 sk_85 rfl d_Rod_claim_1 ?_
  refine V_getR fa_Rod_91 sk_0 rfl d_Rod_claim_4 ?_
  refine V_astore_n 3 [some (.ref 85), some (.int c), some (.int o), some (.ref 1), none] d_Rod_claim_7 rfl (by decide) rfl rfl ?_
  refine V_aload_n 3 d_Rod_claim_8 rfl rfl ?_
  refine V_iload_n 1 d_Rod_claim_9 rfl rfl ?_
  refine N_callVI [.int c] [] cv_Rod_124 sk_1 rfl d_Rod_claim_10 rfl (Nat.le_of_ble_eq_true rfl) (by decide) (by decide) (c_Land_hasX_0 h hI c cZ cE w wZ wE wK g gZ gE gK) (fun z3 h4 z3Z z3E p5 => ?_)
  obtain ⟨eh4, p5⟩ := p5
  subst eh4
  refine V_if_eq 29 z3E d_Rod_claim_13 (by decide) (fun c6 => ?_) (fun c6 => ?_)
  ·
    refine V_iconst (-1) d_Rod_claim_29 (by decide) ?_
    exact V_iret rfl d_Rod_claim_30 ⟨(-1), rfl, ⟨hI, f0, (Or.inr ⟨by (first | decide +kernel | omega), rfl, tc_m1⟩)⟩⟩
  ·
    refine V_iload_n 2 d_Rod_claim_16 rfl rfl ?_
    refine V_bipush (-4) d_Rod_claim_17 (by decide) ?_
    refine V_icmp_eq 31 oE tc_m4 d_Rod_claim_19 (by decide) (fun c7 => ?_) (fun c7 => ?_)
    ·
      refine V_aload_n 3 d_Rod_claim_31 rfl rfl ?_
      refine V_getR fa_Rod_138 sk_1 rfl d_Rod_claim_32 ?_
      refine V_iload_n 1 d_Rod_claim_35 rfl rfl ?_
      refine N_iald sk_5 cE (by (first | decide +kernel | omega)) d_Rod_claim_36 (fun z8 z8Z z8E z8e => ?_)
      refine V_istore 4 [some (.ref 85), some (.int c), some (.int o), some (.ref 1), some (.int z8)] d_Rod_claim_37 (by decide) rfl rfl ?_
      refine V_aload_n 3 d_Rod_claim_39 rfl rfl ?_
      refine V_getR fa_Rod_138 sk_1 rfl d_Rod_claim_40 ?_
      refine V_iload_n 1 d_Rod_claim_43 rfl rfl ?_
      refine V_iload_n 2 d_Rod_claim_44 rfl rfl ?_
      refine N_iast sk_5 cE (by (first | decide +kernel | omega)) d_Rod_claim_45 (fun h9 eh9 => ?_)
      have hI10 : Inv h9 := inv_full hI eh9 rfl
      have f11 : fr S_Rod_claimX h h9 := fr_put f0 eh9 rfl
      refine V_iload d_Rod_claim_46 rfl ?_
      exact V_iret rfl d_Rod_claim_48 ⟨z8, rfl, ⟨hI10, f11, (Or.inl ⟨by (first | decide +kernel | omega), o, rfl, (by rw [eh9] <;> rfl), z8e⟩)⟩⟩
    ·
      refine V_iload_n 2 d_Rod_claim_22 rfl rfl ?_
      refine N_callSI [.int o] [] cs_Rod_151 d_Rod_claim_23 rfl (Nat.le_of_ble_eq_true rfl) (by decide) (by decide) (c_Rod_isOwner h o oZ oE) (fun z12 h13 z12Z z12E p14 => ?_)
      obtain ⟨eh13, p14⟩ := p14
      subst eh13
      refine V_if_ne 31 z12E d_Rod_claim_26 (by decide) (fun c15 => ?_) (fun c15 => ?_)
      ·
        refine V_aload_n 3 d_Rod_claim_31 rfl rfl ?_
        refine V_getR fa_Rod_138 sk_1 rfl d_Rod_claim_32 ?_
        refine V_iload_n 1 d_Rod_claim_35 rfl rfl ?_
        refine N_iald sk_5 cE (by (first | decide +kernel | omega)) d_Rod_claim_36 (fun z16 z16Z z16E z16e => ?_)
        refine V_istore 4 [some (.ref 85), some (.int c), some (.int o), some (.ref 1), some (.int z16)] d_Rod_claim_37 (by decide) rfl rfl ?_
        refine V_aload_n 3 d_Rod_claim_39 rfl rfl ?_
        refine V_getR fa_Rod_138 sk_1 rfl d_Rod_claim_40 ?_
        refine V_iload_n 1 d_Rod_claim_43 rfl rfl ?_
        refine V_iload_n 2 d_Rod_claim_44 rfl rfl ?_
        refine N_iast sk_5 cE (by (first | decide +kernel | omega)) d_Rod_claim_45 (fun h17 eh17 => ?_)
        have hI18 : Inv h17 := inv_full hI eh17 rfl
        have f19 : fr S_Rod_claimX h h17 := fr_put f0 eh17 rfl
        refine V_iload d_Rod_claim_46 rfl ?_
        exact V_iret rfl d_Rod_claim_48 ⟨z16, rfl, ⟨hI18, f19, (Or.inl ⟨by (first | decide +kernel | omega), o, rfl, (by rw [eh17] <;> rfl), z16e⟩)⟩⟩
      ·
        refine V_iconst (-1) d_Rod_claim_29 (by decide) ?_
        exact V_iret rfl d_Rod_claim_30 ⟨(-1), rfl, ⟨hI, f0, (Or.inr ⟨by (first | decide +kernel | omega), rfl, tc_m1⟩)⟩⟩
def S_Mod_becomesX : List (Nat × Option Nat) := [(117, none)]
abbrev q_Mod_becomesX (h : Hp) (k : Int32) (kZ : Int) (v : Int32) (vZ : Int) : Option Value → Hp → Prop := pInt (fun r h' => Inv h' ∧ fr S_Mod_becomesX h h' ∧ (h' = pI h 117 kZ.toNat v ∧ r = h.1 117 kZ.toNat))
set_option maxRecDepth 100000 in
theorem c_Mod_becomesX (h : Hp) (hI : Inv h) (k : Int32) (kZ : Int) (kE : k.toInt = kZ) (v : Int32) (vZ : Int) (vE : v.toInt = vZ) (hy0 : 0 ≤ kZ ∧ kZ < 432) (hy1 : stOk kZ vZ) : Ct y_Mod_becomes b_Mod_becomes 4 (some .int) 0 0 [.ref 116, .int k, .int v] h (q_Mod_becomesX h k kZ v vZ) := by
  refine ct_ow R_Mod [some (.ref 116), some (.int k), some (.int v), none] rfl (by decide) rfl (Nat.le_of_ble_eq_true rfl) ?_
  have f0 : fr S_Mod_becomesX h h := fr_rf
  refine V_aload_n 0 d_Mod_becomes_0 rfl rfl ?_
  refine V_getR fa_Mod_7 sk_116 rfl d_Mod_becomes_1 ?_
  refine V_iload_n 1 d_Mod_becomes_4 rfl rfl ?_
  refine N_iald sk_117 kE (by (first | decide +kernel | omega)) d_Mod_becomes_5 (fun z1 z1Z z1E z1e => ?_)
  refine V_istore_n 3 [some (.ref 116), some (.int k), some (.int v), some (.int z1)] d_Mod_becomes_6 rfl (by decide) rfl rfl ?_
  refine V_aload_n 0 d_Mod_becomes_7 rfl rfl ?_
  refine V_getR fa_Mod_7 sk_116 rfl d_Mod_becomes_8 ?_
  refine V_iload_n 1 d_Mod_becomes_11 rfl rfl ?_
  refine V_iload_n 2 d_Mod_becomes_12 rfl rfl ?_
  refine N_iast sk_117 kE (by (first | decide +kernel | omega)) d_Mod_becomes_13 (fun h2 eh2 => ?_)
  have hI3 : Inv h2 := inv_st hI eh2 (Or.inl rfl) vE hy1
  have f4 : fr S_Mod_becomesX h h2 := fr_put f0 eh2 rfl
  refine V_iload_n 3 d_Mod_becomes_14 rfl rfl ?_
  exact V_iret rfl d_Mod_becomes_15 ⟨z1, rfl, ⟨hI3, f4, ⟨(by rw [eh2] <;> rfl), z1e⟩⟩⟩
def S_Mod_ironX : List (Nat × Option Nat) := [(117, none)]
abbrev q_Mod_ironX (h : Hp) (c : Int32) (cZ : Int) (b : Int32) (bZ : Int) (w : Int32) (wZ : Int) (g : Int32) (gZ : Int) : Option Value → Hp → Prop := pInt (fun r h' => Inv h' ∧ fr S_Mod_ironX h h' ∧ (Er h h' 117 (16 + cZ).toNat (0 ≤ cZ ∧ cZ < wZ * gZ) (fun x => bZ ≠ 0 ∧ x.toInt = 1 ∨ bZ = 0 ∧ x.toInt = 0) r))
set_option maxRecDepth 100000 in
theorem c_Mod_ironX (h : Hp) (hI : Inv h) (c : Int32) (cZ : Int) (cE : c.toInt = cZ) (b : Int32) (bZ : Int) (bE : b.toInt = bZ) (w : Int32) (wZ : Int) (wE : w.toInt = wZ) (wK : h.1 116 2 = w) (g : Int32) (gZ : Int) (gE : g.toInt = gZ) (gK : h.1 116 3 = g) : Ct y_Mod_iron b_Mod_iron 3 (some .int) 2 46 [.ref 116, .int c, .int b] h (q_Mod_ironX h c cZ b bZ w wZ g gZ) := by
  refine ct_ow R_Mod [some (.ref 116), some (.int c), some (.int b)] rfl (by decide) rfl (Nat.le_of_ble_eq_true rfl) ?_
  have f0 : fr S_Mod_ironX h h := fr_rf
  have g1 : 2 ≤ wZ ∧ wZ ≤ 4 := inv_at hI wE wK.symm rfl
  have g2 : 2 ≤ gZ ∧ gZ ≤ 4 := inv_at hI gE gK.symm rfl
  refine V_aload_n 0 d_Mod_iron_0 rfl rfl ?_
  refine V_iload_n 1 d_Mod_iron_1 rfl rfl ?_
  refine N_callVI [.int c] [] cv_Mod_200 sk_116 rfl d_Mod_iron_2 rfl (Nat.le_of_ble_eq_true rfl) (by decide) (by decide) (c_Mod_isCellX h hI c cZ cE w wZ wE wK g gZ gE gK) (fun z3 h4 z3Z z3E p5 => ?_)
  obtain ⟨eh4, p5⟩ := p5
  subst eh4
  refine V_if_eq 23 z3E d_Mod_iron_5 (by decide) (fun c6 => ?_) (fun c6 => ?_)
  ·
    refine V_iconst (-1) d_Mod_iron_23 (by decide) ?_
    exact V_iret rfl d_Mod_iron_24 ⟨(-1), rfl, ⟨hI, f0, (Or.inr ⟨by (first | decide +kernel | omega), rfl, tc_m1⟩)⟩⟩
  ·
    refine V_aload_n 0 d_Mod_iron_8 rfl rfl ?_
    refine V_bipush 16 d_Mod_iron_9 (by decide) ?_
    refine V_iload_n 1 d_Mod_iron_11 rfl rfl ?_
    refine V_iadd tc_16 cE (by (first | decide +kernel | omega)) d_Mod_iron_12 (fun z7 z7e z7E => ?_)
    refine V_iload_n 2 d_Mod_iron_13 rfl rfl ?_
    refine N_callSI [.int b] [.int z7, .ref 116] cs_Mod_196 d_Mod_iron_14 rfl (Nat.le_of_ble_eq_true rfl) (by decide) (by decide) (c_Mod_flag h b bZ bE) (fun z8 h9 z8Z z8E p10 => ?_)
    obtain ⟨eh9, p10⟩ := p10
    subst eh9
    refine N_callVI [.int z7, .int z8] [] cv_Mod_210 sk_116 rfl d_Mod_iron_17 rfl (Nat.le_of_ble_eq_true rfl) (by decide) (by decide) (c_Mod_becomesX h hI z7 ((16 + cZ)) z7E z8 z8Z z8E (by (first | decide +kernel | omega)) (stOk_lo z8E (by (first | decide +kernel | omega)))) (fun z11 h12 z11Z z11E p13 => ?_)
    obtain ⟨hI14, fh12, p13⟩ := p13
    have f15 : fr S_Mod_ironX h h12 := fr_call f0 fh12 rfl
    refine V_goto 24 d_Mod_iron_20 (by decide) ?_
    exact V_iret rfl d_Mod_iron_24 ⟨z11, rfl, ⟨hI14, f15, (Or.inl ⟨by (first | decide +kernel | omega), z8, p10, p13.1, p13.2⟩)⟩⟩
def S_Mod_oddX : List (Nat × Option Nat) := [(117, none)]
abbrev q_Mod_oddX (h : Hp) (c : Int32) (cZ : Int) (v : Int32) (vZ : Int) (w : Int32) (wZ : Int) (g : Int32) (gZ : Int) : Option Value → Hp → Prop := pInt (fun r h' => Inv h' ∧ fr S_Mod_oddX h h' ∧ (Er h h' 117 (32 + cZ).toNat (0 ≤ cZ ∧ cZ < wZ * gZ ∧ 0 ≤ vZ ∧ vZ ≤ 10) (fun x => x = v) r))
set_option maxRecDepth 100000 in
theorem c_Mod_oddX (h : Hp) (hI : Inv h) (c : Int32) (cZ : Int) (cE : c.toInt = cZ) (v : Int32) (vZ : Int) (vE : v.toInt = vZ) (w : Int32) (wZ : Int) (wE : w.toInt = wZ) (wK : h.1 116 2 = w) (g : Int32) (gZ : Int) (gE : g.toInt = gZ) (gK : h.1 116 3 = g) : Ct y_Mod_odd b_Mod_odd 3 (some .int) 2 46 [.ref 116, .int c, .int v] h (q_Mod_oddX h c cZ v vZ w wZ g gZ) := by
  refine ct_ow R_Mod [some (.ref 116), some (.int c), some (.int v)] rfl (by decide) rfl (Nat.le_of_ble_eq_true rfl) ?_
  have f0 : fr S_Mod_oddX h h := fr_rf
  have g1 : 2 ≤ wZ ∧ wZ ≤ 4 := inv_at hI wE wK.symm rfl
  have g2 : 2 ≤ gZ ∧ gZ ≤ 4 := inv_at hI gE gK.symm rfl
  refine V_aload_n 0 d_Mod_odd_0 rfl rfl ?_
  refine V_iload_n 1 d_Mod_odd_1 rfl rfl ?_
  refine N_callVI [.int c] [] cv_Mod_200 sk_116 rfl d_Mod_odd_2 rfl (Nat.le_of_ble_eq_true rfl) (by decide) (by decide) (c_Mod_isCellX h hI c cZ cE w wZ wE wK g gZ gE gK) (fun z3 h4 z3Z z3E p5 => ?_)
  obtain ⟨eh4, p5⟩ := p5
  subst eh4
  refine V_if_eq 32 z3E d_Mod_odd_5 (by decide) (fun c6 => ?_) (fun c6 => ?_)
  ·
    refine V_iconst (-1) d_Mod_odd_32 (by decide) ?_
    exact V_iret rfl d_Mod_odd_33 ⟨(-1), rfl, ⟨hI, f0, (Or.inr ⟨by (first | decide +kernel | omega), rfl, tc_m1⟩)⟩⟩
  ·
    refine V_iload_n 2 d_Mod_odd_8 rfl rfl ?_
    refine V_i2l d_Mod_odd_9 (fun z7 z7e z7E => ?_)
    have z7F : z7.toInt = vZ := z7E.trans vE
    refine V_lconst 0 d_Mod_odd_10 (by decide) ?_
    refine V_ldc2 d_Mod_odd_11 wl_Mod_213 ?_
    refine N_callSI [.long z7, .long 0, .long 10] [] cs_Mod_95 d_Mod_odd_14 rfl (Nat.le_of_ble_eq_true rfl) (by decide) (by decide) (c_Mod_in h z7 vZ z7F 0 0 tl_0 10 10 tl_10) (fun z8 h9 z8Z z8E p10 => ?_)
    obtain ⟨eh9, p10⟩ := p10
    subst eh9
    refine V_if_eq 32 z8E d_Mod_odd_17 (by decide) (fun c11 => ?_) (fun c11 => ?_)
    ·
      refine V_iconst (-1) d_Mod_odd_32 (by decide) ?_
      exact V_iret rfl d_Mod_odd_33 ⟨(-1), rfl, ⟨hI, f0, (Or.inr ⟨by (first | decide +kernel | omega), rfl, tc_m1⟩)⟩⟩
    ·
      refine V_aload_n 0 d_Mod_odd_20 rfl rfl ?_
      refine V_bipush 32 d_Mod_odd_21 (by decide) ?_
      refine V_iload_n 1 d_Mod_odd_23 rfl rfl ?_
      refine V_iadd tc_32 cE (by (first | decide +kernel | omega)) d_Mod_odd_24 (fun z12 z12e z12E => ?_)
      refine V_iload_n 2 d_Mod_odd_25 rfl rfl ?_
      refine N_callVI [.int z12, .int v] [] cv_Mod_210 sk_116 rfl d_Mod_odd_26 rfl (Nat.le_of_ble_eq_true rfl) (by decide) (by decide) (c_Mod_becomesX h hI z12 ((32 + cZ)) z12E v vZ vE (by (first | decide +kernel | omega)) (stOk_lo vE (by (first | decide +kernel | omega)))) (fun z13 h14 z13Z z13E p15 => ?_)
      obtain ⟨hI16, fh14, p15⟩ := p15
      have f17 : fr S_Mod_oddX h h14 := fr_call f0 fh14 rfl
      refine V_goto 33 d_Mod_odd_29 (by decide) ?_
      exact V_iret rfl d_Mod_odd_33 ⟨z13, rfl, ⟨hI16, f17, (Or.inl ⟨by (first | decide +kernel | omega), v, rfl, p15.1, p15.2⟩)⟩⟩
def S_Mod_claimX : List (Nat × Option Nat) := [(117, none)]
abbrev q_Mod_claimX (h : Hp) (c : Int32) (cZ : Int) (o : Int32) (oZ : Int) (w : Int32) (wZ : Int) (g : Int32) (gZ : Int) : Option Value → Hp → Prop := pInt (fun r h' => Inv h' ∧ fr S_Mod_claimX h h' ∧ (Er h h' 117 (48 + cZ).toNat (0 ≤ cZ ∧ cZ < wZ * gZ ∧ (oZ = -4 ∨ 0 ≤ oZ ∧ oZ ≤ 3)) (fun x => x = o) r))
set_option maxRecDepth 100000 in
theorem c_Mod_claimX (h : Hp) (hI : Inv h) (c : Int32) (cZ : Int) (cE : c.toInt = cZ) (o : Int32) (oZ : Int) (oE : o.toInt = oZ) (w : Int32) (wZ : Int) (wE : w.toInt = wZ) (wK : h.1 116 2 = w) (g : Int32) (gZ : Int) (gE : g.toInt = gZ) (gK : h.1 116 3 = g) : Ct y_Mod_claim b_Mod_claim 3 (some .int) 2 46 [.ref 116, .int c, .int o] h (q_Mod_claimX h c cZ o oZ w wZ g gZ) := by
  refine ct_ow R_Mod [some (.ref 116), some (.int c), some (.int o)] rfl (by decide) rfl (Nat.le_of_ble_eq_true rfl) ?_
  have f0 : fr S_Mod_claimX h h := fr_rf
  have g1 : 2 ≤ wZ ∧ wZ ≤ 4 := inv_at hI wE wK.symm rfl
  have g2 : 2 ≤ gZ ∧ gZ ≤ 4 := inv_at hI gE gK.symm rfl
  refine V_aload_n 0 d_Mod_claim_0 rfl rfl ?_
  refine V_iload_n 1 d_Mod_claim_1 rfl rfl ?_
  refine N_callVI [.int c] [] cv_Mod_200 sk_116 rfl d_Mod_claim_2 rfl (Nat.le_of_ble_eq_true rfl) (by decide) (by decide) (c_Mod_isCellX h hI c cZ cE w wZ wE wK g gZ gE gK) (fun z3 h4 z3Z z3E p5 => ?_)
  obtain ⟨eh4, p5⟩ := p5
  subst eh4
  refine V_if_eq 33 z3E d_Mod_claim_5 (by decide) (fun c6 => ?_) (fun c6 => ?_)
  ·
    refine V_iconst (-1) d_Mod_claim_33 (by decide) ?_
    exact V_iret rfl d_Mod_claim_34 ⟨(-1), rfl, ⟨hI, f0, (Or.inr ⟨by (first | decide +kernel | omega), rfl, tc_m1⟩)⟩⟩
  ·
    refine V_iload_n 2 d_Mod_claim_8 rfl rfl ?_
    refine V_bipush (-4) d_Mod_claim_9 (by decide) ?_
    refine V_icmp_eq 21 oE tc_m4 d_Mod_claim_11 (by decide) (fun c7 => ?_) (fun c7 => ?_)
    ·
      refine V_aload_n 0 d_Mod_claim_21 rfl rfl ?_
      refine V_bipush 48 d_Mod_claim_22 (by decide) ?_
      refine V_iload_n 1 d_Mod_claim_24 rfl rfl ?_
      refine V_iadd tc_48 cE (by (first | decide +kernel | omega)) d_Mod_claim_25 (fun z8 z8e z8E => ?_)
      refine V_iload_n 2 d_Mod_claim_26 rfl rfl ?_
      refine N_callVI [.int z8, .int o] [] cv_Mod_210 sk_116 rfl d_Mod_claim_27 rfl (Nat.le_of_ble_eq_true rfl) (by decide) (by decide) (c_Mod_becomesX h hI z8 ((48 + cZ)) z8E o oZ oE (by (first | decide +kernel | omega)) (stOk_lo oE (by (first | decide +kernel | omega)))) (fun z9 h10 z9Z z9E p11 => ?_)
      obtain ⟨hI12, fh10, p11⟩ := p11
      have f13 : fr S_Mod_claimX h h10 := fr_call f0 fh10 rfl
      refine V_goto 34 d_Mod_claim_30 (by decide) ?_
      exact V_iret rfl d_Mod_claim_34 ⟨z9, rfl, ⟨hI12, f13, (Or.inl ⟨by (first | decide +kernel | omega), o, rfl, p11.1, p11.2⟩)⟩⟩
    ·
      refine V_iload_n 2 d_Mod_claim_14 rfl rfl ?_
      refine N_callSI [.int o] [] cs_Mod_205 d_Mod_claim_15 rfl (Nat.le_of_ble_eq_true rfl) (by decide) (by decide) (c_Mod_isOwner h o oZ oE) (fun z14 h15 z14Z z14E p16 => ?_)
      obtain ⟨eh15, p16⟩ := p16
      subst eh15
      refine V_if_eq 33 z14E d_Mod_claim_18 (by decide) (fun c17 => ?_) (fun c17 => ?_)
      ·
        refine V_iconst (-1) d_Mod_claim_33 (by decide) ?_
        exact V_iret rfl d_Mod_claim_34 ⟨(-1), rfl, ⟨hI, f0, (Or.inr ⟨by (first | decide +kernel | omega), rfl, tc_m1⟩)⟩⟩
      ·
        refine V_aload_n 0 d_Mod_claim_21 rfl rfl ?_
        refine V_bipush 48 d_Mod_claim_22 (by decide) ?_
        refine V_iload_n 1 d_Mod_claim_24 rfl rfl ?_
        refine V_iadd tc_48 cE (by (first | decide +kernel | omega)) d_Mod_claim_25 (fun z18 z18e z18E => ?_)
        refine V_iload_n 2 d_Mod_claim_26 rfl rfl ?_
        refine N_callVI [.int z18, .int o] [] cv_Mod_210 sk_116 rfl d_Mod_claim_27 rfl (Nat.le_of_ble_eq_true rfl) (by decide) (by decide) (c_Mod_becomesX h hI z18 ((48 + cZ)) z18E o oZ oE (by (first | decide +kernel | omega)) (stOk_lo oE (by (first | decide +kernel | omega)))) (fun z19 h20 z19Z z19E p21 => ?_)
        obtain ⟨hI22, fh20, p21⟩ := p21
        have f23 : fr S_Mod_claimX h h20 := fr_call f0 fh20 rfl
        refine V_goto 34 d_Mod_claim_30 (by decide) ?_
        exact V_iret rfl d_Mod_claim_34 ⟨z19, rfl, ⟨hI22, f23, (Or.inl ⟨by (first | decide +kernel | omega), o, rfl, p21.1, p21.2⟩)⟩⟩
def S_Rod_cutX : List (Nat × Option Nat) := [(0, some 3), (0, some 4)]
abbrev q_Rod_cutX (h : Hp) (n : Int32) (nZ : Int) (v : Int32) (vZ : Int) (t : Int32) (tZ : Int) : Option Value → Hp → Prop := pInt (fun r h' => Inv h' ∧ fr S_Rod_cutX h h' ∧ (Ew h h' (0 ≤ nZ ∧ nZ ≤ 4 ∧ 1 ≤ vZ ∧ vZ ≤ 9) (pI (pI h 0 3 n) 0 4 v) t r))
set_option maxRecDepth 100000 in
theorem c_Rod_cutX (h : Hp) (hI : Inv h) (n : Int32) (nZ : Int) (nE : n.toInt = nZ) (v : Int32) (vZ : Int) (vE : v.toInt = vZ) (t : Int32) (tZ : Int) (tE : t.toInt = tZ) (tK : h.1 0 3 = t) : Ct y_Rod_cut b_Rod_cut 4 (some .int) 1 20 [.ref 85, .int n, .int v] h (q_Rod_cutX h n nZ v vZ t tZ) := by
  refine ct_ow R_Rod [some (.ref 85), some (.int n), some (.int v), none] rfl (by decide) rfl (Nat.le_of_ble_eq_true rfl) ?_
  have f0 : fr S_Rod_cutX h h := fr_rf
  refine V_iload_n 1 d_Rod_cut_0 rfl rfl ?_
  refine N_callSI [.int n] [] cs_Rod_157 d_Rod_cut_1 rfl (Nat.le_of_ble_eq_true rfl) (by decide) (by decide) (c_Rod_isNature h n nZ nE) (fun z1 h2 z1Z z1E p3 => ?_)
  obtain ⟨eh2, p3⟩ := p3
  subst eh2
  refine V_if_eq 18 z1E d_Rod_cut_4 (by decide) (fun c4 => ?_) (fun c4 => ?_)
  ·
    refine V_iconst (-1) d_Rod_cut_18 (by decide) ?_
    exact V_iret rfl d_Rod_cut_19 ⟨(-1), rfl, ⟨hI, f0, (Or.inr ⟨by (first | decide +kernel | omega), rfl, tc_m1⟩)⟩⟩
  ·
    refine V_iload_n 2 d_Rod_cut_7 rfl rfl ?_
    refine V_iconst 1 d_Rod_cut_8 (by decide) ?_
    refine V_icmp_lt 18 vE tc_1 d_Rod_cut_9 (by decide) (fun c5 => ?_) (fun c5 => ?_)
    ·
      refine V_iconst (-1) d_Rod_cut_18 (by decide) ?_
      exact V_iret rfl d_Rod_cut_19 ⟨(-1), rfl, ⟨hI, f0, (Or.inr ⟨by (first | decide +kernel | omega), rfl, tc_m1⟩)⟩⟩
    ·
      refine V_iload_n 2 d_Rod_cut_12 rfl rfl ?_
      refine V_bipush 9 d_Rod_cut_13 (by decide) ?_
      refine V_icmp_le 20 vE tc_9 d_Rod_cut_15 (by decide) (fun c6 => ?_) (fun c6 => ?_)
      ·
        refine V_aload_n 0 d_Rod_cut_20 rfl rfl ?_
        refine V_getR fa_Rod_12 sk_85 rfl d_Rod_cut_21 ?_
        refine N_getK fa_Rod_109 sk_0 rfl d_Rod_cut_24 tK ?_
        refine V_istore_n 3 [some (.ref 85), some (.int n), some (.int v), some (.int t)] d_Rod_cut_27 rfl (by decide) rfl rfl ?_
        refine V_aload_n 0 d_Rod_cut_28 rfl rfl ?_
        refine V_getR fa_Rod_12 sk_85 rfl d_Rod_cut_29 ?_
        refine V_iload_n 1 d_Rod_cut_32 rfl rfl ?_
        refine N_putI fp_Rod_109 sk_0 rfl d_Rod_cut_33 (fun h7 eh7 => ?_)
        have hI8 : Inv h7 := inv_full hI eh7 rfl
        have f9 : fr S_Rod_cutX h h7 := fr_put f0 eh7 rfl
        refine V_aload_n 0 d_Rod_cut_36 rfl rfl ?_
        refine V_getR fa_Rod_12 sk_85 rfl d_Rod_cut_37 ?_
        refine V_iload_n 2 d_Rod_cut_40 rfl rfl ?_
        refine N_putI fp_Rod_112 sk_0 rfl d_Rod_cut_41 (fun h10 eh10 => ?_)
        have hI11 : Inv h10 := inv_full hI8 eh10 rfl
        have f12 : fr S_Rod_cutX h h10 := fr_put f9 eh10 rfl
        refine V_iload_n 3 d_Rod_cut_44 rfl rfl ?_
        exact V_iret rfl d_Rod_cut_45 ⟨t, rfl, ⟨hI11, f12, (Or.inl ⟨by (first | decide +kernel | omega), (by rw [eh10, eh7] <;> rfl), rfl⟩)⟩⟩
      ·
        refine V_iconst (-1) d_Rod_cut_18 (by decide) ?_
        exact V_iret rfl d_Rod_cut_19 ⟨(-1), rfl, ⟨hI, f0, (Or.inr ⟨by (first | decide +kernel | omega), rfl, tc_m1⟩)⟩⟩
def S_Mod_cutX : List (Nat × Option Nat) := [(117, none)]
abbrev q_Mod_cutX (h : Hp) (n : Int32) (nZ : Int) (v : Int32) (vZ : Int) (t : Int32) (tZ : Int) : Option Value → Hp → Prop := pInt (fun r h' => Inv h' ∧ fr S_Mod_cutX h h' ∧ (Ew h h' (0 ≤ nZ ∧ nZ ≤ 4 ∧ 1 ≤ vZ ∧ vZ ≤ 9) (pI (pI h 117 85 v) 117 84 n) t r))
set_option maxRecDepth 100000 in
theorem c_Mod_cutX (h : Hp) (hI : Inv h) (n : Int32) (nZ : Int) (nE : n.toInt = nZ) (v : Int32) (vZ : Int) (vE : v.toInt = vZ) (t : Int32) (tZ : Int) (tE : t.toInt = tZ) (tK : h.1 117 84 = t) : Ct y_Mod_cut b_Mod_cut 3 (some .int) 1 25 [.ref 116, .int n, .int v] h (q_Mod_cutX h n nZ v vZ t tZ) := by
  refine ct_ow R_Mod [some (.ref 116), some (.int n), some (.int v)] rfl (by decide) rfl (Nat.le_of_ble_eq_true rfl) ?_
  have f0 : fr S_Mod_cutX h h := fr_rf
  refine V_iload_n 1 d_Mod_cut_0 rfl rfl ?_
  refine V_i2l d_Mod_cut_1 (fun z1 z1e z1E => ?_)
  have z1F : z1.toInt = nZ := z1E.trans nE
  refine V_lconst 0 d_Mod_cut_2 (by decide) ?_
  refine V_ldc2 d_Mod_cut_3 wl_Mod_217 ?_
  refine N_callSI [.long z1, .long 0, .long 4] [] cs_Mod_95 d_Mod_cut_6 rfl (Nat.le_of_ble_eq_true rfl) (by decide) (by decide) (c_Mod_in h z1 nZ z1F 0 0 tl_0 4 4 tl_4) (fun z2 h3 z2Z z2E p4 => ?_)
  obtain ⟨eh3, p4⟩ := p4
  subst eh3
  refine V_if_eq 24 z2E d_Mod_cut_9 (by decide) (fun c5 => ?_) (fun c5 => ?_)
  ·
    refine V_iconst (-1) d_Mod_cut_24 (by decide) ?_
    exact V_iret rfl d_Mod_cut_25 ⟨(-1), rfl, ⟨hI, f0, (Or.inr ⟨by (first | decide +kernel | omega), rfl, tc_m1⟩)⟩⟩
  ·
    refine V_iload_n 2 d_Mod_cut_12 rfl rfl ?_
    refine V_i2l d_Mod_cut_13 (fun z6 z6e z6E => ?_)
    have z6F : z6.toInt = vZ := z6E.trans vE
    refine V_lconst 1 d_Mod_cut_14 (by decide) ?_
    refine V_ldc2 d_Mod_cut_15 wl_Mod_208 ?_
    refine N_callSI [.long z6, .long 1, .long 9] [] cs_Mod_95 d_Mod_cut_18 rfl (Nat.le_of_ble_eq_true rfl) (by decide) (by decide) (c_Mod_in h z6 vZ z6F 1 1 tl_1 9 9 tl_9) (fun z7 h8 z7Z z7E p9 => ?_)
    obtain ⟨eh8, p9⟩ := p9
    subst eh8
    refine V_if_ne 26 z7E d_Mod_cut_21 (by decide) (fun c10 => ?_) (fun c10 => ?_)
    ·
      refine V_aload_n 0 d_Mod_cut_26 rfl rfl ?_
      refine V_getR fa_Mod_7 sk_116 rfl d_Mod_cut_27 ?_
      refine V_bipush 85 d_Mod_cut_30 (by decide) ?_
      refine V_iload_n 2 d_Mod_cut_32 rfl rfl ?_
      refine N_iast sk_117 tc_85 (by (first | decide +kernel | omega)) d_Mod_cut_33 (fun h11 eh11 => ?_)
      have hI12 : Inv h11 := inv_full hI eh11 rfl
      have f13 : fr S_Mod_cutX h h11 := fr_put f0 eh11 rfl
      refine V_aload_n 0 d_Mod_cut_34 rfl rfl ?_
      refine V_bipush 84 d_Mod_cut_35 (by decide) ?_
      refine V_iload_n 1 d_Mod_cut_37 rfl rfl ?_
      refine N_callVI [.int 84, .int n] [] cv_Mod_210 sk_116 rfl d_Mod_cut_38 rfl (Nat.le_of_ble_eq_true rfl) (by decide) (by decide) (c_Mod_becomesX h11 hI12 84 84 tc_84 n nZ nE (by (first | decide +kernel | omega)) (stOk_lo nE (by (first | decide +kernel | omega)))) (fun z14 h15 z14Z z14E p16 => ?_)
      obtain ⟨hI17, fh15, p16⟩ := p16
      have f18 : fr S_Mod_cutX h h15 := fr_call f13 fh15 rfl
      exact V_iret rfl d_Mod_cut_41 ⟨z14, rfl, ⟨hI17, f18, (Or.inl ⟨by (first | decide +kernel | omega), p16.1.trans (by rw [eh11]; rfl), p16.2.trans (by rw [eh11, pI_at, if_neg (by decide)]; exact tK)⟩)⟩⟩
    ·
      refine V_iconst (-1) d_Mod_cut_24 (by decide) ?_
      exact V_iret rfl d_Mod_cut_25 ⟨(-1), rfl, ⟨hI, f0, (Or.inr ⟨by (first | decide +kernel | omega), rfl, tc_m1⟩)⟩⟩
def S_Rod_payX : List (Nat × Option Nat) := [(7, some 4)]
abbrev q_Rod_payX (h : Hp) (n : Int32) (nZ : Int) (t : Int32) (tZ : Int) : Option Value → Hp → Prop := pInt (fun r h' => Inv h' ∧ fr S_Rod_payX h h' ∧ (Ew h h' (0 ≤ nZ ∧ nZ ≤ tZ) (pI h 7 4 n) t r))
set_option maxRecDepth 100000 in
theorem c_Rod_payX (h : Hp) (hI : Inv h) (n : Int32) (nZ : Int) (nE : n.toInt = nZ) (t : Int32) (tZ : Int) (tE : t.toInt = tZ) (tK : h.1 7 4 = t) : Ct y_Rod_pay b_Rod_pay 3 (some .int) 0 0 [.ref 85, .int n] h (q_Rod_payX h n nZ t tZ) := by
  refine ct_ow R_Rod [some (.ref 85), some (.int n), none] rfl (by decide) rfl (Nat.le_of_ble_eq_true rfl) ?_
  have f0 : fr S_Rod_payX h h := fr_rf
  have g1 : 0 ≤ tZ ∧ tZ ≤ 8 := inv_at hI tE tK.symm rfl
  refine V_aload_n 0 d_Rod_pay_0 rfl rfl ?_
  refine V_getR fa_Rod_12 sk_85 rfl d_Rod_pay_1 ?_
  refine V_getR fa_Rod_115 sk_0 rfl d_Rod_pay_4 ?_
  refine N_getK fa_Rod_119 sk_7 rfl d_Rod_pay_7 tK ?_
  refine V_istore_n 2 [some (.ref 85), some (.int n), some (.int t)] d_Rod_pay_10 rfl (by decide) rfl rfl ?_
  refine V_iload_n 1 d_Rod_pay_11 rfl rfl ?_
  refine V_if_lt 20 nE d_Rod_pay_12 (by decide) (fun c2 => ?_) (fun c2 => ?_)
  ·
    refine V_iconst (-1) d_Rod_pay_20 (by decide) ?_
    exact V_iret rfl d_Rod_pay_21 ⟨(-1), rfl, ⟨hI, f0, (Or.inr ⟨by (first | decide +kernel | omega), rfl, tc_m1⟩)⟩⟩
  ·
    refine V_iload_n 1 d_Rod_pay_15 rfl rfl ?_
    refine V_iload_n 2 d_Rod_pay_16 rfl rfl ?_
    refine V_icmp_le 22 nE tE d_Rod_pay_17 (by decide) (fun c3 => ?_) (fun c3 => ?_)
    ·
      refine V_aload_n 0 d_Rod_pay_22 rfl rfl ?_
      refine V_getR fa_Rod_12 sk_85 rfl d_Rod_pay_23 ?_
      refine V_getR fa_Rod_115 sk_0 rfl d_Rod_pay_26 ?_
      refine V_iload_n 1 d_Rod_pay_29 rfl rfl ?_
      refine N_putI fp_Rod_119 sk_7 rfl d_Rod_pay_30 (fun h4 eh4 => ?_)
      have hI5 : Inv h4 := inv_put (lo := 0) (hi := 8) hI eh4 rfl nE (by (first | decide +kernel | omega))
      have f6 : fr S_Rod_payX h h4 := fr_put f0 eh4 rfl
      refine V_iload_n 2 d_Rod_pay_33 rfl rfl ?_
      exact V_iret rfl d_Rod_pay_34 ⟨t, rfl, ⟨hI5, f6, (Or.inl ⟨by (first | decide +kernel | omega), (by rw [eh4] <;> rfl), rfl⟩)⟩⟩
    ·
      refine V_iconst (-1) d_Rod_pay_20 (by decide) ?_
      exact V_iret rfl d_Rod_pay_21 ⟨(-1), rfl, ⟨hI, f0, (Or.inr ⟨by (first | decide +kernel | omega), rfl, tc_m1⟩)⟩⟩
def S_Rod_forgetX : List (Nat × Option Nat) := [(12, some 4)]
abbrev q_Rod_forgetX (h : Hp) (n : Int32) (nZ : Int) (t : Int32) (tZ : Int) : Option Value → Hp → Prop := pInt (fun r h' => Inv h' ∧ fr S_Rod_forgetX h h' ∧ (Ew h h' (0 ≤ nZ ∧ nZ ≤ tZ) (pI h 12 4 n) t r))
set_option maxRecDepth 100000 in
theorem c_Rod_forgetX (h : Hp) (hI : Inv h) (n : Int32) (nZ : Int) (nE : n.toInt = nZ) (t : Int32) (tZ : Int) (tE : t.toInt = tZ) (tK : h.1 12 4 = t) : Ct y_Rod_forget b_Rod_forget 3 (some .int) 0 0 [.ref 85, .int n] h (q_Rod_forgetX h n nZ t tZ) := by
  refine ct_ow R_Rod [some (.ref 85), some (.int n), none] rfl (by decide) rfl (Nat.le_of_ble_eq_true rfl) ?_
  have f0 : fr S_Rod_forgetX h h := fr_rf
  have g1 : 0 ≤ tZ ∧ tZ ≤ 8 := inv_at hI tE tK.symm rfl
  refine V_aload_n 0 d_Rod_forget_0 rfl rfl ?_
  refine V_getR fa_Rod_12 sk_85 rfl d_Rod_forget_1 ?_
  refine V_getR fa_Rod_178 sk_0 rfl d_Rod_forget_4 ?_
  refine N_getK fa_Rod_182 sk_12 rfl d_Rod_forget_7 tK ?_
  refine V_istore_n 2 [some (.ref 85), some (.int n), some (.int t)] d_Rod_forget_10 rfl (by decide) rfl rfl ?_
  refine V_iload_n 1 d_Rod_forget_11 rfl rfl ?_
  refine V_if_lt 20 nE d_Rod_forget_12 (by decide) (fun c2 => ?_) (fun c2 => ?_)
  ·
    refine V_iconst (-1) d_Rod_forget_20 (by decide) ?_
    exact V_iret rfl d_Rod_forget_21 ⟨(-1), rfl, ⟨hI, f0, (Or.inr ⟨by (first | decide +kernel | omega), rfl, tc_m1⟩)⟩⟩
  ·
    refine V_iload_n 1 d_Rod_forget_15 rfl rfl ?_
    refine V_iload_n 2 d_Rod_forget_16 rfl rfl ?_
    refine V_icmp_le 22 nE tE d_Rod_forget_17 (by decide) (fun c3 => ?_) (fun c3 => ?_)
    ·
      refine V_aload_n 0 d_Rod_forget_22 rfl rfl ?_
      refine V_getR fa_Rod_12 sk_85 rfl d_Rod_forget_23 ?_
      refine V_getR fa_Rod_178 sk_0 rfl d_Rod_forget_26 ?_
      refine V_iload_n 1 d_Rod_forget_29 rfl rfl ?_
      refine N_putI fp_Rod_182 sk_12 rfl d_Rod_forget_30 (fun h4 eh4 => ?_)
      have hI5 : Inv h4 := inv_put (lo := 0) (hi := 8) hI eh4 rfl nE (by (first | decide +kernel | omega))
      have f6 : fr S_Rod_forgetX h h4 := fr_put f0 eh4 rfl
      refine V_iload_n 2 d_Rod_forget_33 rfl rfl ?_
      exact V_iret rfl d_Rod_forget_34 ⟨t, rfl, ⟨hI5, f6, (Or.inl ⟨by (first | decide +kernel | omega), (by rw [eh4] <;> rfl), rfl⟩)⟩⟩
    ·
      refine V_iconst (-1) d_Rod_forget_20 (by decide) ?_
      exact V_iret rfl d_Rod_forget_21 ⟨(-1), rfl, ⟨hI, f0, (Or.inr ⟨by (first | decide +kernel | omega), rfl, tc_m1⟩)⟩⟩
def S_Mod_payX : List (Nat × Option Nat) := [(117, none)]
abbrev q_Mod_payX (h : Hp) (n : Int32) (nZ : Int) (t : Int32) (tZ : Int) : Option Value → Hp → Prop := pInt (fun r h' => Inv h' ∧ fr S_Mod_payX h h' ∧ (Ew h h' (0 ≤ nZ ∧ nZ ≤ tZ) (pI h 117 86 n) t r))
set_option maxRecDepth 100000 in
theorem c_Mod_payX (h : Hp) (hI : Inv h) (n : Int32) (nZ : Int) (nE : n.toInt = nZ) (t : Int32) (tZ : Int) (tE : t.toInt = tZ) (tK : h.1 117 86 = t) : Ct y_Mod_pay b_Mod_pay 2 (some .int) 1 25 [.ref 116, .int n] h (q_Mod_payX h n nZ t tZ) := by
  refine ct_ow R_Mod [some (.ref 116), some (.int n)] rfl (by decide) rfl (Nat.le_of_ble_eq_true rfl) ?_
  have f0 : fr S_Mod_payX h h := fr_rf
  have tB : 0 ≤ tZ ∧ tZ ≤ 8 := inv_at hI tE tK.symm rfl
  refine V_iload_n 1 d_Mod_pay_0 rfl rfl ?_
  refine V_i2l d_Mod_pay_1 (fun z1 z1e z1E => ?_)
  have z1F : z1.toInt = nZ := z1E.trans nE
  refine V_lconst 0 d_Mod_pay_2 (by decide) ?_
  refine V_aload_n 0 d_Mod_pay_3 rfl rfl ?_
  refine V_getR fa_Mod_7 sk_116 rfl d_Mod_pay_4 ?_
  refine V_bipush 86 d_Mod_pay_7 (by decide) ?_
  refine N_ialdK sk_117 tc_86 (by (first | decide +kernel | omega)) d_Mod_pay_9 tK ?_
  refine V_i2l d_Mod_pay_10 (fun z3 z3e z3E => ?_)
  have z3F : z3.toInt = tZ := z3E.trans tE
  refine N_callSI [.long z1, .long 0, .long z3] [] cs_Mod_95 d_Mod_pay_11 rfl (Nat.le_of_ble_eq_true rfl) (by decide) (by decide) (c_Mod_in h z1 nZ z1F 0 0 tl_0 z3 tZ z3F) (fun z4 h5 z4Z z4E p6 => ?_)
  obtain ⟨eh5, p6⟩ := p6
  subst eh5
  refine V_if_eq 27 z4E d_Mod_pay_14 (by decide) (fun c7 => ?_) (fun c7 => ?_)
  ·
    refine V_iconst (-1) d_Mod_pay_27 (by decide) ?_
    exact V_iret rfl d_Mod_pay_28 ⟨(-1), rfl, ⟨hI, f0, (Or.inr ⟨by (first | decide +kernel | omega), rfl, tc_m1⟩)⟩⟩
  ·
    refine V_aload_n 0 d_Mod_pay_17 rfl rfl ?_
    refine V_bipush 86 d_Mod_pay_18 (by decide) ?_
    refine V_iload_n 1 d_Mod_pay_20 rfl rfl ?_
    refine N_callVI [.int 86, .int n] [] cv_Mod_210 sk_116 rfl d_Mod_pay_21 rfl (Nat.le_of_ble_eq_true rfl) (by decide) (by decide) (c_Mod_becomesX h hI 86 86 tc_86 n nZ nE (by (first | decide +kernel | omega)) (stOk_8 (by (first | decide +kernel | omega)) (by (first | decide +kernel | omega)))) (fun z8 h9 z8Z z8E p10 => ?_)
    obtain ⟨hI11, fh9, p10⟩ := p10
    have f12 : fr S_Mod_payX h h9 := fr_call f0 fh9 rfl
    refine V_goto 28 d_Mod_pay_24 (by decide) ?_
    exact V_iret rfl d_Mod_pay_28 ⟨z8, rfl, ⟨hI11, f12, (Or.inl ⟨by (first | decide +kernel | omega), p10.1, p10.2.trans tK⟩)⟩⟩
def S_Mod_forgetX : List (Nat × Option Nat) := [(117, none)]
abbrev q_Mod_forgetX (h : Hp) (n : Int32) (nZ : Int) (t : Int32) (tZ : Int) : Option Value → Hp → Prop := pInt (fun r h' => Inv h' ∧ fr S_Mod_forgetX h h' ∧ (Ew h h' (0 ≤ nZ ∧ nZ ≤ tZ) (pI h 117 111 n) t r))
set_option maxRecDepth 100000 in
theorem c_Mod_forgetX (h : Hp) (hI : Inv h) (n : Int32) (nZ : Int) (nE : n.toInt = nZ) (t : Int32) (tZ : Int) (tE : t.toInt = tZ) (tK : h.1 117 111 = t) : Ct y_Mod_forget b_Mod_forget 2 (some .int) 1 25 [.ref 116, .int n] h (q_Mod_forgetX h n nZ t tZ) := by
  refine ct_ow R_Mod [some (.ref 116), some (.int n)] rfl (by decide) rfl (Nat.le_of_ble_eq_true rfl) ?_
  have f0 : fr S_Mod_forgetX h h := fr_rf
  have tB : 0 ≤ tZ ∧ tZ ≤ 8 := inv_at hI tE tK.symm rfl
  refine V_iload_n 1 d_Mod_forget_0 rfl rfl ?_
  refine V_i2l d_Mod_forget_1 (fun z1 z1e z1E => ?_)
  have z1F : z1.toInt = nZ := z1E.trans nE
  refine V_lconst 0 d_Mod_forget_2 (by decide) ?_
  refine V_aload_n 0 d_Mod_forget_3 rfl rfl ?_
  refine V_getR fa_Mod_7 sk_116 rfl d_Mod_forget_4 ?_
  refine V_bipush 111 d_Mod_forget_7 (by decide) ?_
  refine N_ialdK sk_117 tc_111 (by (first | decide +kernel | omega)) d_Mod_forget_9 tK ?_
  refine V_i2l d_Mod_forget_10 (fun z3 z3e z3E => ?_)
  have z3F : z3.toInt = tZ := z3E.trans tE
  refine N_callSI [.long z1, .long 0, .long z3] [] cs_Mod_95 d_Mod_forget_11 rfl (Nat.le_of_ble_eq_true rfl) (by decide) (by decide) (c_Mod_in h z1 nZ z1F 0 0 tl_0 z3 tZ z3F) (fun z4 h5 z4Z z4E p6 => ?_)
  obtain ⟨eh5, p6⟩ := p6
  subst eh5
  refine V_if_eq 27 z4E d_Mod_forget_14 (by decide) (fun c7 => ?_) (fun c7 => ?_)
  ·
    refine V_iconst (-1) d_Mod_forget_27 (by decide) ?_
    exact V_iret rfl d_Mod_forget_28 ⟨(-1), rfl, ⟨hI, f0, (Or.inr ⟨by (first | decide +kernel | omega), rfl, tc_m1⟩)⟩⟩
  ·
    refine V_aload_n 0 d_Mod_forget_17 rfl rfl ?_
    refine V_bipush 111 d_Mod_forget_18 (by decide) ?_
    refine V_iload_n 1 d_Mod_forget_20 rfl rfl ?_
    refine N_callVI [.int 111, .int n] [] cv_Mod_210 sk_116 rfl d_Mod_forget_21 rfl (Nat.le_of_ble_eq_true rfl) (by decide) (by decide) (c_Mod_becomesX h hI 111 111 tc_111 n nZ nE (by (first | decide +kernel | omega)) (stOk_8 (by (first | decide +kernel | omega)) (by (first | decide +kernel | omega)))) (fun z8 h9 z8Z z8E p10 => ?_)
    obtain ⟨hI11, fh9, p10⟩ := p10
    have f12 : fr S_Mod_forgetX h h9 := fr_call f0 fh9 rfl
    refine V_goto 28 d_Mod_forget_24 (by decide) ?_
    exact V_iret rfl d_Mod_forget_28 ⟨z8, rfl, ⟨hI11, f12, (Or.inl ⟨by (first | decide +kernel | omega), p10.1, p10.2.trans tK⟩)⟩⟩
def S_Ledger_addDebtX_0 : List (Nat × Option Nat) := [(7, some 4), (9, none), (10, none), (11, none)]
abbrev q_Ledger_addDebtX_0 (h : Hp) (a : Int32) (aZ : Int) (b : Int32) (bZ : Int) (v : Int32) (vZ : Int) (t : Int32) (tZ : Int) : Option Value → Hp → Prop := pVd (fun h' => Inv h' ∧ fr S_Ledger_addDebtX_0 h h' ∧ ∃ (u : Int32) (uZ : Int), u.toInt = uZ ∧ h'.1 7 4 = u ∧ (tZ < 8 ∧ uZ = tZ + 1 ∧ h' = pI (pI (pI (pI h 9 tZ.toNat a) 10 tZ.toNat b) 11 tZ.toNat v) 7 4 u ∨ 8 ≤ tZ ∧ h' = h))
set_option maxRecDepth 100000 in
theorem c_Ledger_addDebtX_0 (h : Hp) (hI : Inv h) (a : Int32) (aZ : Int) (aE : a.toInt = aZ) (b : Int32) (bZ : Int) (bE : b.toInt = bZ) (v : Int32) (vZ : Int) (vE : v.toInt = vZ) (t : Int32) (tZ : Int) (tE : t.toInt = tZ) (tK : h.1 7 4 = t) : Ct y_Ledger_addDebt b_Ledger_addDebt 4 none 0 0 [.ref 7, .int a, .int b, .int v] h (q_Ledger_addDebtX_0 h a aZ b bZ v vZ t tZ) := by
  refine ct_ow R_Ledger [some (.ref 7), some (.int a), some (.int b), some (.int v)] rfl (by decide) rfl (Nat.le_of_ble_eq_true rfl) ?_
  have f0 : fr S_Ledger_addDebtX_0 h h := fr_rf
  have g1 : 0 ≤ tZ ∧ tZ ≤ 8 := inv_at hI tE tK.symm rfl
  refine V_aload_n 0 d_Ledger_addDebt_0 rfl rfl ?_
  refine N_getK fa_Ledger_30 sk_7 rfl d_Ledger_addDebt_1 tK ?_
  refine V_bipush 8 d_Ledger_addDebt_4 (by decide) ?_
  refine V_icmp_ge 49 tE tc_8 d_Ledger_addDebt_6 (by decide) (fun c2 => ?_) (fun c2 => ?_)
  ·
    exact V_vret rfl d_Ledger_addDebt_49 ⟨rfl, ⟨hI, f0, t, tZ, tE, tK, (Or.inr ⟨by (first | decide +kernel | omega), rfl⟩)⟩⟩
  ·
    refine V_aload_n 0 d_Ledger_addDebt_9 rfl rfl ?_
    refine V_getR fa_Ledger_15 sk_7 rfl d_Ledger_addDebt_10 ?_
    refine V_aload_n 0 d_Ledger_addDebt_13 rfl rfl ?_
    refine N_getK fa_Ledger_30 sk_7 rfl d_Ledger_addDebt_14 tK ?_
    refine V_iload_n 1 d_Ledger_addDebt_17 rfl rfl ?_
    refine N_iast sk_9 tE (by (first | decide +kernel | omega)) d_Ledger_addDebt_18 (fun h3 eh3 => ?_)
    have hI4 : Inv h3 := inv_full hI eh3 rfl
    have f5 : fr S_Ledger_addDebtX_0 h h3 := fr_put f0 eh3 rfl
    refine V_aload_n 0 d_Ledger_addDebt_19 rfl rfl ?_
    refine V_getR fa_Ledger_18 sk_7 rfl d_Ledger_addDebt_20 ?_
    refine V_aload_n 0 d_Ledger_addDebt_23 rfl rfl ?_
    refine N_getK fa_Ledger_30 sk_7 rfl d_Ledger_addDebt_24 (kn_ne eh3 tK (by decide)) ?_
    refine V_iload_n 2 d_Ledger_addDebt_27 rfl rfl ?_
    refine N_iast sk_10 tE (by (first | decide +kernel | omega)) d_Ledger_addDebt_28 (fun h6 eh6 => ?_)
    have hI7 : Inv h6 := inv_full hI4 eh6 rfl
    have f8 : fr S_Ledger_addDebtX_0 h h6 := fr_put f5 eh6 rfl
    refine V_aload_n 0 d_Ledger_addDebt_29 rfl rfl ?_
    refine V_getR fa_Ledger_21 sk_7 rfl d_Ledger_addDebt_30 ?_
    refine V_aload_n 0 d_Ledger_addDebt_33 rfl rfl ?_
    refine N_getK fa_Ledger_30 sk_7 rfl d_Ledger_addDebt_34 (kn_ne eh6 (kn_ne eh3 tK (by decide)) (by decide)) ?_
    refine V_iload_n 3 d_Ledger_addDebt_37 rfl rfl ?_
    refine N_iast sk_11 tE (by (first | decide +kernel | omega)) d_Ledger_addDebt_38 (fun h9 eh9 => ?_)
    have hI10 : Inv h9 := inv_full hI7 eh9 rfl
    have f11 : fr S_Ledger_addDebtX_0 h h9 := fr_put f8 eh9 rfl
    refine V_aload_n 0 d_Ledger_addDebt_39 rfl rfl ?_
    refine V_dup d_Ledger_addDebt_40 rfl ?_
    refine N_getK fa_Ledger_30 sk_7 rfl d_Ledger_addDebt_41 (kn_ne eh9 (kn_ne eh6 (kn_ne eh3 tK (by decide)) (by decide)) (by decide)) ?_
    refine V_iconst 1 d_Ledger_addDebt_44 (by decide) ?_
    refine V_iadd tE tc_1 (by (first | decide +kernel | omega)) d_Ledger_addDebt_45 (fun z12 z12e z12E => ?_)
    refine N_putI fp_Ledger_30 sk_7 rfl d_Ledger_addDebt_46 (fun h13 eh13 => ?_)
    have hI14 : Inv h13 := inv_put (lo := 0) (hi := 8) hI10 eh13 rfl z12E (by (first | decide +kernel | omega))
    have f15 : fr S_Ledger_addDebtX_0 h h13 := fr_put f11 eh13 rfl
    exact V_vret rfl d_Ledger_addDebt_49 ⟨rfl, ⟨hI14, f15, z12, (tZ + 1), z12E, (kn_put eh13), (Or.inl ⟨by (first | decide +kernel | omega), by (first | decide +kernel | omega), (by rw [eh13, eh9, eh6, eh3] <;> rfl)⟩)⟩⟩
def S_Rod_oweX : List (Nat × Option Nat) := [(7, some 4), (9, none), (10, none), (11, none)]
abbrev q_Rod_oweX (h : Hp) (a : Int32) (aZ : Int) (b : Int32) (bZ : Int) (v : Int32) (vZ : Int) (t : Int32) (tZ : Int) : Option Value → Hp → Prop := pInt (fun r h' => Inv h' ∧ fr S_Rod_oweX h h' ∧ ((0 ≤ aZ ∧ aZ ≤ 3 ∧ 0 ≤ bZ ∧ bZ ≤ 3 ∧ aZ ≠ bZ ∧ 1 ≤ vZ ∧ vZ ≤ 99) ∧ tZ < 8 ∧ (∃ u : Int32, u.toInt = tZ + 1 ∧ h' = pI (pI (pI (pI h 9 tZ.toNat a) 10 tZ.toNat b) 11 tZ.toNat v) 7 4 u ∧ r = u) ∨ (0 ≤ aZ ∧ aZ ≤ 3 ∧ 0 ≤ bZ ∧ bZ ≤ 3 ∧ aZ ≠ bZ ∧ 1 ≤ vZ ∧ vZ ≤ 99) ∧ 8 ≤ tZ ∧ h' = h ∧ r.toInt = -3 ∨ ¬ (0 ≤ aZ ∧ aZ ≤ 3 ∧ 0 ≤ bZ ∧ bZ ≤ 3 ∧ aZ ≠ bZ ∧ 1 ≤ vZ ∧ vZ ≤ 99) ∧ h' = h ∧ r.toInt = -1))
set_option maxRecDepth 100000 in
theorem c_Rod_oweX (h : Hp) (hI : Inv h) (a : Int32) (aZ : Int) (aE : a.toInt = aZ) (b : Int32) (bZ : Int) (bE : b.toInt = bZ) (v : Int32) (vZ : Int) (vE : v.toInt = vZ) (t : Int32) (tZ : Int) (tE : t.toInt = tZ) (tK : h.1 7 4 = t) : Ct y_Rod_owe b_Rod_owe 4 (some .int) 1 23 [.ref 85, .int a, .int b, .int v] h (q_Rod_oweX h a aZ b bZ v vZ t tZ) := by
  refine ct_ow R_Rod [some (.ref 85), some (.int a), some (.int b), some (.int v)] rfl (by decide) rfl (Nat.le_of_ble_eq_true rfl) ?_
  have f0 : fr S_Rod_oweX h h := fr_rf
  have g1 : 0 ≤ tZ ∧ tZ ≤ 8 := inv_at hI tE tK.symm rfl
  refine V_iload_n 1 d_Rod_owe_0 rfl rfl ?_
  refine N_callSI [.int a] [] cs_Rod_151 d_Rod_owe_1 rfl (Nat.le_of_ble_eq_true rfl) (by decide) (by decide) (c_Rod_isOwner h a aZ aE) (fun z2 h3 z2Z z2E p4 => ?_)
  obtain ⟨eh3, p4⟩ := p4
  subst eh3
  refine V_if_eq 30 z2E d_Rod_owe_4 (by decide) (fun c5 => ?_) (fun c5 => ?_)
  ·
    refine V_iconst (-1) d_Rod_owe_30 (by decide) ?_
    exact V_iret rfl d_Rod_owe_31 ⟨(-1), rfl, ⟨hI, f0, (Or.inr (Or.inr ⟨by (first | decide +kernel | omega), rfl, tc_m1⟩))⟩⟩
  ·
    refine V_iload_n 2 d_Rod_owe_7 rfl rfl ?_
    refine N_callSI [.int b] [] cs_Rod_151 d_Rod_owe_8 rfl (Nat.le_of_ble_eq_true rfl) (by decide) (by decide) (c_Rod_isOwner h b bZ bE) (fun z6 h7 z6Z z6E p8 => ?_)
    obtain ⟨eh7, p8⟩ := p8
    subst eh7
    refine V_if_eq 30 z6E d_Rod_owe_11 (by decide) (fun c9 => ?_) (fun c9 => ?_)
    ·
      refine V_iconst (-1) d_Rod_owe_30 (by decide) ?_
      exact V_iret rfl d_Rod_owe_31 ⟨(-1), rfl, ⟨hI, f0, (Or.inr (Or.inr ⟨by (first | decide +kernel | omega), rfl, tc_m1⟩))⟩⟩
    ·
      refine V_iload_n 1 d_Rod_owe_14 rfl rfl ?_
      refine V_iload_n 2 d_Rod_owe_15 rfl rfl ?_
      refine V_icmp_eq 30 aE bE d_Rod_owe_16 (by decide) (fun c10 => ?_) (fun c10 => ?_)
      ·
        refine V_iconst (-1) d_Rod_owe_30 (by decide) ?_
        exact V_iret rfl d_Rod_owe_31 ⟨(-1), rfl, ⟨hI, f0, (Or.inr (Or.inr ⟨by (first | decide +kernel | omega), rfl, tc_m1⟩))⟩⟩
      ·
        refine V_iload_n 3 d_Rod_owe_19 rfl rfl ?_
        refine V_iconst 1 d_Rod_owe_20 (by decide) ?_
        refine V_icmp_lt 30 vE tc_1 d_Rod_owe_21 (by decide) (fun c11 => ?_) (fun c11 => ?_)
        ·
          refine V_iconst (-1) d_Rod_owe_30 (by decide) ?_
          exact V_iret rfl d_Rod_owe_31 ⟨(-1), rfl, ⟨hI, f0, (Or.inr (Or.inr ⟨by (first | decide +kernel | omega), rfl, tc_m1⟩))⟩⟩
        ·
          refine V_iload_n 3 d_Rod_owe_24 rfl rfl ?_
          refine V_bipush 99 d_Rod_owe_25 (by decide) ?_
          refine V_icmp_le 32 vE tc_99 d_Rod_owe_27 (by decide) (fun c12 => ?_) (fun c12 => ?_)
          ·
            refine V_aload_n 0 d_Rod_owe_32 rfl rfl ?_
            refine V_getR fa_Rod_12 sk_85 rfl d_Rod_owe_33 ?_
            refine V_getR fa_Rod_115 sk_0 rfl d_Rod_owe_36 ?_
            refine N_getK fa_Rod_119 sk_7 rfl d_Rod_owe_39 tK ?_
            refine V_bipush 8 d_Rod_owe_42 (by decide) ?_
            refine V_icmp_lt 50 tE tc_8 d_Rod_owe_44 (by decide) (fun c13 => ?_) (fun c13 => ?_)
            ·
              refine V_aload_n 0 d_Rod_owe_50 rfl rfl ?_
              refine V_getR fa_Rod_12 sk_85 rfl d_Rod_owe_51 ?_
              refine V_getR fa_Rod_115 sk_0 rfl d_Rod_owe_54 ?_
              refine V_iload_n 1 d_Rod_owe_57 rfl rfl ?_
              refine V_iload_n 2 d_Rod_owe_58 rfl rfl ?_
              refine V_iload_n 3 d_Rod_owe_59 rfl rfl ?_
              refine N_callVV [.int a, .int b, .int v] [] cv_Rod_160 sk_7 rfl d_Rod_owe_60 rfl (Nat.le_of_ble_eq_true rfl) (by decide) (by decide) (c_Ledger_addDebtX_0 h hI a aZ aE b bZ bE v vZ vE t tZ tE tK) (fun h15 p16 => ?_)
              obtain ⟨hI17, fh15, o19, o19Z, o19E, o19K, p16⟩ := p16
              have f18 : fr S_Rod_oweX h h15 := fr_call f0 fh15 rfl
              have g20 : 0 ≤ o19Z ∧ o19Z ≤ 8 := inv_at hI17 o19E o19K.symm rfl
              refine V_aload_n 0 d_Rod_owe_63 rfl rfl ?_
              refine V_getR fa_Rod_12 sk_85 rfl d_Rod_owe_64 ?_
              refine V_getR fa_Rod_115 sk_0 rfl d_Rod_owe_67 ?_
              refine N_getK fa_Rod_119 sk_7 rfl d_Rod_owe_70 o19K ?_
              exact V_iret rfl d_Rod_owe_73 ⟨o19, rfl, ⟨hI17, f18, (Or.inl ⟨by (first | decide +kernel | omega), by (first | decide +kernel | omega), o19, by rw [o19E]; omega, (p16.resolve_right (fun q => absurd q.1 (by (first | decide +kernel | omega)))).2.2, rfl⟩)⟩⟩
            ·
              refine V_bipush (-3) d_Rod_owe_47 (by decide) ?_
              exact V_iret rfl d_Rod_owe_49 ⟨(-3), rfl, ⟨hI, f0, (Or.inr (Or.inl ⟨by (first | decide +kernel | omega), by (first | decide +kernel | omega), rfl, tc_m3⟩))⟩⟩
          ·
            refine V_iconst (-1) d_Rod_owe_30 (by decide) ?_
            exact V_iret rfl d_Rod_owe_31 ⟨(-1), rfl, ⟨hI, f0, (Or.inr (Or.inr ⟨by (first | decide +kernel | omega), rfl, tc_m1⟩))⟩⟩
def S_Mod_oweX : List (Nat × Option Nat) := [(117, none)]
abbrev q_Mod_oweX (h : Hp) (a : Int32) (aZ : Int) (b : Int32) (bZ : Int) (v : Int32) (vZ : Int) (t : Int32) (tZ : Int) : Option Value → Hp → Prop := pInt (fun r h' => Inv h' ∧ fr S_Mod_oweX h h' ∧ ((0 ≤ aZ ∧ aZ ≤ 3 ∧ 0 ≤ bZ ∧ bZ ≤ 3 ∧ aZ ≠ bZ ∧ 1 ≤ vZ ∧ vZ ≤ 99) ∧ tZ < 8 ∧ (∃ u : Int32, u.toInt = tZ + 1 ∧ h' = pI (pI (pI (pI h 117 (87 + 3 * tZ).toNat a) 117 (87 + 3 * tZ + 1).toNat b) 117 (87 + 3 * tZ + 2).toNat v) 117 86 u ∧ r = u) ∨ (0 ≤ aZ ∧ aZ ≤ 3 ∧ 0 ≤ bZ ∧ bZ ≤ 3 ∧ aZ ≠ bZ ∧ 1 ≤ vZ ∧ vZ ≤ 99) ∧ 8 ≤ tZ ∧ h' = h ∧ r.toInt = -3 ∨ ¬ (0 ≤ aZ ∧ aZ ≤ 3 ∧ 0 ≤ bZ ∧ bZ ≤ 3 ∧ aZ ≠ bZ ∧ 1 ≤ vZ ∧ vZ ≤ 99) ∧ h' = h ∧ r.toInt = -1))
set_option maxRecDepth 100000 in
theorem c_Mod_oweX (h : Hp) (hI : Inv h) (a : Int32) (aZ : Int) (aE : a.toInt = aZ) (b : Int32) (bZ : Int) (bE : b.toInt = bZ) (v : Int32) (vZ : Int) (vE : v.toInt = vZ) (t : Int32) (tZ : Int) (tE : t.toInt = tZ) (tK : h.1 117 86 = t) : Ct y_Mod_owe b_Mod_owe 5 (some .int) 2 45 [.ref 116, .int a, .int b, .int v] h (q_Mod_oweX h a aZ b bZ v vZ t tZ) := by
  refine ct_ow R_Mod [some (.ref 116), some (.int a), some (.int b), some (.int v), none] rfl (by decide) rfl (Nat.le_of_ble_eq_true rfl) ?_
  have f0 : fr S_Mod_oweX h h := fr_rf
  have tB : 0 ≤ tZ ∧ tZ ≤ 8 := inv_at hI tE tK.symm rfl
  refine V_iload_n 1 d_Mod_owe_0 rfl rfl ?_
  refine N_callSI [.int a] [] cs_Mod_205 d_Mod_owe_1 rfl (Nat.le_of_ble_eq_true rfl) (by decide) (by decide) (c_Mod_isOwner h a aZ aE) (fun z1 h2 z1Z z1E p3 => ?_)
  obtain ⟨eh2, p3⟩ := p3
  subst eh2
  refine V_if_eq 31 z1E d_Mod_owe_4 (by decide) (fun c4 => ?_) (fun c4 => ?_)
  ·
    refine V_iconst (-1) d_Mod_owe_31 (by decide) ?_
    exact V_iret rfl d_Mod_owe_32 ⟨(-1), rfl, ⟨hI, f0, (Or.inr (Or.inr ⟨by (first | decide +kernel | omega), rfl, tc_m1⟩))⟩⟩
  ·
    refine V_iload_n 2 d_Mod_owe_7 rfl rfl ?_
    refine N_callSI [.int b] [] cs_Mod_205 d_Mod_owe_8 rfl (Nat.le_of_ble_eq_true rfl) (by decide) (by decide) (c_Mod_isOwner h b bZ bE) (fun z5 h6 z5Z z5E p7 => ?_)
    obtain ⟨eh6, p7⟩ := p7
    subst eh6
    refine V_if_eq 31 z5E d_Mod_owe_11 (by decide) (fun c8 => ?_) (fun c8 => ?_)
    ·
      refine V_iconst (-1) d_Mod_owe_31 (by decide) ?_
      exact V_iret rfl d_Mod_owe_32 ⟨(-1), rfl, ⟨hI, f0, (Or.inr (Or.inr ⟨by (first | decide +kernel | omega), rfl, tc_m1⟩))⟩⟩
    ·
      refine V_iload_n 1 d_Mod_owe_14 rfl rfl ?_
      refine V_iload_n 2 d_Mod_owe_15 rfl rfl ?_
      refine V_icmp_eq 31 aE bE d_Mod_owe_16 (by decide) (fun c9 => ?_) (fun c9 => ?_)
      ·
        refine V_iconst (-1) d_Mod_owe_31 (by decide) ?_
        exact V_iret rfl d_Mod_owe_32 ⟨(-1), rfl, ⟨hI, f0, (Or.inr (Or.inr ⟨by (first | decide +kernel | omega), rfl, tc_m1⟩))⟩⟩
      ·
        refine V_iload_n 3 d_Mod_owe_19 rfl rfl ?_
        refine V_i2l d_Mod_owe_20 (fun z10 z10e z10E => ?_)
        have z10F : z10.toInt = vZ := z10E.trans vE
        refine V_lconst 1 d_Mod_owe_21 (by decide) ?_
        refine V_ldc2 d_Mod_owe_22 wl_Mod_219 ?_
        refine N_callSI [.long z10, .long 1, .long 99] [] cs_Mod_95 d_Mod_owe_25 rfl (Nat.le_of_ble_eq_true rfl) (by decide) (by decide) (c_Mod_in h z10 vZ z10F 1 1 tl_1 99 99 tl_99) (fun z11 h12 z11Z z11E p13 => ?_)
        obtain ⟨eh12, p13⟩ := p13
        subst eh12
        refine V_if_ne 33 z11E d_Mod_owe_28 (by decide) (fun c14 => ?_) (fun c14 => ?_)
        ·
          refine V_aload_n 0 d_Mod_owe_33 rfl rfl ?_
          refine V_getR fa_Mod_7 sk_116 rfl d_Mod_owe_34 ?_
          refine V_bipush 86 d_Mod_owe_37 (by decide) ?_
          refine N_ialdK sk_117 tc_86 (by (first | decide +kernel | omega)) d_Mod_owe_39 tK ?_
          refine V_bipush 8 d_Mod_owe_40 (by decide) ?_
          refine V_icmp_ne 48 tE tc_8 d_Mod_owe_42 (by decide) (fun c16 => ?_) (fun c16 => ?_)
          ·
            refine V_bipush 87 d_Mod_owe_48 (by decide) ?_
            refine V_iconst 3 d_Mod_owe_50 (by decide) ?_
            refine V_aload_n 0 d_Mod_owe_51 rfl rfl ?_
            refine V_getR fa_Mod_7 sk_116 rfl d_Mod_owe_52 ?_
            refine V_bipush 86 d_Mod_owe_55 (by decide) ?_
            refine N_ialdK sk_117 tc_86 (by (first | decide +kernel | omega)) d_Mod_owe_57 tK ?_
            refine V_imul tc_3 tE (by (first | decide +kernel | omega)) d_Mod_owe_58 (fun z18 z18e z18E => ?_)
            refine V_iadd tc_87 z18E (by (first | decide +kernel | omega)) d_Mod_owe_59 (fun z19 z19e z19E => ?_)
            refine V_istore 4 [some (.ref 116), some (.int a), some (.int b), some (.int v), some (.int z19)] d_Mod_owe_60 (by decide) rfl rfl ?_
            refine V_aload_n 0 d_Mod_owe_62 rfl rfl ?_
            refine V_getR fa_Mod_7 sk_116 rfl d_Mod_owe_63 ?_
            refine V_iload d_Mod_owe_66 rfl ?_
            refine V_iload_n 1 d_Mod_owe_68 rfl rfl ?_
            refine N_iast sk_117 z19E (by (first | decide +kernel | omega)) d_Mod_owe_69 (fun h20 eh20 => ?_)
            have hI21 : Inv h20 := inv_put hI eh20 (st_a (by (first | decide +kernel | omega))) aE (by (first | decide +kernel | omega))
            have f22 : fr S_Mod_oweX h h20 := fr_put f0 eh20 rfl
            refine V_aload_n 0 d_Mod_owe_70 rfl rfl ?_
            refine V_getR fa_Mod_7 sk_116 rfl d_Mod_owe_71 ?_
            refine V_iload d_Mod_owe_74 rfl ?_
            refine V_iconst 1 d_Mod_owe_76 (by decide) ?_
            refine V_iadd z19E tc_1 (by (first | decide +kernel | omega)) d_Mod_owe_77 (fun z23 z23e z23E => ?_)
            refine V_iload_n 2 d_Mod_owe_78 rfl rfl ?_
            refine N_iast sk_117 z23E (by (first | decide +kernel | omega)) d_Mod_owe_79 (fun h24 eh24 => ?_)
            have hI25 : Inv h24 := inv_put hI21 eh24 (st_a (by (first | decide +kernel | omega))) bE (by (first | decide +kernel | omega))
            have f26 : fr S_Mod_oweX h h24 := fr_put f22 eh24 rfl
            refine V_aload_n 0 d_Mod_owe_80 rfl rfl ?_
            refine V_getR fa_Mod_7 sk_116 rfl d_Mod_owe_81 ?_
            refine V_iload d_Mod_owe_84 rfl ?_
            refine V_iconst 2 d_Mod_owe_86 (by decide) ?_
            refine V_iadd z19E tc_2 (by (first | decide +kernel | omega)) d_Mod_owe_87 (fun z27 z27e z27E => ?_)
            refine V_iload_n 3 d_Mod_owe_88 rfl rfl ?_
            refine N_iast sk_117 z27E (by (first | decide +kernel | omega)) d_Mod_owe_89 (fun h28 eh28 => ?_)
            have hI29 : Inv h28 := inv_full hI25 eh28 (st_b (by (first | decide +kernel | omega)))
            have f30 : fr S_Mod_oweX h h28 := fr_put f26 eh28 rfl
            refine V_aload_n 0 d_Mod_owe_90 rfl rfl ?_
            refine V_getR fa_Mod_7 sk_116 rfl d_Mod_owe_91 ?_
            refine V_bipush 86 d_Mod_owe_94 (by decide) ?_
            refine V_dup2 d_Mod_owe_96 rfl rfl ?_
            refine N_ialdK sk_117 tc_86 (by (first | decide +kernel | omega)) d_Mod_owe_97 (kn_nei eh28 (kn_nei eh24 (kn_nei eh20 tK (by (first | decide +kernel | omega))) (by (first | decide +kernel | omega))) (by (first | decide +kernel | omega))) ?_
            refine V_iconst 1 d_Mod_owe_98 (by decide) ?_
            refine V_iadd tE tc_1 (by (first | decide +kernel | omega)) d_Mod_owe_99 (fun z32 z32e z32E => ?_)
            refine N_iast sk_117 tc_86 (by (first | decide +kernel | omega)) d_Mod_owe_100 (fun h33 eh33 => ?_)
            have hI34 : Inv h33 := inv_put (lo := 0) (hi := 8) hI29 eh33 rfl z32E (by (first | decide +kernel | omega))
            have f35 : fr S_Mod_oweX h h33 := fr_put f30 eh33 rfl
            refine V_aload_n 0 d_Mod_owe_101 rfl rfl ?_
            refine V_getR fa_Mod_7 sk_116 rfl d_Mod_owe_102 ?_
            refine V_bipush 86 d_Mod_owe_105 (by decide) ?_
            refine N_ialdK sk_117 tc_86 (by (first | decide +kernel | omega)) d_Mod_owe_107 (kn_put eh33) ?_
            exact V_iret rfl d_Mod_owe_108 ⟨z32, rfl, ⟨hI34, f35, (Or.inl ⟨by (first | decide +kernel | omega), by (first | decide +kernel | omega), z32, by rw [z32E], (by rw [eh33, eh28, eh24, eh20] <;> rfl), rfl⟩)⟩⟩
          ·
            refine V_bipush (-3) d_Mod_owe_45 (by decide) ?_
            exact V_iret rfl d_Mod_owe_47 ⟨(-3), rfl, ⟨hI, f0, (Or.inr (Or.inl ⟨by (first | decide +kernel | omega), by (first | decide +kernel | omega), rfl, tc_m3⟩))⟩⟩
        ·
          refine V_iconst (-1) d_Mod_owe_31 (by decide) ?_
          exact V_iret rfl d_Mod_owe_32 ⟨(-1), rfl, ⟨hI, f0, (Or.inr (Or.inr ⟨by (first | decide +kernel | omega), rfl, tc_m1⟩))⟩⟩
def S_Sights_addX_0 : List (Nat × Option Nat) := [(12, some 4), (13, none), (14, none), (15, none), (16, none)]
abbrev q_Sights_addX_0 (h : Hp) (c : Int32) (cZ : Int) (o : Int32) (oZ : Int) (s : Int32) (sZ : Int) (b : Int32) (bZ : Int) (t : Int32) (tZ : Int) : Option Value → Hp → Prop := pVd (fun h' => Inv h' ∧ fr S_Sights_addX_0 h h' ∧ ∃ (u : Int32) (uZ : Int), u.toInt = uZ ∧ h'.1 12 4 = u ∧ (tZ < 8 ∧ uZ = tZ + 1 ∧ h' = pI (pI (pI (pI (pI h 13 tZ.toNat c) 14 tZ.toNat o) 15 tZ.toNat s) 16 tZ.toNat b) 12 4 u ∨ 8 ≤ tZ ∧ h' = h))
set_option maxRecDepth 100000 in
theorem c_Sights_addX_0 (h : Hp) (hI : Inv h) (c : Int32) (cZ : Int) (cE : c.toInt = cZ) (o : Int32) (oZ : Int) (oE : o.toInt = oZ) (s : Int32) (sZ : Int) (sE : s.toInt = sZ) (b : Int32) (bZ : Int) (bE : b.toInt = bZ) (t : Int32) (tZ : Int) (tE : t.toInt = tZ) (tK : h.1 12 4 = t) (hy0 : 0 ≤ cZ ∧ cZ ≤ 15) : Ct y_Sights_add b_Sights_add 5 none 0 0 [.ref 12, .int c, .int o, .int s, .int b] h (q_Sights_addX_0 h c cZ o oZ s sZ b bZ t tZ) := by
  refine ct_ow R_Sights [some (.ref 12), some (.int c), some (.int o), some (.int s), some (.int b)] rfl (by decide) rfl (Nat.le_of_ble_eq_true rfl) ?_
  have f0 : fr S_Sights_addX_0 h h := fr_rf
  have g1 : 0 ≤ tZ ∧ tZ ≤ 8 := inv_at hI tE tK.symm rfl
  refine V_aload_n 0 d_Sights_add_0 rfl rfl ?_
  refine N_getK fa_Sights_30 sk_12 rfl d_Sights_add_1 tK ?_
  refine V_bipush 8 d_Sights_add_4 (by decide) ?_
  refine V_icmp_ge 60 tE tc_8 d_Sights_add_6 (by decide) (fun c2 => ?_) (fun c2 => ?_)
  ·
    exact V_vret rfl d_Sights_add_60 ⟨rfl, ⟨hI, f0, t, tZ, tE, tK, (Or.inr ⟨by (first | decide +kernel | omega), rfl⟩)⟩⟩
  ·
    refine V_aload_n 0 d_Sights_add_9 rfl rfl ?_
    refine V_getR fa_Sights_9 sk_12 rfl d_Sights_add_10 ?_
    refine V_aload_n 0 d_Sights_add_13 rfl rfl ?_
    refine N_getK fa_Sights_30 sk_12 rfl d_Sights_add_14 tK ?_
    refine V_iload_n 1 d_Sights_add_17 rfl rfl ?_
    refine N_iast sk_13 tE (by (first | decide +kernel | omega)) d_Sights_add_18 (fun h3 eh3 => ?_)
    have hI4 : Inv h3 := inv_put (lo := 0) (hi := 15) hI eh3 rfl cE (by (first | decide +kernel | omega))
    have f5 : fr S_Sights_addX_0 h h3 := fr_put f0 eh3 rfl
    refine V_aload_n 0 d_Sights_add_19 rfl rfl ?_
    refine V_getR fa_Sights_15 sk_12 rfl d_Sights_add_20 ?_
    refine V_aload_n 0 d_Sights_add_23 rfl rfl ?_
    refine N_getK fa_Sights_30 sk_12 rfl d_Sights_add_24 (kn_ne eh3 tK (by decide)) ?_
    refine V_iload_n 2 d_Sights_add_27 rfl rfl ?_
    refine N_iast sk_14 tE (by (first | decide +kernel | omega)) d_Sights_add_28 (fun h6 eh6 => ?_)
    have hI7 : Inv h6 := inv_full hI4 eh6 rfl
    have f8 : fr S_Sights_addX_0 h h6 := fr_put f5 eh6 rfl
    refine V_aload_n 0 d_Sights_add_29 rfl rfl ?_
    refine V_getR fa_Sights_18 sk_12 rfl d_Sights_add_30 ?_
    refine V_aload_n 0 d_Sights_add_33 rfl rfl ?_
    refine N_getK fa_Sights_30 sk_12 rfl d_Sights_add_34 (kn_ne eh6 (kn_ne eh3 tK (by decide)) (by decide)) ?_
    refine V_iload_n 3 d_Sights_add_37 rfl rfl ?_
    refine N_iast sk_15 tE (by (first | decide +kernel | omega)) d_Sights_add_38 (fun h9 eh9 => ?_)
    have hI10 : Inv h9 := inv_full hI7 eh9 rfl
    have f11 : fr S_Sights_addX_0 h h9 := fr_put f8 eh9 rfl
    refine V_aload_n 0 d_Sights_add_39 rfl rfl ?_
    refine V_getR fa_Sights_21 sk_12 rfl d_Sights_add_40 ?_
    refine V_aload_n 0 d_Sights_add_43 rfl rfl ?_
    refine N_getK fa_Sights_30 sk_12 rfl d_Sights_add_44 (kn_ne eh9 (kn_ne eh6 (kn_ne eh3 tK (by decide)) (by decide)) (by decide)) ?_
    refine V_iload d_Sights_add_47 rfl ?_
    refine N_iast sk_16 tE (by (first | decide +kernel | omega)) d_Sights_add_49 (fun h12 eh12 => ?_)
    have hI13 : Inv h12 := inv_full hI10 eh12 rfl
    have f14 : fr S_Sights_addX_0 h h12 := fr_put f11 eh12 rfl
    refine V_aload_n 0 d_Sights_add_50 rfl rfl ?_
    refine V_dup d_Sights_add_51 rfl ?_
    refine N_getK fa_Sights_30 sk_12 rfl d_Sights_add_52 (kn_ne eh12 (kn_ne eh9 (kn_ne eh6 (kn_ne eh3 tK (by decide)) (by decide)) (by decide)) (by decide)) ?_
    refine V_iconst 1 d_Sights_add_55 (by decide) ?_
    refine V_iadd tE tc_1 (by (first | decide +kernel | omega)) d_Sights_add_56 (fun z15 z15e z15E => ?_)
    refine N_putI fp_Sights_30 sk_12 rfl d_Sights_add_57 (fun h16 eh16 => ?_)
    have hI17 : Inv h16 := inv_put (lo := 0) (hi := 8) hI13 eh16 rfl z15E (by (first | decide +kernel | omega))
    have f18 : fr S_Sights_addX_0 h h16 := fr_put f14 eh16 rfl
    exact V_vret rfl d_Sights_add_60 ⟨rfl, ⟨hI17, f18, z15, (tZ + 1), z15E, (kn_put eh16), (Or.inl ⟨by (first | decide +kernel | omega), by (first | decide +kernel | omega), (by rw [eh16, eh12, eh9, eh6, eh3] <;> rfl)⟩)⟩⟩
def S_Rod_seeX : List (Nat × Option Nat) := [(12, some 4), (13, none), (14, none), (15, none), (16, none)]
abbrev q_Rod_seeX (h : Hp) (c : Int32) (cZ : Int) (o : Int32) (oZ : Int) (s : Int32) (sZ : Int) (b : Int32) (bZ : Int) (w : Int32) (wZ : Int) (g : Int32) (gZ : Int) (t : Int32) (tZ : Int) : Option Value → Hp → Prop := pInt (fun r h' => Inv h' ∧ fr S_Rod_seeX h h' ∧ ((0 ≤ cZ ∧ cZ < wZ * gZ ∧ 0 ≤ oZ ∧ oZ ≤ 3 ∧ 1 ≤ sZ ∧ sZ ≤ 9) ∧ tZ < 8 ∧ (∃ u x : Int32, u.toInt = tZ + 1 ∧ (bZ ≠ 0 ∧ x.toInt = 1 ∨ bZ = 0 ∧ x.toInt = 0) ∧ h' = pI (pI (pI (pI (pI h 13 tZ.toNat c) 14 tZ.toNat o) 15 tZ.toNat s) 16 tZ.toNat x) 12 4 u ∧ r = u) ∨ (0 ≤ cZ ∧ cZ < wZ * gZ ∧ 0 ≤ oZ ∧ oZ ≤ 3 ∧ 1 ≤ sZ ∧ sZ ≤ 9) ∧ 8 ≤ tZ ∧ h' = h ∧ r.toInt = -3 ∨ ¬ (0 ≤ cZ ∧ cZ < wZ * gZ ∧ 0 ≤ oZ ∧ oZ ≤ 3 ∧ 1 ≤ sZ ∧ sZ ≤ 9) ∧ h' = h ∧ r.toInt = -1))
set_option maxRecDepth 100000 in
theorem c_Rod_seeX (h : Hp) (hI : Inv h) (c : Int32) (cZ : Int) (cE : c.toInt = cZ) (o : Int32) (oZ : Int) (oE : o.toInt = oZ) (s : Int32) (sZ : Int) (sE : s.toInt = sZ) (b : Int32) (bZ : Int) (bE : b.toInt = bZ) (w : Int32) (wZ : Int) (wE : w.toInt = wZ) (wK : h.1 1 0 = w) (g : Int32) (gZ : Int) (gE : g.toInt = gZ) (gK : h.1 1 1 = g) (t : Int32) (tZ : Int) (tE : t.toInt = tZ) (tK : h.1 12 4 = t) : Ct y_Rod_see b_Rod_see 5 (some .int) 3 64 [.ref 85, .int c, .int o, .int s, .int b] h (q_Rod_seeX h c cZ o oZ s sZ b bZ w wZ g gZ t tZ) := by
  refine ct_ow R_Rod [some (.ref 85), some (.int c), some (.int o), some (.int s), some (.int b)] rfl (by decide) rfl (Nat.le_of_ble_eq_true rfl) ?_
  have f0 : fr S_Rod_seeX h h := fr_rf
  have g1 : 2 ≤ wZ ∧ wZ ≤ 4 := inv_at hI wE wK.symm rfl
  have g2 : 2 ≤ gZ ∧ gZ ≤ 4 := inv_at hI gE gK.symm rfl
  have g3 : 0 ≤ tZ ∧ tZ ≤ 8 := inv_at hI tE tK.symm rfl
  refine V_aload_n 0 d_Rod_see_0 rfl rfl ?_
  refine V_iload_n 1 d_Rod_see_1 rfl rfl ?_
  refine V_iload_n 2 d_Rod_see_2 rfl rfl ?_
  refine V_iload_n 3 d_Rod_see_3 rfl rfl ?_
  refine N_callVI [.int c, .int o, .int s] [] cv_Rod_171 sk_85 rfl d_Rod_see_4 rfl (Nat.le_of_ble_eq_true rfl) (by decide) (by decide) (c_Rod_isSightX h hI c cZ cE o oZ oE s sZ sE w wZ wE wK g gZ gE gK) (fun z4 h5 z4Z z4E p6 => ?_)
  obtain ⟨eh5, p6⟩ := p6
  subst eh5
  refine V_if_ne 12 z4E d_Rod_see_7 (by decide) (fun c7 => ?_) (fun c7 => ?_)
  ·
    refine V_aload_n 0 d_Rod_see_12 rfl rfl ?_
    refine V_getR fa_Rod_12 sk_85 rfl d_Rod_see_13 ?_
    refine V_getR fa_Rod_178 sk_0 rfl d_Rod_see_16 ?_
    refine N_getK fa_Rod_182 sk_12 rfl d_Rod_see_19 tK ?_
    refine V_bipush 8 d_Rod_see_22 (by decide) ?_
    refine V_icmp_lt 30 tE tc_8 d_Rod_see_24 (by decide) (fun c8 => ?_) (fun c8 => ?_)
    ·
      refine V_aload_n 0 d_Rod_see_30 rfl rfl ?_
      refine V_getR fa_Rod_12 sk_85 rfl d_Rod_see_31 ?_
      refine V_getR fa_Rod_178 sk_0 rfl d_Rod_see_34 ?_
      refine V_iload_n 1 d_Rod_see_37 rfl rfl ?_
      refine V_iload_n 2 d_Rod_see_38 rfl rfl ?_
      refine V_iload_n 3 d_Rod_see_39 rfl rfl ?_
      refine V_iload d_Rod_see_40 rfl ?_
      refine N_callSI [.int b] [.int s, .int o, .int c, .ref 12] cs_Rod_147 d_Rod_see_42 rfl (Nat.le_of_ble_eq_true rfl) (by decide) (by decide) (c_Rod_oneIf h b bZ bE) (fun z9 h10 z9Z z9E p11 => ?_)
      obtain ⟨eh10, p11⟩ := p11
      subst eh10
      refine N_callVV [.int c, .int o, .int s, .int z9] [] cv_Rod_185 sk_12 rfl d_Rod_see_45 rfl (Nat.le_of_ble_eq_true rfl) (by decide) (by decide) (c_Sights_addX_0 h hI c cZ cE o oZ oE s sZ sE z9 z9Z z9E t tZ tE tK (by (first | decide +kernel | omega))) (fun h13 p14 => ?_)
      obtain ⟨hI15, fh13, o17, o17Z, o17E, o17K, p14⟩ := p14
      have f16 : fr S_Rod_seeX h h13 := fr_call f0 fh13 rfl
      have g18 : 0 ≤ o17Z ∧ o17Z ≤ 8 := inv_at hI15 o17E o17K.symm rfl
      refine V_aload_n 0 d_Rod_see_48 rfl rfl ?_
      refine V_getR fa_Rod_12 sk_85 rfl d_Rod_see_49 ?_
      refine V_getR fa_Rod_178 sk_0 rfl d_Rod_see_52 ?_
      refine N_getK fa_Rod_182 sk_12 rfl d_Rod_see_55 o17K ?_
      exact V_iret rfl d_Rod_see_58 ⟨o17, rfl, ⟨hI15, f16, (Or.inl ⟨by (first | decide +kernel | omega), by (first | decide +kernel | omega), o17, z9, by rw [o17E]; omega, p11, (p14.resolve_right (fun q => absurd q.1 (by (first | decide +kernel | omega)))).2.2, rfl⟩)⟩⟩
    ·
      refine V_bipush (-3) d_Rod_see_27 (by decide) ?_
      exact V_iret rfl d_Rod_see_29 ⟨(-3), rfl, ⟨hI, f0, (Or.inr (Or.inl ⟨by (first | decide +kernel | omega), by (first | decide +kernel | omega), rfl, tc_m3⟩))⟩⟩
  ·
    refine V_iconst (-1) d_Rod_see_10 (by decide) ?_
    exact V_iret rfl d_Rod_see_11 ⟨(-1), rfl, ⟨hI, f0, (Or.inr (Or.inr ⟨by (first | decide +kernel | omega), rfl, tc_m1⟩))⟩⟩
def S_Mod_seeX : List (Nat × Option Nat) := [(117, none)]
abbrev q_Mod_seeX (h : Hp) (c : Int32) (cZ : Int) (o : Int32) (oZ : Int) (s : Int32) (sZ : Int) (b : Int32) (bZ : Int) (w : Int32) (wZ : Int) (g : Int32) (gZ : Int) (t : Int32) (tZ : Int) : Option Value → Hp → Prop := pInt (fun r h' => Inv h' ∧ fr S_Mod_seeX h h' ∧ ((0 ≤ cZ ∧ cZ < wZ * gZ ∧ 0 ≤ oZ ∧ oZ ≤ 3 ∧ 1 ≤ sZ ∧ sZ ≤ 9) ∧ tZ < 8 ∧ (∃ u x : Int32, u.toInt = tZ + 1 ∧ (bZ ≠ 0 ∧ x.toInt = 1 ∨ bZ = 0 ∧ x.toInt = 0) ∧ h' = pI (pI (pI (pI (pI h 117 (112 + 4 * tZ).toNat c) 117 (112 + 4 * tZ + 1).toNat o) 117 (112 + 4 * tZ + 2).toNat s) 117 (112 + 4 * tZ + 3).toNat x) 117 111 u ∧ r = u) ∨ (0 ≤ cZ ∧ cZ < wZ * gZ ∧ 0 ≤ oZ ∧ oZ ≤ 3 ∧ 1 ≤ sZ ∧ sZ ≤ 9) ∧ 8 ≤ tZ ∧ h' = h ∧ r.toInt = -3 ∨ ¬ (0 ≤ cZ ∧ cZ < wZ * gZ ∧ 0 ≤ oZ ∧ oZ ≤ 3 ∧ 1 ≤ sZ ∧ sZ ≤ 9) ∧ h' = h ∧ r.toInt = -1))
set_option maxRecDepth 100000 in
theorem c_Mod_seeX (h : Hp) (hI : Inv h) (c : Int32) (cZ : Int) (cE : c.toInt = cZ) (o : Int32) (oZ : Int) (oE : o.toInt = oZ) (s : Int32) (sZ : Int) (sE : s.toInt = sZ) (b : Int32) (bZ : Int) (bE : b.toInt = bZ) (w : Int32) (wZ : Int) (wE : w.toInt = wZ) (wK : h.1 116 2 = w) (g : Int32) (gZ : Int) (gE : g.toInt = gZ) (gK : h.1 116 3 = g) (t : Int32) (tZ : Int) (tE : t.toInt = tZ) (tK : h.1 117 111 = t) : Ct y_Mod_see b_Mod_see 6 (some .int) 3 69 [.ref 116, .int c, .int o, .int s, .int b] h (q_Mod_seeX h c cZ o oZ s sZ b bZ w wZ g gZ t tZ) := by
  refine ct_ow R_Mod [some (.ref 116), some (.int c), some (.int o), some (.int s), some (.int b), none] rfl (by decide) rfl (Nat.le_of_ble_eq_true rfl) ?_
  have f0 : fr S_Mod_seeX h h := fr_rf
  have g1 : 2 ≤ wZ ∧ wZ ≤ 4 := inv_at hI wE wK.symm rfl
  have g2 : 2 ≤ gZ ∧ gZ ≤ 4 := inv_at hI gE gK.symm rfl
  have tB : 0 ≤ tZ ∧ tZ ≤ 8 := inv_at hI tE tK.symm rfl
  refine V_aload_n 0 d_Mod_see_0 rfl rfl ?_
  refine V_iload_n 1 d_Mod_see_1 rfl rfl ?_
  refine V_iload_n 2 d_Mod_see_2 rfl rfl ?_
  refine V_iload_n 3 d_Mod_see_3 rfl rfl ?_
  refine N_callVI [.int c, .int o, .int s] [] cv_Mod_226 sk_116 rfl d_Mod_see_4 rfl (Nat.le_of_ble_eq_true rfl) (by decide) (by decide) (c_Mod_isSeenX h hI c cZ cE o oZ oE s sZ sE w wZ wE wK g gZ gE gK) (fun z3 h4 z3Z z3E p5 => ?_)
  obtain ⟨eh4, p5⟩ := p5
  subst eh4
  refine V_if_ne 12 z3E d_Mod_see_7 (by decide) (fun c6 => ?_) (fun c6 => ?_)
  ·
    refine V_aload_n 0 d_Mod_see_12 rfl rfl ?_
    refine V_getR fa_Mod_7 sk_116 rfl d_Mod_see_13 ?_
    refine V_bipush 111 d_Mod_see_16 (by decide) ?_
    refine N_ialdK sk_117 tc_111 (by (first | decide +kernel | omega)) d_Mod_see_18 tK ?_
    refine V_bipush 8 d_Mod_see_19 (by decide) ?_
    refine V_icmp_ne 27 tE tc_8 d_Mod_see_21 (by decide) (fun c8 => ?_) (fun c8 => ?_)
    ·
      refine V_bipush 112 d_Mod_see_27 (by decide) ?_
      refine V_iconst 4 d_Mod_see_29 (by decide) ?_
      refine V_aload_n 0 d_Mod_see_30 rfl rfl ?_
      refine V_getR fa_Mod_7 sk_116 rfl d_Mod_see_31 ?_
      refine V_bipush 111 d_Mod_see_34 (by decide) ?_
      refine N_ialdK sk_117 tc_111 (by (first | decide +kernel | omega)) d_Mod_see_36 tK ?_
      refine V_imul tc_4 tE (by (first | decide +kernel | omega)) d_Mod_see_37 (fun z10 z10e z10E => ?_)
      refine V_iadd tc_112 z10E (by (first | decide +kernel | omega)) d_Mod_see_38 (fun z11 z11e z11E => ?_)
      refine V_istore 5 [some (.ref 116), some (.int c), some (.int o), some (.int s), some (.int b), some (.int z11)] d_Mod_see_39 (by decide) rfl rfl ?_
      refine V_aload_n 0 d_Mod_see_41 rfl rfl ?_
      refine V_getR fa_Mod_7 sk_116 rfl d_Mod_see_42 ?_
      refine V_iload d_Mod_see_45 rfl ?_
      refine V_iload_n 1 d_Mod_see_47 rfl rfl ?_
      refine N_iast sk_117 z11E (by (first | decide +kernel | omega)) d_Mod_see_48 (fun h12 eh12 => ?_)
      have hI13 : Inv h12 := inv_put hI eh12 (st_c (by (first | decide +kernel | omega))) cE (by (first | decide +kernel | omega))
      have f14 : fr S_Mod_seeX h h12 := fr_put f0 eh12 rfl
      refine V_aload_n 0 d_Mod_see_49 rfl rfl ?_
      refine V_getR fa_Mod_7 sk_116 rfl d_Mod_see_50 ?_
      refine V_iload d_Mod_see_53 rfl ?_
      refine V_iconst 1 d_Mod_see_55 (by decide) ?_
      refine V_iadd z11E tc_1 (by (first | decide +kernel | omega)) d_Mod_see_56 (fun z15 z15e z15E => ?_)
      refine V_iload_n 2 d_Mod_see_57 rfl rfl ?_
      refine N_iast sk_117 z15E (by (first | decide +kernel | omega)) d_Mod_see_58 (fun h16 eh16 => ?_)
      have hI17 : Inv h16 := inv_full hI13 eh16 (st_d (by (first | decide +kernel | omega)))
      have f18 : fr S_Mod_seeX h h16 := fr_put f14 eh16 rfl
      refine V_aload_n 0 d_Mod_see_59 rfl rfl ?_
      refine V_getR fa_Mod_7 sk_116 rfl d_Mod_see_60 ?_
      refine V_iload d_Mod_see_63 rfl ?_
      refine V_iconst 2 d_Mod_see_65 (by decide) ?_
      refine V_iadd z11E tc_2 (by (first | decide +kernel | omega)) d_Mod_see_66 (fun z19 z19e z19E => ?_)
      refine V_iload_n 3 d_Mod_see_67 rfl rfl ?_
      refine N_iast sk_117 z19E (by (first | decide +kernel | omega)) d_Mod_see_68 (fun h20 eh20 => ?_)
      have hI21 : Inv h20 := inv_full hI17 eh20 (st_d (by (first | decide +kernel | omega)))
      have f22 : fr S_Mod_seeX h h20 := fr_put f18 eh20 rfl
      refine V_aload_n 0 d_Mod_see_69 rfl rfl ?_
      refine V_getR fa_Mod_7 sk_116 rfl d_Mod_see_70 ?_
      refine V_iload d_Mod_see_73 rfl ?_
      refine V_iconst 3 d_Mod_see_75 (by decide) ?_
      refine V_iadd z11E tc_3 (by (first | decide +kernel | omega)) d_Mod_see_76 (fun z23 z23e z23E => ?_)
      refine V_iload d_Mod_see_77 rfl ?_
      refine N_callSI [.int b] [.int z23, .ref 117] cs_Mod_196 d_Mod_see_79 rfl (Nat.le_of_ble_eq_true rfl) (by decide) (by decide) (c_Mod_flag h20 b bZ bE) (fun z24 h25 z24Z z24E p26 => ?_)
      obtain ⟨eh25, p26⟩ := p26
      subst eh25
      refine N_iast sk_117 z23E (by (first | decide +kernel | omega)) d_Mod_see_82 (fun h27 eh27 => ?_)
      have hI28 : Inv h27 := inv_full hI21 eh27 (st_d (by (first | decide +kernel | omega)))
      have f29 : fr S_Mod_seeX h h27 := fr_put f22 eh27 rfl
      refine V_aload_n 0 d_Mod_see_83 rfl rfl ?_
      refine V_getR fa_Mod_7 sk_116 rfl d_Mod_see_84 ?_
      refine V_bipush 111 d_Mod_see_87 (by decide) ?_
      refine V_dup2 d_Mod_see_89 rfl rfl ?_
      refine N_ialdK sk_117 tc_111 (by (first | decide +kernel | omega)) d_Mod_see_90 (kn_nei eh27 (kn_nei eh20 (kn_nei eh16 (kn_nei eh12 tK (by (first | decide +kernel | omega))) (by (first | decide +kernel | omega))) (by (first | decide +kernel | omega))) (by (first | decide +kernel | omega))) ?_
      refine V_iconst 1 d_Mod_see_91 (by decide) ?_
      refine V_iadd tE tc_1 (by (first | decide +kernel | omega)) d_Mod_see_92 (fun z31 z31e z31E => ?_)
      refine N_iast sk_117 tc_111 (by (first | decide +kernel | omega)) d_Mod_see_93 (fun h32 eh32 => ?_)
      have hI33 : Inv h32 := inv_put (lo := 0) (hi := 8) hI28 eh32 rfl z31E (by (first | decide +kernel | omega))
      have f34 : fr S_Mod_seeX h h32 := fr_put f29 eh32 rfl
      refine V_aload_n 0 d_Mod_see_94 rfl rfl ?_
      refine V_getR fa_Mod_7 sk_116 rfl d_Mod_see_95 ?_
      refine V_bipush 111 d_Mod_see_98 (by decide) ?_
      refine N_ialdK sk_117 tc_111 (by (first | decide +kernel | omega)) d_Mod_see_100 (kn_put eh32) ?_
      exact V_iret rfl d_Mod_see_101 ⟨z31, rfl, ⟨hI33, f34, (Or.inl ⟨by (first | decide +kernel | omega), by (first | decide +kernel | omega), z31, z24, by rw [z31E], p26, (by rw [eh32, eh27, eh20, eh16, eh12] <;> rfl), rfl⟩)⟩⟩
    ·
      refine V_bipush (-3) d_Mod_see_24 (by decide) ?_
      exact V_iret rfl d_Mod_see_26 ⟨(-3), rfl, ⟨hI, f0, (Or.inr (Or.inl ⟨by (first | decide +kernel | omega), by (first | decide +kernel | omega), rfl, tc_m3⟩))⟩⟩
  ·
    refine V_iconst (-1) d_Mod_see_10 (by decide) ?_
    exact V_iret rfl d_Mod_see_11 ⟨(-1), rfl, ⟨hI, f0, (Or.inr (Or.inr ⟨by (first | decide +kernel | omega), rfl, tc_m1⟩))⟩⟩
end
