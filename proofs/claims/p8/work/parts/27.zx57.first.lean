theorem x_TB_0 : x_TB 0 (fun _ => 0) := by
  refine ⟨fun c h0 h1 => ?_, fun i _ => ?_⟩
  · obtain ⟨n, rfl⟩ := Int.eq_ofNat_of_zero_le h0
    rw [x_bt_get 0 (by (first | decide +kernel | omega)), show (0 : Int32).toBitVec.getLsbD n = false from BitVec.getLsbD_zero]
    rfl
  · exact BitVec.getLsbD_zero
def fz (h : Hp) (k : Int) : Prop := ∀ j : Nat, (j : Int) < k → (h.1 119 j).toInt = 0
def fy (h : Hp) (k : Int) : Prop := ∀ j : Nat, j < 144 → (h.1 119 j).toInt = if 32 ≤ (j : Int) ∧ (j : Int) < 32 + k then 5 else if 48 ≤ (j : Int) ∧ (j : Int) < 48 + k then -4 else 0
def fd (h : Hp) : Prop := ∀ j : Nat, j < 144 → (h.1 119 j).toInt = x_D0 j
def fh (h : Hp) (k : Int) : Prop := ∀ j : Nat, (j : Int) < k → h.1 120 j = 0
theorem fz_0 {h : Hp} : fz h 0 := fun j hj => by (first | decide +kernel | omega)
theorem fz_s {h h' : Hp} {k : Int} {x : Int32} (r : fz h k) (h0 : 0 ≤ k) (e : h' = pI h 119 k.toNat x) (hx : x.toInt = 0) : fz h' (k + 1) := fun j hj => by
  by_cases q : j = k.toNat
  · rw [q, kn_put e]; exact hx
  · rw [kn_nei e rfl q]; exact r j (by (first | decide +kernel | omega))
theorem fy_0 {h : Hp} {k : Int} (r : fz h k) (hk : 144 ≤ k) : fy h 0 := fun j hj => by
  rw [if_neg (by (first | decide +kernel | omega)), if_neg (by (first | decide +kernel | omega))]
  exact r j (by (first | decide +kernel | omega))
theorem fy_s {h h1 h2 : Hp} {k : Int} {x y : Int32} (r : fy h k) (h0 : 0 ≤ k ∧ k < 16) (e : h1 = pI h 119 (32 + k).toNat x) (e2 : h2 = pI h1 119 (48 + k).toNat y) (hx : x.toInt = 5) (hy : y.toInt = -4) : fy h2 (k + 1) := fun j hj => by
  by_cases q : j = (48 + k).toNat
  · rw [q, kn_put e2, if_neg (by (first | decide +kernel | omega)), if_pos (by (first | decide +kernel | omega))]; exact hy
  · rw [kn_nei e2 rfl q]
    by_cases q2 : j = (32 + k).toNat
    · rw [q2, kn_put e, if_pos (by (first | decide +kernel | omega))]; exact hx
    · rw [kn_nei e rfl q2, r j hj]
      by_cases c1 : 32 ≤ (j : Int) ∧ (j : Int) < 32 + k
      · rw [if_pos c1, if_pos (by (first | decide +kernel | omega))]
      · rw [if_neg c1, if_neg (show ¬ (32 ≤ (j : Int) ∧ (j : Int) < 32 + (k + 1)) by (first | decide +kernel | omega))]
        by_cases c2 : 48 ≤ (j : Int) ∧ (j : Int) < 48 + k
        · rw [if_pos c2, if_pos (by (first | decide +kernel | omega))]
        · rw [if_neg c2, if_neg (by (first | decide +kernel | omega))]
theorem fd_85 {h h' : Hp} {k : Int} {x : Int32} (r : fy h k) (hk : k = 16) (e : h' = pI h 119 85 x) (hx : x.toInt = 9) : fd h' := fun j hj => by
  subst hk
  unfold x_D0
  by_cases q : j = 85
  · subst q
    rw [kn_put e, if_neg (by (first | decide +kernel | omega)), if_neg (by (first | decide +kernel | omega)), if_pos rfl]
    exact hx
  · rw [kn_nei e rfl q, r j hj]
    by_cases c1 : 32 ≤ j ∧ j < 48
    · rw [if_pos c1, if_pos (by (first | decide +kernel | omega))]
    · rw [if_neg c1, if_neg (by (first | decide +kernel | omega))]
      by_cases c2 : 48 ≤ j ∧ j < 64
      · rw [if_pos c2, if_pos (by (first | decide +kernel | omega))]
      · rw [if_neg c2, if_neg (by (first | decide +kernel | omega)), if_neg q, if_neg (by (first | decide +kernel | omega)), if_neg (by (first | decide +kernel | omega)), if_neg (by (first | decide +kernel | omega))]
theorem fd_ne {h h' : Hp} {k i : Nat} {x : Int32} (r : fd h) (e : h' = pI h k i x) (hk : 119 ≠ k) : fd h' := fun j hj => by rw [kn_ne e rfl hk]; exact r j hj
theorem fh_0 {h : Hp} : fh h 0 := fun j hj => by (first | decide +kernel | omega)
theorem fh_s {h h' : Hp} {k : Int} {x : Int32} (r : fh h k) (h0 : 0 ≤ k) (e : h' = pI h 120 k.toNat x) (hx : x = 0) : fh h' (k + 1) := fun j hj => by
  by_cases q : j = k.toNat
  · rw [q, kn_put e]; exact hx
  · rw [kn_nei e rfl q]; exact r j (by (first | decide +kernel | omega))
theorem fh_ne {h h' : Hp} {k i : Nat} {x : Int32} {n : Int} (r : fh h n) (e : h' = pI h k i x) (hk : 120 ≠ k) : fh h' n := fun j hj => by rw [kn_ne e rfl hk]; exact r j hj
theorem x_told_0 (c : Int) : x_told x_T0 c = 0 := by
  unfold x_told x_T0
  repeat' split
  all_goals rfl
theorem x_HI_0 : x_HI (-4) x_T0 := ⟨Or.inl rfl, fun l c _ _ _ _ h => absurd rfl h⟩
theorem RM_first {h : Hp} {k : Int} (r : fd h) (g : fh h k) (hk : 6 ≤ k) (e7 : h.1 116 7 = 3) (e8 : h.1 116 8 = 3) (e9 : h.1 116 9 = 1) (e10 : h.1 116 10 = 10) (e11 : h.1 116 11 = 0) (e13 : h.1 116 13 = -4) : RM h x_T0 x_D0 := by
  refine ⟨fun l h1 h2 => ?_, ?_, ?_, fun k i d hd => ?_⟩
  · rw [g (l - 1) (by (first | decide +kernel | omega))]; exact x_TB_0
  · unfold RMb; rw [e11]; exact x_TB_cg x_told_0 x_TB_0
  · rw [e13]; exact x_HI_0
  · rcases hd with ⟨rfl, h1, rfl⟩ | ⟨rfl, h1, h2, rfl⟩
    · exact r d h1
    · rcases (by (first | decide +kernel | omega) : i = 7 ∨ i = 8 ∨ i = 9 ∨ i = 10) with rfl | rfl | rfl | rfl
      · rw [e7]; rfl
      · rw [e8]; rfl
      · rw [e9]; rfl
      · rw [e10]; rfl
/-- the reference's county is D -/
def MC (h : Hp) (D : Nat → Int) : Prop := (∀ j : Nat, j < 144 → (h.1 117 j).toInt = D j) ∧ (h.1 116 2).toInt = D 144 ∧ (h.1 116 3).toInt = D 145 ∧ (h.1 116 4).toInt = D 146 ∧ (h.1 116 5).toInt = D 147
def ky (h : Hp) (D : Nat → Int) (k : Int) : Prop := ∀ j : Nat, (j : Int) < k → (h.1 117 j).toInt = D j
def kq (h : Hp) (D : Nat → Int) : Prop := ∀ j : Nat, j < 144 → (h.1 119 j).toInt = D j
theorem ky_0 {h : Hp} {D : Nat → Int} : ky h D 0 := fun j hj => by (first | decide +kernel | omega)
theorem ky_s {h h' : Hp} {D : Nat → Int} {k : Int} {y : Int32} (r : ky h D k) (g : kq h D) (h0 : 0 ≤ k ∧ k < 144) (e : h' = pI h 117 k.toNat y) (ey : y = h.1 119 k.toNat) : ky h' D (k + 1) := fun j hj => by
  by_cases q : j = k.toNat
  · rw [q, kn_put e, ey]; exact g k.toNat (by (first | decide +kernel | omega))
  · rw [kn_nei e rfl q]; exact r j (by (first | decide +kernel | omega))
theorem kq_ne {h h' : Hp} {D : Nat → Int} {k i : Nat} {x : Int32} (r : kq h D) (e : h' = pI h k i x) (hk : 119 ≠ k) : kq h' D := fun j hj => by rw [kn_ne e rfl hk]; exact r j hj
theorem ky_ne {h h' : Hp} {D : Nat → Int} {n : Int} {k i : Nat} {x : Int32} (r : ky h D n) (e : h' = pI h k i x) (hk : 117 ≠ k) : ky h' D n := fun j hj => by rw [kn_ne e rfl hk]; exact r j hj
/-- the reference's loop over lines: m lines were counted; the TOKEN that stands is that of cells f k v q; u y: FAULT and place -/
def x_lx (b : Int → Int) (s p f k v q : Int) : Prop := f = x_fr b p ∧ k = x_kd b p ∧ k ≠ 4 ∧ 0 ≤ k ∧ k ≤ 3 ∧ q = x_en b p ∧ (k ≠ 2 ∨ v = x_vl b p ∧ 0 ≤ v ∧ v ≤ 99) ∧ p ≤ f ∧ f ≤ q ∧ q ≤ s ∧ (k = 0 ∨ f < q)
def MI (b : Int → Int) (h : Hp) (s m q f k v u y : Int) : Prop := (u = 0 ∧ ∃ n : Nat, m = n ∧ x_ok b n ∧ RM h (x_st b n).1 (x_st b n).2.1 ∧ x_lx b s (x_st b n).2.2 f k v q) ∨ (u ≠ 0 ∧ ∃ n : Nat, x_ok b n ∧ x_kd b (x_st b n).2.2 ≠ 0 ∧ x_lk b n = (u, y))
theorem MI_live {b : Int → Int} {h : Hp} {s m q f k v u y : Int} (r : MI b h s m q f k v u y) (hu : u = 0) : ∃ n : Nat, m = n ∧ x_ok b n ∧ RM h (x_st b n).1 (x_st b n).2.1 ∧ x_lx b s (x_st b n).2.2 f k v q := by
  rcases r with r | r
  · exact r.2
  · exact absurd hu r.1
theorem MI_dead {b : Int → Int} {h : Hp} {s m q f k v u y : Int} (r : MI b h s m q f k v u y) (hu : u ≠ 0) : ∃ n : Nat, x_ok b n ∧ x_kd b (x_st b n).2.2 ≠ 0 ∧ x_lk b n = (u, y) := by
  rcases r with r | r
  · exact absurd r.1 hu
  · exact r.2
theorem MI_of {b : Int → Int} {h : Hp} {s m q f k v u y p : Int} {n : Nat} (hk : x_ok b n) (hp : p = (x_st b n).2.2) (hm : m = n) (hR : RM h (x_st b n).1 (x_st b n).2.1) (r : u = 1 ∧ x_kd b p = 4 ∧ y = x_fr b p ∨ u = 0 ∧ x_lx b s p f k v q) : MI b h s m q f k v u y := by
  subst hp
  rcases r with ⟨h1, h2, h3⟩ | ⟨h1, h2⟩
  · refine Or.inr ⟨by (first | decide +kernel | omega), n, hk, by (first | decide +kernel | omega), ?_⟩
    have hH : x_cH b (x_st b n).1 ((x_st b n).2.1 86) (x_st b n).2.2 = 1 := if_pos h2
    unfold x_lk
    rw [x_line_H (by rw [hH]; decide), hH, h1, h3]
  · exact Or.inl ⟨h1, n, hm, hk, hR, h2⟩
theorem MI_step {b : Int → Int} {h : Hp} {s m q f k v u y p : Int} {n : Nat} (hk : x_ok b n) (hd : x_kd b (x_st b n).2.2 ≠ 0) (hm : m = n + 1) (r : u ≠ 0 ∧ x_line b (x_st b n).1 ((x_st b n).2.1 86) (x_st b n).2.2 = (u, y) ∨ ∃ e : Int, x_line b (x_st b n).1 ((x_st b n).2.1 86) (x_st b n).2.2 = (0, e) ∧ p < e ∧ e ≤ s ∧ RM h (x_T b (x_st b n).1 (x_st b n).2.2) (x_D b (x_st b n).2.1 (x_st b n).2.2) ∧ (u = 1 ∧ x_kd b e = 4 ∧ y = x_fr b e ∨ u = 0 ∧ x_lx b s e f k v q)) : MI b h s m q f k v u y := by
  rcases r with ⟨h1, h2⟩ | ⟨e, h1, h2, h3, h4, h5⟩
  · exact Or.inr ⟨h1, n, hk, hd, h2⟩
  · have h6 : (x_lk b n).1 = 0 := by unfold x_lk; rw [h1]
    have h7 : e = (x_st b (n + 1)).2.2 := by show e = (x_line b (x_st b n).1 ((x_st b n).2.1 86) (x_st b n).2.2).2; rw [h1]
    exact MI_of (x_ok_s hk hd h6) h7 (by (first | decide +kernel | omega)) h4 h5
def ms (u p : Int) : Int := if u = 0 then 161 - p else 0
theorem ms_or (u p : Int) : u = 0 ∧ ms u p = 161 - p ∨ u ≠ 0 ∧ ms u p = 0 := by
  unfold ms
  split
  · next h => exact Or.inl ⟨h, rfl⟩
  · next h => exact Or.inr ⟨h, rfl⟩
theorem kd_0 {b : Int → Int} {p : Int} (h : x_kd b p = 0) : b (x_fr b p) < 0 := by
  unfold x_kd at h
  split at h
  · next q => exact q
  · split at h
    · omega
    · split at h
      · split at h <;> omega
      · split at h <;> omega
theorem RM_fld {h : Hp} {T : Nat → Int → Int} {D : Nat → Int} (r : RM h T D) {i d : Nat} {x : Int32} {X : Int} (e : h.1 116 i = x) (p : x.toInt = X) (hd : 7 ≤ i ∧ i ≤ 10 ∧ d = 137 + i) : X = D d := by
  have := r.2.2.2 116 i d (Or.inr ⟨rfl, hd⟩)
  rw [e, p] at this
  exact this
/-- what the county is behind a text -/
def MK (h h' : Hp) (u : Int) (D : Nat → Int) : Prop := u = 0 ∧ MC h' D ∧ h'.1 118 0 = 0 ∧ h'.1 118 1 = 0 ∨ u ≠ 0 ∧ ∀ k i : Nat, (k = 117 ∨ k = 118 ∨ k = 116 ∧ 2 ≤ i ∧ i ≤ 5) → h'.1 k i = h.1 k i
theorem RM_kq {h : Hp} {T : Nat → Int → Int} {D : Nat → Int} (r : RM h T D) : kq h D := fun j hj => r.2.2.2 119 j j (Or.inl ⟨rfl, hj, rfl⟩)
/-- the reference's county is as it was -/
def SM (h h' : Hp) : Prop := ∀ k i : Nat, (k = 117 ∨ k = 118 ∨ k = 116 ∧ 2 ≤ i ∧ i ≤ 5) → h'.1 k i = h.1 k i
def smS (S : List (Nat × Option Nat)) : Bool := S.all (fun q => decide (q.1 ≠ 117 ∧ q.1 ≠ 118) && (decide (q.1 ≠ 116) || (match q.2 with | none => false | some j => decide (j < 2 ∨ 5 < j))))
theorem smS_no {S : List (Nat × Option Nat)} (hc : smS S = true) {k i : Nat} (hk : k = 117 ∨ k = 118 ∨ k = 116 ∧ 2 ≤ i ∧ i ≤ 5) : inS S k i = false := by
  unfold inS
  rw [List.any_eq_false]
  intro q hq e
  have h1 := List.all_eq_true.mp hc q hq
  rw [Bool.and_eq_true, Bool.or_eq_true] at h1
  rw [Bool.and_eq_true] at e
  have e2 : q.1 = k := eq_of_beq e.1
  have h2 := of_decide_eq_true h1.1
  rcases hk with rfl | rfl | hk
  · omega
  · omega
  · rcases h1.2 with h3 | h3
    · have := of_decide_eq_true h3; omega
    · have e3 := e.2
      cases hz : q.2 with
      | none => rw [hz] at h3; cases h3
      | some j =>
        rw [hz] at h3 e3
        have h4 := of_decide_eq_true h3
        have h5 : j = i := eq_of_beq e3
        omega
theorem SM_rf {h : Hp} : SM h h := fun _ _ _ => rfl
theorem SM_fr {S : List (Nat × Option Nat)} {h h1 h2 : Hp} (f : fr S h1 h2) (hc : smS S = true) (r : SM h h1) : SM h h2 := fun k i hk => (f.1 k i (smS_no hc hk)).trans (r k i hk)
theorem SM_ne {h h1 h2 : Hp} {k i : Nat} {x : Int32} (e : h2 = pI h1 k i x) (hk : ¬ (k = 117 ∨ k = 118 ∨ k = 116 ∧ 2 ≤ i ∧ i ≤ 5)) (r : SM h h1) : SM h h2 := fun k' i' h3 => by
  refine Eq.trans ?_ (r k' i' h3)
  by_cases c : k' = k
  · subst c
    exact kn_nei e rfl (fun c2 => by subst c2; exact hk h3)
  · exact kn_ne e rfl c
theorem rl_pos {b : Int → Int} {h : Hp} {s q f k v u y p : Int} {A : Prop} {B : Int → Prop} {C : Int → Prop} (r : u ≠ 0 ∧ A ∨ ∃ e : Int, B e ∧ p < e ∧ e ≤ s ∧ C e ∧ (u = 1 ∧ x_kd b e = 4 ∧ y = x_fr b e ∨ u = 0 ∧ x_lx b s e f k v q)) : u ≠ 0 ∨ p < q := by
  rcases r with ⟨h1, _⟩ | ⟨e, _, h2, _, _, h5⟩
  · exact Or.inl h1
  · rcases h5 with ⟨h6, _⟩ | ⟨_, h7⟩
    · exact Or.inl (by (first | decide +kernel | omega))
    · unfold x_lx at h7
      exact Or.inr (by (first | decide +kernel | omega))
