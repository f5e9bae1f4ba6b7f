def x_T0 : Nat → Int → Int := fun _ _ => 0
def x_D0 : Nat → Int := fun i => if 32 ≤ i ∧ i < 48 then 5 else if 48 ≤ i ∧ i < 64 then -4 else if i = 85 then 9 else if i = 144 ∨ i = 145 then 3 else if i = 146 then 1 else if i = 147 then 10 else 0
/-- what was told, the draft, and the place, behind k lines -/
def x_st (b : Int → Int) : Nat → (Nat → Int → Int) × (Nat → Int) × Int
  | 0 => (x_T0, x_D0, 0)
  | k + 1 => (x_T b (x_st b k).1 (x_st b k).2.2, x_D b (x_st b k).2.1 (x_st b k).2.2, (x_line b (x_st b k).1 ((x_st b k).2.1 86) (x_st b k).2.2).2)
def x_lk (b : Int → Int) (k : Nat) : Int × Int := x_line b (x_st b k).1 ((x_st b k).2.1 86) (x_st b k).2.2
def x_ok (b : Int → Int) (k : Nat) : Prop := ∀ j : Nat, j < k → x_kd b (x_st b j).2.2 ≠ 0 ∧ (x_lk b j).1 = 0
def x_end (b : Int → Int) (k : Nat) : Prop := x_ok b k ∧ (x_kd b (x_st b k).2.2 = 0 ∨ (x_lk b k).1 ≠ 0)
theorem x_ok_0 (b : Int → Int) : x_ok b 0 := fun j hj => absurd hj (Nat.not_lt_zero j)
theorem x_ok_s {b : Int → Int} {k : Nat} (h : x_ok b k) (h1 : x_kd b (x_st b k).2.2 ≠ 0) (h2 : (x_lk b k).1 = 0) : x_ok b (k + 1) := fun j hj => by
  by_cases q : j = k
  · subst q; exact ⟨h1, h2⟩
  · exact h j (by (first | decide +kernel | omega))
theorem x_end_un {b : Int → Int} {j k : Nat} (h : x_end b j) (g : x_end b k) : j = k := by
  by_cases q : j < k
  · have := g.1 j q
    rcases h.2 with w | w
    · exact absurd w this.1
    · exact absurd this.2 w
  · by_cases q2 : k < j
    · have := h.1 k q2
      rcases g.2 with w | w
      · exact absurd w this.1
      · exact absurd this.2 w
    · omega
theorem x_sq_0 {c w : Int} {r : Int × Int} (h : (x_sq c w r).1 = 0) : c = 0 ∧ r.1 = 0 := by
  rcases x_sq_s c w r with q | q
  · exact absurd (q.2.1.symm.trans h) q.1
  · exact ⟨q.1, q.2.1.symm.trans h⟩
def x_good (D : Nat → Int) : Prop := 2 ≤ D 144 ∧ D 144 ≤ 4 ∧ 2 ≤ D 145 ∧ D 145 ≤ 4 ∧ 0 ≤ D 86 ∧ D 86 ≤ 8
theorem x_up_n {D : Nat → Int} {k v : Int} {i : Nat} (h : (i : Int) ≠ k) : x_up D k v i = D i := if_neg h
theorem x_up_y {D : Nat → Int} {k v : Int} {i : Nat} (h : (i : Int) = k) : x_up D k v i = v := if_pos h
theorem x_good_up {D : Nat → Int} {k v : Int} (g : x_good D) (h : 0 ≤ k ∧ k < 144 ∧ k ≠ 86 ∨ k = 146 ∨ k = 147) : x_good (x_up D k v) := by
  unfold x_good
  rw [x_up_n (show ((144 : Nat) : Int) ≠ k by (first | decide +kernel | omega)), x_up_n (show ((145 : Nat) : Int) ≠ k by (first | decide +kernel | omega)), x_up_n (show ((86 : Nat) : Int) ≠ k by (first | decide +kernel | omega))]
  exact g
theorem x_good_0 : x_good x_D0 := by unfold x_good x_D0; decide
theorem x_good_D {b : Int → Int} {T : Nat → Int → Int} {D : Nat → Int} {p : Int} (h : (x_line b T (D 86) p).1 = 0) (g : x_good D) : x_good (x_D b D p) := by
  have hH : x_cH b T (D 86) p = 0 := (x_sq_0 h).1
  have hs := x_cH_s b T (D 86) p
  have hb := x_ln_b b (x_fr b p) (x_en b p)
  have hl : x_li b p = 0 ∨ x_li b p = 1 ∨ x_li b p = 2 ∨ x_li b p = 3 ∨ x_li b p = 4 ∨ x_li b p = 5 ∨ x_li b p = 6 ∨ x_li b p = 7 ∨ x_li b p = 8 ∨ x_li b p = 9 := by
    have e : x_li b p = x_ln b (x_fr b p) (x_en b p) := rfl
    have h2 : x_li b p ≠ -1 := by
      rcases hs with q | q | q | q | q | q
      · exact absurd (q.2.symm.trans hH) (by decide)
      · exact absurd (q.2.2.symm.trans hH) (by decide)
      · exact absurd (q.2.2.symm.trans hH) (by decide)
      · exact q.2.1
      · omega
      · exact q.2.1
    omega
  rcases hl with hl | hl | hl | hl | hl | hl | hl | hl | hl | hl
  · rw [x_line_0 rfl hH hl] at h
    rw [x_D_0 D rfl hl]
    unfold x_l0 at h
    have h1 := x_sq_0 h
    have h2 := x_sq_0 h1.2
    have a1 := x_cN_s b (x_en b p) 2 4
    have a2 := x_cN_s b (x_en b (x_en b p)) 2 4
    unfold x_good at g ⊢
    rw [x_up_n (i := 144) (by decide), x_up_y (i := 144) (k := 144) rfl, x_up_y (i := 145) (k := 145) rfl, x_up_n (i := 86) (by decide), x_up_n (i := 86) (by decide)]
    omega
  · rw [x_line_1 rfl hH hl] at h
    rw [x_D_1 D rfl hl]
    unfold x_l1 at h
    have h1 := x_sq_0 h
    have a1 := x_cN_s b (x_en b p) 0 15
    exact x_good_up g (by (first | decide +kernel | omega))
  · rw [x_line_2 rfl hH hl] at h
    rw [x_D_2 D rfl hl]
    unfold x_l2 at h
    have h1 := x_sq_0 h
    have a1 := x_cN_s b (x_en b p) 0 15
    exact x_good_up g (by (first | decide +kernel | omega))
  · rw [x_line_3 rfl hH hl] at h
    rw [x_D_3 D rfl hl]
    unfold x_l3 at h
    have h1 := x_sq_0 h
    have a1 := x_cN_s b (x_en b p) 0 15
    exact x_good_up g (by (first | decide +kernel | omega))
  · rw [x_line_4 rfl hH hl] at h
    rw [x_D_4 D rfl hl]
    unfold x_l4 at h
    have h1 := x_sq_0 h
    have a1 := x_cN_s b (x_en b p) 0 15
    exact x_good_up g (by (first | decide +kernel | omega))
  · rw [x_line_5 rfl hH hl] at h
    rw [x_D_5 D rfl hl]
    unfold x_l5 at h
    have h1 := x_sq_0 h
    have a1 := x_cN_s b (x_en b p) 0 3
    exact x_good_up g (by (first | decide +kernel | omega))
  · rw [x_line_6 rfl hH hl] at h
    rw [x_D_6 D rfl hl]
    exact x_good_up g (by (first | decide +kernel | omega))
  · rw [x_line_7 rfl hH hl] at h
    rw [x_D_7 D rfl hl]
    exact x_good_up g (by (first | decide +kernel | omega))
  · rw [x_line_8 rfl hH hl] at h
    rw [x_D_8 D rfl hl]
    exact x_good_up (x_good_up g (by (first | decide +kernel | omega))) (by (first | decide +kernel | omega))
  · rw [x_line_9 rfl hH hl] at h
    rw [x_D_9 D rfl hl]
    have hm : D 86 < 8 := by
      rcases hs with q | q | q | q | q | q
      · exact absurd (q.2.symm.trans hH) (by decide)
      · exact absurd (q.2.2.symm.trans hH) (by decide)
      · exact absurd (q.2.2.symm.trans hH) (by decide)
      · exact absurd (q.2.2.2.symm.trans hH) (by decide)
      · exact absurd (q.2.2.2.symm.trans hH) (by decide)
      · omega
    have g1 := x_good_up (v := x_vl b (x_en b (x_en b (x_en b p)))) (x_good_up (v := x_vl b (x_en b (x_en b p))) (x_good_up (k := 87 + 3 * D 86) (v := x_vl b (x_en b p)) g (by unfold x_good at g; omega)) (k := 88 + 3 * D 86) (by unfold x_good at g; omega)) (k := 89 + 3 * D 86) (by unfold x_good at g; omega)
    unfold x_good at g g1 ⊢
    rw [x_up_n (i := 144) (k := 86) (by decide), x_up_n (i := 145) (k := 86) (by decide), x_up_y (i := 86) (k := 86) rfl]
    omega
theorem x_good_k {b : Int → Int} : ∀ k : Nat, x_ok b k → x_good (x_st b k).2.1 := by
  intro k
  induction k with
  | zero => intro _; exact x_good_0
  | succ k ih => intro h; exact x_good_D (h k (by (first | decide +kernel | omega))).2 (ih (fun j hj => h j (by (first | decide +kernel | omega))))
/-- a CELL was told of that the county has not -/
def x_by (T : Nat → Int → Int) (W : Int) : Prop := ∃ (l : Nat) (c : Int), 1 ≤ l ∧ l ≤ 4 ∧ 0 ≤ c ∧ c ≤ 15 ∧ T l c ≠ 0 ∧ W ≤ c
def x_bey (b : Int → Int) (k : Nat) : Prop := x_by (x_st b k).1 ((x_st b k).2.1 144 * (x_st b k).2.1 145)
theorem x_HI_by {H W : Int} {T : Nat → Int → Int} (r : x_HI H T) (hW : 0 < W) : H < W ∧ ¬ x_by T W ∨ W ≤ H ∧ x_by T W := by
  by_cases q : H < W
  · refine Or.inl ⟨q, fun w => ?_⟩
    obtain ⟨l, c, h1, h2, h3, h4, h5, h6⟩ := w
    have := r.2 l c h1 h2 h3 h4 h5
    omega
  · refine Or.inr ⟨by (first | decide +kernel | omega), ?_⟩
    rcases r.1 with w | ⟨w1, w2, l, w3, w4, w5⟩
    · omega
    · exact ⟨l, H, w3, w4, w1, w2, w5, by (first | decide +kernel | omega)⟩
/-- what a text's answer r and FAULT u must be; s: the tape's length -/
def x_tx (b : Int → Int) (s : Int) (r : Int32) (u : Int) (n : Nat) : Prop := x_end b n ∧ (x_kd b (x_st b n).2.2 = 0 ∧ ¬ x_bey b n ∧ r.toInt = n ∧ u = 0 ∨ x_kd b (x_st b n).2.2 = 0 ∧ x_bey b n ∧ u = 6 ∧ (∃ y : Int32, y.toInt = s ∧ r = -10 - y) ∨ x_kd b (x_st b n).2.2 ≠ 0 ∧ u = (x_lk b n).1 ∧ u ≠ 0 ∧ ∃ y : Int32, y.toInt = (x_lk b n).2 ∧ r = -10 - y)
theorem x_tx_un {b : Int → Int} {s u u' : Int} {r r' : Int32} {n n' : Nat} (h : x_tx b s r u n) (g : x_tx b s r' u' n') : n = n' ∧ r = r' ∧ u = u' := by
  have e := x_end_un h.1 g.1
  subst e
  refine ⟨rfl, ?_⟩
  rcases h.2 with ⟨a1, a2, a3, a4⟩ | ⟨a1, a2, a3, y, a4, a5⟩ | ⟨a1, a2, a3, y, a4, a5⟩
  · rcases g.2 with ⟨b1, b2, b3, b4⟩ | ⟨b1, b2, b3, z, b4, b5⟩ | ⟨b1, b2, b3, z, b4, b5⟩
    · exact ⟨Int32.toInt_inj.mp (a3.trans b3.symm), a4.trans b4.symm⟩
    · exact absurd b2 a2
    · exact absurd a1 b1
  · rcases g.2 with ⟨b1, b2, b3, b4⟩ | ⟨b1, b2, b3, z, b4, b5⟩ | ⟨b1, b2, b3, z, b4, b5⟩
    · exact absurd a2 b2
    · exact ⟨by rw [a5, b5, Int32.toInt_inj.mp (a4.trans b4.symm)], a3.trans b3.symm⟩
    · exact absurd a1 b1
  · rcases g.2 with ⟨b1, b2, b3, b4⟩ | ⟨b1, b2, b3, z, b4, b5⟩ | ⟨b1, b2, b3, z, b4, b5⟩
    · exact absurd b1 a1
    · exact absurd b1 a1
    · exact ⟨by rw [a5, b5, Int32.toInt_inj.mp (a4.trans b4.symm)], a2.trans b2.symm⟩
