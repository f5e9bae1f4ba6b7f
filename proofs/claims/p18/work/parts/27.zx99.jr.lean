/-! between which numbers a text's county lies -/
def xP (i : Nat) : Prop := 16 ≤ i ∧ i < 32 ∨ 64 ≤ i ∧ i < 84 ∨ 89 ≤ i ∧ i < 111 ∧ i % 3 = 2 ∨ i = 111 ∨ i = 146 ∨ i = 147
def xL (i : Nat) : Int := if 146 ≤ i then 1 else 0
def xH (i : Nat) : Int := if i < 32 then 1 else if i < 80 then 0 else if i < 111 then 99 else if i = 111 then 0 else if i = 146 then 9 else 99
def x_R (D : Nat → Int) : Prop := ∀ i : Nat, xP i → xL i ≤ D i ∧ D i ≤ xH i
theorem x_R_up {D : Nat → Int} {k v : Int} (r : x_R D) (hv : ∀ i : Nat, xP i → (i : Int) = k → xL i ≤ v ∧ v ≤ xH i) : x_R (x_up D k v) := fun i hi => by
  unfold x_up
  by_cases q : (i : Int) = k
  · rw [if_pos q]; exact hv i hi q
  · rw [if_neg q]; exact r i hi
theorem x_R_no {D : Nat → Int} {k v : Int} (r : x_R D) (hk : ∀ i : Nat, xP i → (i : Int) ≠ k) : x_R (x_up D k v) := x_R_up r (fun i hi e => absurd e (hk i hi))
theorem x_R0 : x_R x_D0 := fun i hi => by
  unfold xP at hi
  unfold xL xH x_D0
  repeat' split
  all_goals omega
theorem x_R_D {b : Int → Int} {T : Nat → Int → Int} {D : Nat → Int} {p : Int} (h : (x_line b T (D 86) p).1 = 0) (g : x_good D) (w : x_R D) : x_R (x_D b D p) := by
  have hH : x_cH b T (D 86) p = 0 := (x_sq_0 h).1
  have hs := x_cH_s b T (D 86) p
  have hb := x_ln_b b (x_fr b p) (x_en b p)
  have hl : x_li b p = 0 ∨ x_li b p = 1 ∨ x_li b p = 2 ∨ x_li b p = 3 ∨ x_li b p = 4 ∨ x_li b p = 5 ∨ x_li b p = 6 ∨ x_li b p = 7 ∨ x_li b p = 8 ∨ x_li b p = 9 := by
    have e : x_li b p = x_ln b (x_fr b p) (x_en b p) := rfl
    have h2 : x_li b p ≠ -1 := by
      rcases hs with q | q | q | q | q | q
      · exact absurd (q.2.symm.trans hH) (by decide)
      · exact absurd (q.2.2.symm.trans hH) (by decide)
      · exact absurd (q.2.2.symm.trans hH) (by decide)
      · exact q.2.1
      · omega
      · exact q.2.1
    omega
  have h9 : x_li b p = 9 → D 86 < 8 := fun e => by rcases hs with q | q | q | q | q | q <;> omega
  clear hs hb
  rcases hl with hl | hl | hl | hl | hl | hl | hl | hl | hl | hl
  · rw [x_D_0 D rfl hl]
    exact x_R_no (x_R_no w (fun i hi => by unfold xP at hi; omega)) (fun i hi => by unfold xP at hi; omega)
  · rw [x_line_1 rfl hH hl] at h
    rw [x_D_1 D rfl hl]
    unfold x_l1 at h
    have h1 := x_sq_0 h
    have a1 := x_cN_s b (x_en b p) 0 15
    exact x_R_no w (fun i hi => by unfold xP at hi; omega)
  · rw [x_line_2 rfl hH hl] at h
    rw [x_D_2 D rfl hl]
    unfold x_l2 at h
    have h1 := x_sq_0 h
    have a1 := x_cN_s b (x_en b p) 0 15
    refine x_R_up w (fun i hi e => ?_)
    unfold xL xH
    rw [if_neg (by omega), if_pos (by omega)]
    omega
  · rw [x_line_3 rfl hH hl] at h
    rw [x_D_3 D rfl hl]
    unfold x_l3 at h
    have h1 := x_sq_0 h
    have a1 := x_cN_s b (x_en b p) 0 15
    exact x_R_no w (fun i hi => by unfold xP at hi; omega)
  · rw [x_line_4 rfl hH hl] at h
    rw [x_D_4 D rfl hl]
    unfold x_l4 at h
    have h1 := x_sq_0 h
    have a1 := x_cN_s b (x_en b p) 0 15
    exact x_R_no w (fun i hi => by unfold xP at hi; omega)
  · rw [x_line_5 rfl hH hl] at h
    rw [x_D_5 D rfl hl]
    unfold x_l5 at h
    have h1 := x_sq_0 h
    have h2 := x_sq_0 h1.2
    have h3 := x_sq_0 h2.2
    have a1 := x_cN_s b (x_en b p) 0 3
    have a2 := x_cN_s b (x_en b (x_en b p)) 0 99
    refine x_R_up w (fun i hi e => ?_)
    unfold xL xH
    rw [if_neg (by omega), if_neg (by omega), if_neg (by omega), if_pos (by omega)]
    omega
  · rw [x_line_6 rfl hH hl] at h
    rw [x_D_6 D rfl hl]
    unfold x_l6 at h
    have h1 := x_sq_0 h
    have a1 := x_cN_s b (x_en b p) 1 9
    refine x_R_up w (fun i hi e => ?_)
    unfold xL xH
    rw [if_pos (by omega), if_neg (by omega), if_neg (by omega), if_neg (by omega), if_neg (by omega), if_pos (by omega)]
    omega
  · rw [x_line_7 rfl hH hl] at h
    rw [x_D_7 D rfl hl]
    unfold x_l7 at h
    have h1 := x_sq_0 h
    have a1 := x_cN_s b (x_en b p) 1 99
    refine x_R_up w (fun i hi e => ?_)
    unfold xL xH
    rw [if_pos (by omega), if_neg (by omega), if_neg (by omega), if_neg (by omega), if_neg (by omega), if_neg (by omega)]
    omega
  · rw [x_D_8 D rfl hl]
    exact x_R_no (x_R_no w (fun i hi => by unfold xP at hi; omega)) (fun i hi => by unfold xP at hi; omega)
  · rw [x_line_9 rfl hH hl] at h
    rw [x_D_9 D rfl hl]
    unfold x_l9 at h
    unfold x_good at g
    have h1 := x_sq_0 h
    have h2 := x_sq_0 h1.2
    have h3 := x_sq_0 h2.2
    have h4 := x_sq_0 h3.2
    have a1 := x_cN_s b (x_en b (x_en b (x_en b p))) 1 99
    have n8 := h9 hl
    refine x_R_no (x_R_up (x_R_no (x_R_no w (fun i hi => by unfold xP at hi; omega)) (fun i hi => by unfold xP at hi; omega)) (fun i hi e => ?_)) (fun i hi => by unfold xP at hi; omega)
    unfold xP at hi
    unfold xL xH
    rw [if_neg (by omega), if_neg (by omega), if_neg (by omega), if_pos (by omega)]
    omega
theorem x_RK {b : Int → Int} : ∀ k : Nat, x_ok b k → x_R (x_st b k).2.1 := by
  intro k
  induction k with
  | zero => intro _; exact x_R0
  | succ k ih => intro h; exact x_R_D (h k (by omega)).2 (x_good_k k (fun j hj => h j (by omega))) (ih (fun j hj => h j (by omega)))
/-! the same, of the class's county and of images that are kept -/
def RR (h : Hp) (k : Nat) : Prop := (∀ i : Nat, i < 16 → 0 ≤ (h.1 (k + 3) i).toInt ∧ (h.1 (k + 3) i).toInt ≤ 1) ∧ (∀ i : Nat, i < 16 → 0 ≤ (h.1 (k + 6) i).toInt ∧ (h.1 (k + 6) i).toInt ≤ 9) ∧ (∀ i : Nat, i < 4 → 0 ≤ (h.1 (k + 8) i).toInt ∧ (h.1 (k + 8) i).toInt ≤ 999) ∧ (1 ≤ (h.1 (k + 1) 2).toInt ∧ (h.1 (k + 1) 2).toInt ≤ 9) ∧ (1 ≤ (h.1 (k + 1) 3).toInt ∧ (h.1 (k + 1) 3).toInt ≤ 99) ∧ (∀ i : Nat, i < 8 → (i : Int) < (h.1 (k + 7) 4).toInt → 0 ≤ (h.1 (k + 11) i).toInt ∧ (h.1 (k + 11) i).toInt ≤ 99) ∧ ∀ i : Nat, i < 8 → (i : Int) < (h.1 (k + 12) 4).toInt → (0 ≤ (h.1 (k + 16) i).toInt ∧ (h.1 (k + 16) i).toInt ≤ 1) ∧ 0 ≤ (h.1 (k + 15) i).toInt
def JR (h : Hp) : Prop := RR h 0 ∧ (h.1 87 0 ≠ 0 → RR h 34) ∧ (h.1 87 1 ≠ 0 → RR h 51)
def rrC (k i : Nat) : Prop := k = 1 ∧ (i = 2 ∨ i = 3) ∨ (k = 3 ∨ k = 6) ∧ i < 16 ∨ (k = 7 ∨ k = 12) ∧ i = 4 ∨ k = 8 ∧ i < 4 ∨ (k = 11 ∨ k = 15 ∨ k = 16) ∧ i < 8
theorem RR_cp {h h' : Hp} {k k2 : Nat} (e : ∀ k' i : Nat, rrC k' i → h'.1 (k + k') i = h.1 (k2 + k') i) (r : RR h k2) : RR h' k := by
  obtain ⟨r1, r2, r3, r4, r5, r6, r7⟩ := r
  refine ⟨fun i hi => ?_, fun i hi => ?_, fun i hi => ?_, ?_, ?_, fun i hi hc => ?_, fun i hi hc => ?_⟩
  · rw [e 3 i (by unfold rrC; omega)]; exact r1 i hi
  · rw [e 6 i (by unfold rrC; omega)]; exact r2 i hi
  · rw [e 8 i (by unfold rrC; omega)]; exact r3 i hi
  · rw [e 1 2 (by unfold rrC; omega)]; exact r4
  · rw [e 1 3 (by unfold rrC; omega)]; exact r5
  · rw [e 7 4 (by unfold rrC; omega)] at hc
    rw [e 11 i (by unfold rrC; omega)]; exact r6 i hi hc
  · rw [e 12 4 (by unfold rrC; omega)] at hc
    rw [e 16 i (by unfold rrC; omega), e 15 i (by unfold rrC; omega)]; exact r7 i hi hc
theorem rrC_c {k i : Nat} (h : rrC k i) : cpl k i := by unfold rrC at h; unfold cpl; omega
def jrC (k i : Nat) : Prop := rrC k i ∨ (34 ≤ k ∧ k ≤ 67) ∨ k = 87
theorem JR_at {h h' : Hp} (e : ∀ k i : Nat, jrC k i → h'.1 k i = h.1 k i) (r : JR h) : JR h' := by
  obtain ⟨r1, r2, r3⟩ := r
  refine ⟨RR_cp (fun k i w => by rw [Nat.zero_add]; exact e _ _ (Or.inl w)) r1, fun q => ?_, fun q => ?_⟩
  · rw [e 87 0 (Or.inr (Or.inr rfl))] at q
    exact RR_cp (fun k i w => e _ _ (Or.inr (Or.inl (by have := cpl_k (rrC_c w); omega)))) (r2 q)
  · rw [e 87 1 (Or.inr (Or.inr rfl))] at q
    exact RR_cp (fun k i w => e _ _ (Or.inr (Or.inl (by have := cpl_k (rrC_c w); omega)))) (r3 q)
def jrS (S : List (Nat × Option Nat)) : Bool := S.all (fun q => decide ((q.1 = 0 ∨ q.1 = 2 ∨ q.1 = 4 ∨ q.1 = 5 ∨ 16 < q.1 ∧ q.1 < 34 ∨ 67 < q.1) ∧ q.1 ≠ 87))
theorem jrS_no {S : List (Nat × Option Nat)} (hc : jrS S = true) {k i : Nat} (hk : jrC k i) : inS S k i = false := by
  unfold inS
  rw [List.any_eq_false]
  intro q hq e
  have h1 := of_decide_eq_true (List.all_eq_true.mp hc q hq)
  rw [Bool.and_eq_true] at e
  have e2 : q.1 = k := eq_of_beq e.1
  unfold jrC rrC at hk
  omega
theorem JR_fr {S : List (Nat × Option Nat)} {h h' : Hp} (f : fr S h h') (hc : jrS S = true) (r : JR h) : JR h' := JR_at (fun _ _ hk => f.1 _ _ (jrS_no hc hk)) r
theorem JR_rest {h h' : Hp} (c : RR h' 0) (e : ∀ k i : Nat, (34 ≤ k ∧ k ≤ 67) ∨ k = 87 → h'.1 k i = h.1 k i) (r : JR h) : JR h' := by
  obtain ⟨r1, r2, r3⟩ := r
  refine ⟨c, fun q => ?_, fun q => ?_⟩
  · rw [e 87 0 (by omega)] at q
    exact RR_cp (fun k i w => e _ _ (by have := cpl_k (rrC_c w); omega)) (r2 q)
  · rw [e 87 1 (by omega)] at q
    exact RR_cp (fun k i w => e _ _ (by have := cpl_k (rrC_c w); omega)) (r3 q)
theorem JR_put {h h' : Hp} {k i : Nat} {x : Int32} (r : JR h) (hk : k = 3 ∧ 0 ≤ x.toInt ∧ x.toInt ≤ 1 ∨ k = 6 ∧ 0 ≤ x.toInt ∧ x.toInt ≤ 9 ∨ k = 8 ∧ 0 ≤ x.toInt ∧ x.toInt ≤ 999) (e : h' = pI h k i x) : JR h' := by
  have cell : ∀ k' i' : Nat, k' ≠ k → h'.1 k' i' = h.1 k' i' := fun k' i' a => by rw [e, pI_at, if_neg (fun c => a c.1)]
  obtain ⟨r1, r2, r3, r4, r5, r6, r7⟩ := r.1
  refine JR_rest ⟨fun j hj => ?_, fun j hj => ?_, fun j hj => ?_, ?_, ?_, fun j hj hc => ?_, fun j hj hc => ?_⟩ (fun k' i' w => cell k' i' (by omega)) r
  · rw [Nat.zero_add, e, pI_at]
    by_cases q : 3 = k ∧ j = i
    · rw [if_pos q]; omega
    · rw [if_neg q]; exact r1 j hj
  · rw [Nat.zero_add, e, pI_at]
    by_cases q : 6 = k ∧ j = i
    · rw [if_pos q]; omega
    · rw [if_neg q]; exact r2 j hj
  · rw [Nat.zero_add, e, pI_at]
    by_cases q : 8 = k ∧ j = i
    · rw [if_pos q]; omega
    · rw [if_neg q]; exact r3 j hj
  · rw [cell _ _ (by omega)]; exact r4
  · rw [cell _ _ (by omega)]; exact r5
  · rw [cell _ _ (by omega)] at hc ⊢; exact r6 j hj hc
  · rw [cell _ _ (by omega)] at hc; rw [cell (0 + 16) _ (by omega), cell (0 + 15) _ (by omega)]; exact r7 j hj hc
theorem JR_Er {h h' : Hp} {k i : Nat} {G : Prop} {V : Int32 → Prop} {r : Int32} (rr : JR h) (f : Er h h' k i G V r) (hk : G → ∀ x : Int32, V x → k = 3 ∧ 0 ≤ x.toInt ∧ x.toInt ≤ 1 ∨ k = 6 ∧ 0 ≤ x.toInt ∧ x.toInt ≤ 9 ∨ k = 8 ∧ 0 ≤ x.toInt ∧ x.toInt ≤ 999) : JR h' := by
  rcases f with ⟨g, x, v, e, _⟩ | ⟨_, e, _⟩
  · exact JR_put rr (hk g x v) e
  · rw [e]; exact rr
theorem JR_pay {h h' : Hp} {G : Prop} {n r : Int32} (rr : JR h) (f : Ew h h' G (pI h 7 4 n) (h.1 7 4) r) (hn : G → n.toInt ≤ (h.1 7 4).toInt) : JR h' := by
  rcases f with ⟨g, e, _⟩ | ⟨_, e, _⟩
  · have cell : ∀ k' i' : Nat, ¬ (k' = 7 ∧ i' = 4) → h'.1 k' i' = h.1 k' i' := fun k' i' a => by rw [e, pI_at, if_neg a]
    obtain ⟨r1, r2, r3, r4, r5, r6, r7⟩ := rr.1
    refine JR_rest ⟨fun j hj => ?_, fun j hj => ?_, fun j hj => ?_, ?_, ?_, fun j hj hc => ?_, fun j hj hc => ?_⟩ (fun k' i' w => cell k' i' (by omega)) rr
    · rw [cell _ _ (by omega)]; exact r1 j hj
    · rw [cell _ _ (by omega)]; exact r2 j hj
    · rw [cell _ _ (by omega)]; exact r3 j hj
    · rw [cell _ _ (by omega)]; exact r4
    · rw [cell _ _ (by omega)]; exact r5
    · rw [Nat.zero_add, e, pI_at, if_pos ⟨rfl, rfl⟩] at hc
      rw [cell _ _ (by omega)]
      exact r6 j hj (by rw [Nat.zero_add]; have := hn g; omega)
    · rw [cell _ _ (by omega)] at hc; rw [cell (0 + 16) _ (by omega), cell (0 + 15) _ (by omega)]; exact r7 j hj hc
  · rw [e]; exact rr
theorem JR_forget {h h' : Hp} {G : Prop} {n r : Int32} (rr : JR h) (f : Ew h h' G (pI h 12 4 n) (h.1 12 4) r) (hn : G → n.toInt ≤ (h.1 12 4).toInt) : JR h' := by
  rcases f with ⟨g, e, _⟩ | ⟨_, e, _⟩
  · have cell : ∀ k' i' : Nat, ¬ (k' = 12 ∧ i' = 4) → h'.1 k' i' = h.1 k' i' := fun k' i' a => by rw [e, pI_at, if_neg a]
    obtain ⟨r1, r2, r3, r4, r5, r6, r7⟩ := rr.1
    refine JR_rest ⟨fun j hj => ?_, fun j hj => ?_, fun j hj => ?_, ?_, ?_, fun j hj hc => ?_, fun j hj hc => ?_⟩ (fun k' i' w => cell k' i' (by omega)) rr
    · rw [cell _ _ (by omega)]; exact r1 j hj
    · rw [cell _ _ (by omega)]; exact r2 j hj
    · rw [cell _ _ (by omega)]; exact r3 j hj
    · rw [cell _ _ (by omega)]; exact r4
    · rw [cell _ _ (by omega)]; exact r5
    · rw [cell _ _ (by omega)] at hc ⊢; exact r6 j hj hc
    · rw [Nat.zero_add, e, pI_at, if_pos ⟨rfl, rfl⟩] at hc
      rw [cell (0 + 16) _ (by omega), cell (0 + 15) _ (by omega)]
      exact r7 j hj (by rw [Nat.zero_add]; have := hn g; omega)
  · rw [e]; exact rr
theorem JR_owe {h h' : Hp} {G : Prop} {a b v r : Int32} {t : Int} (rr : JR h) (ht : (h.1 7 4).toInt = t) (f : G ∧ t < 8 ∧ (∃ u : Int32, u.toInt = t + 1 ∧ h' = pI (pI (pI (pI h 9 t.toNat a) 10 t.toNat b) 11 t.toNat v) 7 4 u ∧ r = u) ∨ G ∧ 8 ≤ t ∧ h' = h ∧ r.toInt = -3 ∨ ¬ G ∧ h' = h ∧ r.toInt = -1) (hv : G → 0 ≤ v.toInt ∧ v.toInt ≤ 99) (h0 : 0 ≤ t) : JR h' := by
  rcases f with ⟨g, l, u, hu, e, _⟩ | ⟨_, _, e, _⟩ | ⟨_, e, _⟩
  · have cell : ∀ k' i' : Nat, k' ≠ 7 ∧ k' ≠ 9 ∧ k' ≠ 10 ∧ k' ≠ 11 → h'.1 k' i' = h.1 k' i' := fun k' i' a => by rw [e, pI_at, if_neg (by omega), pI_at, if_neg (by omega), pI_at, if_neg (by omega), pI_at, if_neg (by omega)]
    obtain ⟨r1, r2, r3, r4, r5, r6, r7⟩ := rr.1
    refine JR_rest ⟨fun j hj => ?_, fun j hj => ?_, fun j hj => ?_, ?_, ?_, fun j hj hc => ?_, fun j hj hc => ?_⟩ (fun k' i' w => cell k' i' (by omega)) rr
    · rw [cell _ _ (by omega)]; exact r1 j hj
    · rw [cell _ _ (by omega)]; exact r2 j hj
    · rw [cell _ _ (by omega)]; exact r3 j hj
    · rw [cell _ _ (by omega)]; exact r4
    · rw [cell _ _ (by omega)]; exact r5
    · rw [Nat.zero_add, e, pI_at, if_pos ⟨rfl, rfl⟩] at hc
      rw [Nat.zero_add, e, pI_at, if_neg (by omega), pI_at]
      by_cases q : 11 = 11 ∧ j = t.toNat
      · rw [if_pos q]; exact hv g
      · rw [if_neg q, pI_at, if_neg (by omega), pI_at, if_neg (by omega)]
        exact r6 j hj (by rw [Nat.zero_add]; omega)
    · rw [cell _ _ (by omega)] at hc; rw [cell (0 + 16) _ (by omega), cell (0 + 15) _ (by omega)]; exact r7 j hj hc
  · rw [e]; exact rr
  · rw [e]; exact rr
theorem JR_see {h h' : Hp} {G : Prop} {a b v r : Int32} {t z : Int} (rr : JR h) (ht : (h.1 12 4).toInt = t) (f : G ∧ t < 8 ∧ (∃ u x : Int32, u.toInt = t + 1 ∧ (z ≠ 0 ∧ x.toInt = 1 ∨ z = 0 ∧ x.toInt = 0) ∧ h' = pI (pI (pI (pI (pI h 13 t.toNat a) 14 t.toNat b) 15 t.toNat v) 16 t.toNat x) 12 4 u ∧ r = u) ∨ G ∧ 8 ≤ t ∧ h' = h ∧ r.toInt = -3 ∨ ¬ G ∧ h' = h ∧ r.toInt = -1) (hv : G → 0 ≤ v.toInt) (h0 : 0 ≤ t) : JR h' := by
  rcases f with ⟨g, l, u, x, hu, hx, e, _⟩ | ⟨_, _, e, _⟩ | ⟨_, e, _⟩
  · have cell : ∀ k' i' : Nat, k' < 12 ∨ 16 < k' → h'.1 k' i' = h.1 k' i' := fun k' i' a => by rw [e, pI_at, if_neg (by omega), pI_at, if_neg (by omega), pI_at, if_neg (by omega), pI_at, if_neg (by omega), pI_at, if_neg (by omega)]
    obtain ⟨r1, r2, r3, r4, r5, r6, r7⟩ := rr.1
    refine JR_rest ⟨fun j hj => ?_, fun j hj => ?_, fun j hj => ?_, ?_, ?_, fun j hj hc => ?_, fun j hj hc => ?_⟩ (fun k' i' w => cell k' i' (by omega)) rr
    · rw [cell _ _ (by omega)]; exact r1 j hj
    · rw [cell _ _ (by omega)]; exact r2 j hj
    · rw [cell _ _ (by omega)]; exact r3 j hj
    · rw [cell _ _ (by omega)]; exact r4
    · rw [cell _ _ (by omega)]; exact r5
    · rw [cell _ _ (by omega)] at hc ⊢; exact r6 j hj hc
    · rw [Nat.zero_add, e, pI_at, if_pos ⟨rfl, rfl⟩] at hc
      have e16 : h'.1 16 j = if j = t.toNat then x else h.1 16 j := by
        rw [e, pI_at, if_neg (by omega), pI_at]
        by_cases q : j = t.toNat
        · rw [if_pos ⟨rfl, q⟩, if_pos q]
        · rw [if_neg (fun c => q c.2), if_neg q, pI_at, if_neg (by omega), pI_at, if_neg (by omega), pI_at, if_neg (by omega)]
      have e15 : h'.1 15 j = if j = t.toNat then v else h.1 15 j := by
        rw [e, pI_at, if_neg (by omega), pI_at, if_neg (by omega), pI_at]
        by_cases q : j = t.toNat
        · rw [if_pos ⟨rfl, q⟩, if_pos q]
        · rw [if_neg (fun c => q c.2), if_neg q, pI_at, if_neg (by omega), pI_at, if_neg (by omega)]
      rw [Nat.zero_add, Nat.zero_add, e16, e15]
      by_cases q : j = t.toNat
      · rw [if_pos q, if_pos q]; exact ⟨by omega, hv g⟩
      · rw [if_neg q, if_neg q]
        have := r7 j hj (by rw [Nat.zero_add]; omega)
        rw [Nat.zero_add, Nat.zero_add] at this
        exact this
  · rw [e]; exact rr
  · rw [e]; exact rr
/-! a bore keeps purses and bores within bounds -/
theorem bM_rg {b d : Int32} (hb : 0 ≤ b.toInt ∧ b.toInt ≤ 9) (hd : 1 ≤ d.toInt ∧ d.toInt ≤ 9) : 0 ≤ (bM b d).toInt ∧ (bM b d).toInt ≤ 9 := by
  unfold bM
  split
  · rw [ti_sub rfl rfl (by omega)]; omega
  · decide
theorem bD_rg {b d : Int32} (hb : 0 ≤ b.toInt ∧ b.toInt ≤ 9) (hd : 1 ≤ d.toInt ∧ d.toInt ≤ 9) : 0 ≤ (bD b d).toInt ∧ (bD b d).toInt ≤ 9 := by
  unfold bD
  split <;> omega
theorem mul9 {A B : Int} (ha : 1 ≤ A ∧ A ≤ 9) (hb : 0 ≤ B ∧ B ≤ 9) : 0 ≤ A * B ∧ A * B ≤ 81 := by
  rcases (by omega : A = 1 ∨ A = 2 ∨ A = 3 ∨ A = 4 ∨ A = 5 ∨ A = 6 ∨ A = 7 ∨ A = 8 ∨ A = 9) with rfl | rfl | rfl | rfl | rfl | rfl | rfl | rfl | rfl <;> omega
theorem bx_rg {l o p b w c q d x : Int32} (hp : 0 ≤ p.toInt ∧ p.toInt ≤ 999) (hb : 0 ≤ b.toInt ∧ b.toInt ≤ 9) (hc : 1 ≤ c.toInt ∧ c.toInt ≤ 9) (hq : 1 ≤ q.toInt ∧ q.toInt ≤ 99) (hd : 1 ≤ d.toInt ∧ d.toInt ≤ 9) (f : bLf p b w c q d x) (g : ¬ bRf l o p b c d x) : 0 ≤ x.toInt ∧ x.toInt ≤ 999 := by
  have m := bM_rg hb hd
  have m9 := mul9 hc m
  have e1 : (c * bM b d).toInt = c.toInt * (bM b d).toInt := ti_mul rfl rfl (by omega)
  have e2 : (bPd p c b d).toInt = p.toInt - c.toInt * (bM b d).toInt := by unfold bPd; exact ti_sub rfl e1 (by omega)
  unfold bRf at g
  have g1 : ¬ (bPd p c b d).toInt < 0 := fun z => g (Or.inr (Or.inl z))
  have g2 : ¬ 999 < x.toInt := fun z => g (Or.inr (Or.inr z))
  rcases f with ⟨_, f⟩ | ⟨_, f⟩
  · have e3 : x.toInt = (bPd p c b d).toInt + q.toInt := by rw [f]; exact ti_add rfl rfl (by omega)
    omega
  · rw [f] at g2 ⊢; omega
theorem JR_bore {h h' : Hp} {o c : Int} {G : Prop} {l ow w d r : Int32} (rr : JR h) (f : BE h h' 8 o.toNat 6 c.toNat G l ow (h.1 8 o.toNat) (h.1 6 c.toNat) w (h.1 1 2) (h.1 1 3) d r) (hc : G → 0 ≤ o ∧ o ≤ 3 ∧ 0 ≤ c ∧ c < 16 ∧ 1 ≤ d.toInt ∧ d.toInt ≤ 9) : JR h' := by
  rcases f with ⟨_, e, _⟩ | ⟨g, x, b, k⟩
  · rw [e]; exact rr
  · rcases k with ⟨_, e, _⟩ | ⟨nr, e, _⟩
    · rw [e]; exact rr
    · have hh := hc g
      obtain ⟨r1, r2, r3, r4, r5, r6, r7⟩ := rr.1
      have r2' := r2 c.toNat (by omega)
      have r3' := r3 o.toNat (by omega)
      rw [Nat.zero_add] at r2' r3' r4 r5
      have hx := bx_rg r3' r2' r4 r5 hh.2.2.2.2 b nr
      have hy := bD_rg r2' hh.2.2.2.2
      exact JR_put (JR_put rr (Or.inr (Or.inr ⟨rfl, hx⟩)) rfl) (Or.inr (Or.inl ⟨rfl, hy⟩)) e
theorem ST1_rg {l w : Nat → Int32} {co q : Int32} {W : Int} {o c d : Int32} {p b p' b' : Nat → Int32} (hW : W ≤ 16) (hco : 1 ≤ co.toInt ∧ co.toInt ≤ 9) (hq : 1 ≤ q.toInt ∧ q.toInt ≤ 99) (hp : ∀ i : Nat, i < 4 → 0 ≤ (p i).toInt ∧ (p i).toInt ≤ 999) (hb : ∀ i : Nat, i < 16 → 0 ≤ (b i).toInt ∧ (b i).toInt ≤ 9) (h : ST1 l w co q W o c d p b p' b') : (∀ i : Nat, i < 4 → 0 ≤ (p' i).toInt ∧ (p' i).toInt ≤ 999) ∧ ∀ i : Nat, i < 16 → 0 ≤ (b' i).toInt ∧ (b' i).toInt ≤ 9 := by
  obtain ⟨g, x, h1, h2, h3, h4⟩ := h
  unfold G9 at g
  have b1 := hb c.toInt.toNat (by omega)
  refine ⟨fun i hi => ?_, fun i hi => ?_⟩
  · rw [h3 i hi]
    split
    · exact bx_rg (hp _ (by omega)) b1 hco hq (by omega) h1 h2
    · exact hp i hi
  · rw [h4 i hi]
    split
    · exact bD_rg b1 (by omega)
    · exact hb i hi
theorem RN_rg {l w : Nat → Int32} {co q : Int32} {W : Int} {s : Nat → Int32} {f : Nat} {p b : Nat → Int32} (hW : W ≤ 16) (hco : 1 ≤ co.toInt ∧ co.toInt ≤ 9) (hq : 1 ≤ q.toInt ∧ q.toInt ≤ 99) (hp : ∀ i : Nat, i < 4 → 0 ≤ (p i).toInt ∧ (p i).toInt ≤ 999) (hb : ∀ i : Nat, i < 16 → 0 ≤ (b i).toInt ∧ (b i).toInt ≤ 9) : ∀ (n : Nat) (p' b' : Nat → Int32), RN l w co q W s f p b n p' b' → (∀ i : Nat, i < 4 → 0 ≤ (p' i).toInt ∧ (p' i).toInt ≤ 999) ∧ ∀ i : Nat, i < 16 → 0 ≤ (b' i).toInt ∧ (b' i).toInt ≤ 9 := by
  intro n
  induction n with
  | zero => intro p' b' h; exact ⟨fun i hi => by rw [← h.1 i hi]; exact hp i hi, fun i hi => by rw [← h.2 i hi]; exact hb i hi⟩
  | succ n ih =>
    intro p' b' h
    obtain ⟨p1, b1, h1, h2⟩ := h
    obtain ⟨i1, i2⟩ := ih p1 b1 h1
    exact ST1_rg hW hco hq i1 i2 h2
theorem JR_read {S : List (Nat × Option Nat)} {h h' : Hp} {RB : Prop} {k : Nat} {l f n W : Int} {r : Int32} (rr : JR h) (fm : fr S h h') (s1 : ckS S 34 84 = true) (s2 : ckS S 86 131 = true) (hW : W ≤ 16) (E : RB ∧ h' = h ∧ r.toInt = -1 ∨ ¬ RB ∧ RDc h h' k l f n W r) : JR h' := by
  rcases E with ⟨_, e, _⟩ | ⟨_, ⟨m, _, ro⟩, c⟩
  · rw [e]; exact rr
  · obtain ⟨r1, r2, r3, r4, r5, r6, r7⟩ := rr.1
    have z3 : ∀ i : Nat, i < 4 → 0 ≤ (h.1 8 i).toInt ∧ (h.1 8 i).toInt ≤ 999 := fun i hi => by have := r3 i hi; rw [Nat.zero_add] at this; exact this
    have z2 : ∀ i : Nat, i < 16 → 0 ≤ (h.1 6 i).toInt ∧ (h.1 6 i).toInt ≤ 9 := fun i hi => by have := r2 i hi; rw [Nat.zero_add] at this; exact this
    have key : (∀ i : Nat, i < 4 → 0 ≤ (h'.1 8 i).toInt ∧ (h'.1 8 i).toInt ≤ 999) ∧ ∀ i : Nat, i < 16 → 0 ≤ (h'.1 6 i).toInt ∧ (h'.1 6 i).toInt ≤ 9 := by
      rcases ro with ⟨_, rn⟩ | ⟨_, e1, e2⟩
      · exact RN_rg hW r4 r5 z3 z2 m _ _ rn
      · exact ⟨fun i hi => by rw [← e1 i hi]; exact z3 i hi, fun i hi => by rw [← e2 i hi]; exact z2 i hi⟩
    have cc : ∀ k' i' : Nat, rrC k' i' → k' ≠ 6 ∧ k' ≠ 8 → h'.1 k' i' = h.1 k' i' := fun k' i' w g => c k' i' (rrC_c w) g
    refine JR_rest ⟨fun j hj => ?_, fun j hj => ?_, fun j hj => ?_, ?_, ?_, fun j hj hc => ?_, fun j hj hc => ?_⟩ (fun k' i' w => ?_) rr
    · rw [Nat.zero_add, cc 3 j (by unfold rrC; omega) (by omega)]; have := r1 j hj; rw [Nat.zero_add] at this; exact this
    · rw [Nat.zero_add]; exact key.2 j hj
    · rw [Nat.zero_add]; exact key.1 j hj
    · rw [Nat.zero_add, cc 1 2 (by unfold rrC; omega) (by omega)]; exact r4
    · rw [Nat.zero_add, cc 1 3 (by unfold rrC; omega) (by omega)]; exact r5
    · rw [Nat.zero_add, cc 7 4 (by unfold rrC; omega) (by omega)] at hc
      rw [Nat.zero_add, cc 11 j (by unfold rrC; omega) (by omega)]
      have := r6 j hj (by rw [Nat.zero_add]; exact hc)
      rw [Nat.zero_add] at this; exact this
    · rw [Nat.zero_add, cc 12 4 (by unfold rrC; omega) (by omega)] at hc
      rw [Nat.zero_add, Nat.zero_add, cc 16 j (by unfold rrC; omega) (by omega), cc 15 j (by unfold rrC; omega) (by omega)]
      have := r7 j hj (by rw [Nat.zero_add]; exact hc)
      rw [Nat.zero_add, Nat.zero_add] at this; exact this
    · rcases w with w | w
      · exact fm.1 _ _ (ckS_no s1 (by omega) (by omega))
      · exact fm.1 _ _ (ckS_no s2 (by omega) (by omega))
theorem JR_keep {S : List (Nat × Option Nat)} {h h1 : Hp} {k : Int} {r1 : Int32} (r : JR h) (f1 : fr S h h1) (s1 : ckS S 0 16 = true)
    (E1 : k = 0 ∧ KP h h1 34 51 0 ∧ FQ (h.1 87 0) r1 ∨ k = 1 ∧ KP h h1 51 34 1 ∧ FQ (h.1 87 1) r1 ∨ (k < 0 ∨ 1 < k) ∧ h1 = h ∧ r1.toInt = -1) : JR h1 := by
  have c0 : ∀ k i : Nat, k ≤ 16 → h1.1 k i = h.1 k i := fun k i hk => f1.1 _ _ (ckS_no s1 (by omega) hk)
  obtain ⟨q1, q2, q3⟩ := r
  have q1' : RR h1 0 := RR_cp (fun k i w => by rw [Nat.zero_add]; exact c0 _ _ (cpl_k (rrC_c w))) q1
  rcases E1 with ⟨_, ⟨a1, a2, a3, a4⟩, _⟩ | ⟨_, ⟨a1, a2, a3, a4⟩, _⟩ | ⟨_, e, _⟩
  · refine ⟨q1', fun _ => RR_cp (fun k i w => a1 k i (rrC_c w)) q1, fun q => ?_⟩
    rw [a4 1 (by omega)] at q
    exact RR_cp (fun k i w => a2 _ i (by omega) (by have := cpl_k (rrC_c w); omega)) (q3 q)
  · refine ⟨q1', fun q => ?_, fun _ => RR_cp (fun k i w => a1 k i (rrC_c w)) q1⟩
    rw [a4 0 (by omega)] at q
    exact RR_cp (fun k i w => a2 _ i (by omega) (by have := cpl_k (rrC_c w); omega)) (q2 q)
  · rw [e]; exact ⟨q1, q2, q3⟩
theorem JR_back {S : List (Nat × Option Nat)} {h h1 : Hp} {k : Int} (r : JR h) (f1 : fr S h h1) (s1 : ckS S 34 67 = true) (s2 : ckS S 87 118 = true)
    (E1 : k = 0 ∧ (h.1 87 0).toInt ≠ 0 ∧ cpy h h1 0 34 ∨ k = 1 ∧ (h.1 87 1).toInt ≠ 0 ∧ cpy h h1 0 51 ∨ (k = 0 ∧ (h.1 87 0).toInt = 0 ∨ k = 1 ∧ (h.1 87 1).toInt = 0 ∨ k < 0 ∨ 1 < k) ∧ h1 = h) : JR h1 := by
  have rest : ∀ k i : Nat, (34 ≤ k ∧ k ≤ 67) ∨ k = 87 → h1.1 k i = h.1 k i := fun k i w => by
    rcases w with w | w
    · exact f1.1 _ _ (ckS_no s1 w.1 w.2)
    · exact f1.1 _ _ (ckS_no s2 (by omega) (by omega))
  rcases E1 with ⟨_, p2, p3⟩ | ⟨_, p2, p3⟩ | ⟨_, e⟩
  · exact JR_rest (RR_cp (fun k i w => p3 k i (rrC_c w)) (r.2.1 (toInt_ne p2))) rest r
  · exact JR_rest (RR_cp (fun k i w => p3 k i (rrC_c w)) (r.2.2 (toInt_ne p2))) rest r
  · rw [e]; exact r
theorem dof_11 : dof (68 + 12) 4 = some 111 := by decide
theorem JR_text {S : List (Nat × Option Nat)} {h h1 : Hp} {b : Int → Int} {s e1 : Int} {r1 : Int32} {n1 : Nat} (r : JR h) (f1 : fr S h h1) (X1 : x_tx b s r1 e1 n1) (t : TK h h1 e1 (x_st b n1).2.1) (s1 : ckS S 34 67 = true) : JR h1 := by
  have xr := x_RK n1 X1.1.1
  have h111 : (x_st b n1).2.1 111 = 0 := by
    have := xr 111 (by unfold xP; omega)
    have e1 : xL 111 = 0 := by decide
    have e2 : xH 111 = 0 := by decide
    omega
  rcases t with ⟨_, t1, t2, t3⟩ | ⟨_, t1⟩
  · refine ⟨⟨fun i hi => ?_, fun i hi => ?_, fun i hi => ?_, ?_, ?_, fun i hi hc => ?_, fun i hi hc => ?_⟩, fun q => absurd t2 q, fun q => absurd t3 q⟩
    · rw [Nat.zero_add, t1.1 3 i _ (dof_3 hi)]
      have := xr (16 + i) (by unfold xP; omega)
      unfold xL xH at this
      rw [if_neg (by omega), if_pos (by omega)] at this
      exact this
    · rw [Nat.zero_add, t1.1 6 i _ (dof_6 hi)]
      have := xr (64 + i) (by unfold xP; omega)
      unfold xL xH at this
      rw [if_neg (by omega), if_neg (by omega), if_pos (by omega)] at this
      omega
    · rw [Nat.zero_add, t1.1 8 i _ (dof_8 hi)]
      have := xr (80 + i) (by unfold xP; omega)
      unfold xL xH at this
      rw [if_neg (by omega), if_neg (by omega), if_neg (by omega), if_pos (by omega)] at this
      omega
    · rw [Nat.zero_add, t1.1 1 2 146 (by decide)]
      exact xr 146 (by unfold xP; omega)
    · rw [Nat.zero_add, t1.1 1 3 147 (by decide)]
      exact xr 147 (by unfold xP; omega)
    · rw [Nat.zero_add, t1.1 7 4 86 (by decide)] at hc
      rw [Nat.zero_add, (t1.2 i hi hc).2.2]
      have := xr (89 + 3 * i) (by unfold xP; omega)
      unfold xL xH at this
      rw [if_neg (by omega), if_neg (by omega), if_neg (by omega), if_pos (by omega)] at this
      exact this
    · rw [Nat.zero_add, t1.1 12 4 111 dof_11, h111] at hc
      omega
  · exact JR_at (fun k i hk => by
      rcases hk with hk | hk | hk
      · exact t1 k i (Or.inl (cpl_k (rrC_c hk)))
      · exact f1.1 _ _ (ckS_no s1 hk.1 hk.2)
      · exact t1 k i (Or.inr hk)) r
