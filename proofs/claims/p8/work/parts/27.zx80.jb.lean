theorem x_D_w {b : Int → Int} {T : Nat → Int → Int} {D : Nat → Int} {p : Int} (h : (x_line b T (D 86) p).1 = 0) (g : x_good D) (w : ∀ i : Nat, i < 16 → 0 ≤ D i) (i : Nat) (hi : i < 16) : 0 ≤ x_D b D p i := by
  have hH : x_cH b T (D 86) p = 0 := (x_sq_0 h).1
  have hs := x_cH_s b T (D 86) p
  have hb := x_ln_b b (x_fr b p) (x_en b p)
  have wi := w i hi
  have hl : x_li b p = 0 ∨ x_li b p = 1 ∨ x_li b p = 2 ∨ x_li b p = 3 ∨ x_li b p = 4 ∨ x_li b p = 5 ∨ x_li b p = 6 ∨ x_li b p = 7 ∨ x_li b p = 8 ∨ x_li b p = 9 := by
    have e : x_li b p = x_ln b (x_fr b p) (x_en b p) := rfl
    have h2 : x_li b p ≠ -1 := by
      rcases hs with q | q | q | q | q | q
      · exact absurd (q.2.symm.trans hH) (by decide)
      · exact absurd (q.2.2.symm.trans hH) (by decide)
      · exact absurd (q.2.2.symm.trans hH) (by decide)
      · exact q.2.1
      · omega
      · exact q.2.1
    omega
  clear hs hb
  rcases hl with hl | hl | hl | hl | hl | hl | hl | hl | hl | hl
  · rw [x_line_0 rfl hH hl] at h
    rw [x_D_0 D rfl hl]
    rw [x_up_n (by (first | decide +kernel | omega)), x_up_n (by (first | decide +kernel | omega))]
    exact wi
  · rw [x_line_1 rfl hH hl] at h
    rw [x_D_1 D rfl hl]
    unfold x_l1 at h
    have h1 := x_sq_0 h
    have h2 := x_sq_0 h1.2
    have h3 := x_sq_0 h2.2
    have a1 := x_cN_s b (x_en b (x_en b p)) 1 9
    unfold x_up
    split
    · omega
    · exact wi
  · rw [x_line_2 rfl hH hl] at h
    rw [x_D_2 D rfl hl]
    unfold x_l2 at h
    have h1 := x_sq_0 h
    have a1 := x_cN_s b (x_en b p) 0 15
    rw [x_up_n (by (first | decide +kernel | omega))]
    exact wi
  · rw [x_line_3 rfl hH hl] at h
    rw [x_D_3 D rfl hl]
    unfold x_l3 at h
    have h1 := x_sq_0 h
    have a1 := x_cN_s b (x_en b p) 0 15
    rw [x_up_n (by (first | decide +kernel | omega))]
    exact wi
  · rw [x_line_4 rfl hH hl] at h
    rw [x_D_4 D rfl hl]
    unfold x_l4 at h
    have h1 := x_sq_0 h
    have a1 := x_cN_s b (x_en b p) 0 15
    rw [x_up_n (by (first | decide +kernel | omega))]
    exact wi
  · rw [x_line_5 rfl hH hl] at h
    rw [x_D_5 D rfl hl]
    unfold x_l5 at h
    have h1 := x_sq_0 h
    have a1 := x_cN_s b (x_en b p) 0 3
    rw [x_up_n (by (first | decide +kernel | omega))]
    exact wi
  · rw [x_line_6 rfl hH hl] at h
    rw [x_D_6 D rfl hl]
    rw [x_up_n (by (first | decide +kernel | omega))]
    exact wi
  · rw [x_line_7 rfl hH hl] at h
    rw [x_D_7 D rfl hl]
    rw [x_up_n (by (first | decide +kernel | omega))]
    exact wi
  · rw [x_line_8 rfl hH hl] at h
    rw [x_D_8 D rfl hl]
    rw [x_up_n (by (first | decide +kernel | omega)), x_up_n (by (first | decide +kernel | omega))]
    exact wi
  · rw [x_line_9 rfl hH hl] at h
    rw [x_D_9 D rfl hl]
    unfold x_good at g
    rw [x_up_n (by (first | decide +kernel | omega)), x_up_n (by (first | decide +kernel | omega)), x_up_n (by (first | decide +kernel | omega)), x_up_n (by (first | decide +kernel | omega))]
    exact wi
theorem x_W {b : Int → Int} : ∀ k : Nat, x_ok b k → ∀ i : Nat, i < 16 → 0 ≤ (x_st b k).2.1 i := by
  intro k
  induction k with
  | zero => intro _ i hi; show 0 ≤ x_D0 i; unfold x_D0; rw [if_neg (by (first | decide +kernel | omega)), if_neg (by (first | decide +kernel | omega)), if_neg (by (first | decide +kernel | omega)), if_neg (by (first | decide +kernel | omega)), if_neg (by (first | decide +kernel | omega)), if_neg (by (first | decide +kernel | omega))]; decide
  | succ k ih => intro h i hi; exact x_D_w (h k (by (first | decide +kernel | omega))).2 (x_good_k k (fun j hj => h j (by (first | decide +kernel | omega)))) (ih (fun j hj => h j (by (first | decide +kernel | omega)))) i hi
def CW (h : Hp) (k o : Nat) : Prop := (∀ i : Nat, i < 16 → h.1 (k + 2) i = h.1 117 (o + i) ∧ 0 ≤ (h.1 (k + 2) i).toInt) ∧ (∀ i : Nat, i < 16 → h.1 (k + 6) i = h.1 117 (o + (64 + i))) ∧ ∀ i : Nat, i < 4 → h.1 (k + 8) i = h.1 117 (o + (80 + i))
def JB (h : Hp) : Prop := CW h 0 0 ∧ (h.1 87 0 ≠ 0 → CW h 34 144) ∧ (h.1 87 1 ≠ 0 → CW h 51 288)
def jbC (k i : Nat) : Prop := (k = 2 ∨ k = 6) ∧ i < 16 ∨ k = 8 ∧ i < 4 ∨ (34 ≤ k ∧ k ≤ 67) ∨ k = 87 ∨ k = 117 ∧ (i < 16 ∨ 64 ≤ i ∧ i < 84 ∨ 144 ≤ i)
theorem CW_at {h h' : Hp} {k o : Nat} (e1 : ∀ k' i : Nat, (k' = 2 ∨ k' = 6) ∧ i < 16 ∨ k' = 8 ∧ i < 4 → h'.1 (k + k') i = h.1 (k + k') i) (e2 : ∀ i : Nat, i < 16 ∨ 64 ≤ i ∧ i < 84 → h'.1 117 (o + i) = h.1 117 (o + i)) (r : CW h k o) : CW h' k o :=
  ⟨fun i hi => by rw [e1 2 i (by (first | decide +kernel | omega)), e2 i (by (first | decide +kernel | omega))]; exact r.1 i hi, fun i hi => by rw [e1 6 i (by (first | decide +kernel | omega)), e2 (64 + i) (by (first | decide +kernel | omega))]; exact r.2.1 i hi, fun i hi => by rw [e1 8 i (by (first | decide +kernel | omega)), e2 (80 + i) (by (first | decide +kernel | omega))]; exact r.2.2 i hi⟩
theorem CW_cp {h h' : Hp} {k o k2 o2 : Nat} (e1 : ∀ k' i : Nat, cpl k' i → h'.1 (k + k') i = h.1 (k2 + k') i) (e2 : ∀ i : Nat, i < 144 → h'.1 117 (o + i) = h.1 117 (o2 + i)) (r : CW h k2 o2) : CW h' k o :=
  ⟨fun i hi => by rw [e1 2 i (by unfold cpl; omega), e2 i (by (first | decide +kernel | omega))]; exact r.1 i hi, fun i hi => by rw [e1 6 i (by unfold cpl; omega), e2 (64 + i) (by (first | decide +kernel | omega))]; exact r.2.1 i hi, fun i hi => by rw [e1 8 i (by unfold cpl; omega), e2 (80 + i) (by (first | decide +kernel | omega))]; exact r.2.2 i hi⟩
theorem JB_at {h h' : Hp} (e : ∀ k i : Nat, jbC k i → h'.1 k i = h.1 k i) (r : JB h) : JB h' := by
  obtain ⟨r1, r2, r3⟩ := r
  refine ⟨CW_at (fun k i w => by rw [Nat.zero_add]; exact e _ _ (by unfold jbC; omega)) (fun i w => by rw [Nat.zero_add]; exact e _ _ (by unfold jbC; omega)) r1, fun q => ?_, fun q => ?_⟩
  · rw [e 87 0 (by unfold jbC; omega)] at q
    exact CW_at (fun k i w => e _ _ (by unfold jbC; omega)) (fun i w => e _ _ (by unfold jbC; omega)) (r2 q)
  · rw [e 87 1 (by unfold jbC; omega)] at q
    exact CW_at (fun k i w => e _ _ (by unfold jbC; omega)) (fun i w => e _ _ (by unfold jbC; omega)) (r3 q)
def jbS (S : List (Nat × Option Nat)) : Bool := S.all (fun q => decide (q.1 ≠ 2 ∧ q.1 ≠ 6 ∧ q.1 ≠ 8 ∧ (q.1 < 34 ∨ 67 < q.1) ∧ q.1 ≠ 87 ∧ q.1 ≠ 117))
theorem jbS_no {S : List (Nat × Option Nat)} (hc : jbS S = true) {k i : Nat} (hk : jbC k i) : inS S k i = false := by
  unfold inS
  rw [List.any_eq_false]
  intro q hq e
  have h1 := of_decide_eq_true (List.all_eq_true.mp hc q hq)
  rw [Bool.and_eq_true] at e
  have e2 : q.1 = k := eq_of_beq e.1
  unfold jbC at hk
  omega
theorem JB_fr {S : List (Nat × Option Nat)} {h h' : Hp} (f : fr S h h') (hc : jbS S = true) (r : JB h) : JB h' := JB_at (fun _ _ hk => f.1 _ _ (jbS_no hc hk)) r
theorem JB_mix {S : List (Nat × Option Nat)} {h h' : Hp} (P : Nat → Bool) (f : fr S h h') (hc : jbS (S.filter (fun q => P q.1)) = true) (e : ∀ k i : Nat, jbC k i → P k = false → h'.1 k i = h.1 k i) (r : JB h) : JB h' := JB_at (fun k i hk => by
  cases hp : P k with
  | true => exact f.1 k i (inS_flt hp (jbS_no hc hk))
  | false => exact e k i hk hp) r
/-- the reference's row keeps water, bores, purses and the images -/
def nB (h h' : Hp) : Prop := ∀ i : Nat, (i < 16 ∨ 64 ≤ i ∧ i < 84 ∨ 144 ≤ i) → h'.1 117 i = h.1 117 i
theorem JB_nB {S : List (Nat × Option Nat)} {h h' : Hp} (f : fr S h h') (hc : jbS (S.filter (fun q => decide (q.1 ≠ 117))) = true) (g : nB h h') (r : JB h) : JB h' := JB_mix (fun k => decide (k ≠ 117)) f hc (fun k i hk hp => by
  have hp' : k = 117 := by
    have := of_decide_eq_false hp
    omega
  subst hp'
  refine g i ?_
  unfold jbC at hk
  omega) r
theorem nB_Er {h h' : Hp} {i : Nat} {G : Prop} {V : Int32 → Prop} {r : Int32} (f : Er h h' 117 i G V r) (hi : G → 16 ≤ i ∧ i < 64 ∨ 84 ≤ i ∧ i < 144) : nB h h' := fun j hj => by
  rcases f with ⟨g, x, _, e, _⟩ | ⟨_, e, _⟩
  · have := hi g
    rw [e, pI_at, if_neg (by (first | decide +kernel | omega))]
  · rw [e]
theorem nB_Ew {h h' : Hp} {i : Nat} {G : Prop} {n r0 r : Int32} (f : Ew h h' G (pI h 117 i n) r0 r) (hi : 84 ≤ i ∧ i < 144) : nB h h' := fun j hj => by
  rcases f with ⟨g, e, _⟩ | ⟨_, e, _⟩
  · rw [e, pI_at, if_neg (by (first | decide +kernel | omega))]
  · rw [e]
theorem nB_cut {h h' : Hp} {G : Prop} {n v r0 r : Int32} (f : Ew h h' G (pI (pI h 117 85 v) 117 84 n) r0 r) : nB h h' := fun j hj => by
  rcases f with ⟨g, e, _⟩ | ⟨_, e, _⟩
  · rw [e, pI_at, if_neg (by (first | decide +kernel | omega)), pI_at, if_neg (by (first | decide +kernel | omega))]
  · rw [e]
theorem nB_owe {h h' : Hp} {G : Prop} {a b v r : Int32} {t : Int} (f : G ∧ t < 8 ∧ (∃ u : Int32, u.toInt = t + 1 ∧ h' = pI (pI (pI (pI h 117 (87 + 3 * t).toNat a) 117 (87 + 3 * t + 1).toNat b) 117 (87 + 3 * t + 2).toNat v) 117 86 u ∧ r = u) ∨ G ∧ 8 ≤ t ∧ h' = h ∧ r.toInt = -3 ∨ ¬ G ∧ h' = h ∧ r.toInt = -1) (h0 : 0 ≤ t) : nB h h' := fun j hj => by
  rcases f with ⟨g, l, u, _, e, _⟩ | ⟨_, _, e, _⟩ | ⟨_, e, _⟩
  · rw [e, pI_at, if_neg (by (first | decide +kernel | omega)), pI_at, if_neg (by (first | decide +kernel | omega)), pI_at, if_neg (by (first | decide +kernel | omega)), pI_at, if_neg (by (first | decide +kernel | omega))]
  · rw [e]
  · rw [e]
theorem nB_see {h h' : Hp} {G : Prop} {a b v r : Int32} {t z : Int} (f : G ∧ t < 8 ∧ (∃ u x : Int32, u.toInt = t + 1 ∧ (z ≠ 0 ∧ x.toInt = 1 ∨ z = 0 ∧ x.toInt = 0) ∧ h' = pI (pI (pI (pI (pI h 117 (112 + 4 * t).toNat a) 117 (112 + 4 * t + 1).toNat b) 117 (112 + 4 * t + 2).toNat v) 117 (112 + 4 * t + 3).toNat x) 117 111 u ∧ r = u) ∨ G ∧ 8 ≤ t ∧ h' = h ∧ r.toInt = -3 ∨ ¬ G ∧ h' = h ∧ r.toInt = -1) (h0 : 0 ≤ t) : nB h h' := fun j hj => by
  rcases f with ⟨g, l, u, x, _, _, e, _⟩ | ⟨_, _, e, _⟩ | ⟨_, e, _⟩
  · rw [e, pI_at, if_neg (by (first | decide +kernel | omega)), pI_at, if_neg (by (first | decide +kernel | omega)), pI_at, if_neg (by (first | decide +kernel | omega)), pI_at, if_neg (by (first | decide +kernel | omega)), pI_at, if_neg (by (first | decide +kernel | omega))]
  · rw [e]
  · rw [e]
theorem JB_rest {h h2 : Hp} (r : JB h) (c : CW h2 0 0) (e : ∀ k i : Nat, (34 ≤ k ∧ k ≤ 67 ∨ k = 87 ∨ k = 117 ∧ 144 ≤ i) → h2.1 k i = h.1 k i) : JB h2 := by
  obtain ⟨r1, r4, r5⟩ := r
  refine ⟨c, fun q => ?_, fun q => ?_⟩
  · rw [e 87 0 (by (first | decide +kernel | omega))] at q
    exact CW_at (fun k' i w => e _ _ (by (first | decide +kernel | omega))) (fun i _ => e _ _ (by (first | decide +kernel | omega))) (r4 q)
  · rw [e 87 1 (by (first | decide +kernel | omega))] at q
    exact CW_at (fun k' i w => e _ _ (by (first | decide +kernel | omega))) (fun i _ => e _ _ (by (first | decide +kernel | omega))) (r5 q)
theorem JB_keep {S1 S2 : List (Nat × Option Nat)} {h h1 h2 : Hp} {k : Int} {r1 r2 : Int32} (r : JB h) (f1 : fr S1 h h1) (f2 : fr S2 h1 h2) (s1 : ckS S1 0 16 = true) (s2 : ckS S1 116 118 = true) (s3 : ckS S2 0 116 = true)
    (E1 : k = 0 ∧ KP h h1 34 51 0 ∧ FQ (h.1 87 0) r1 ∨ k = 1 ∧ KP h h1 51 34 1 ∧ FQ (h.1 87 1) r1 ∨ (k < 0 ∨ 1 < k) ∧ h1 = h ∧ r1.toInt = -1) (E2 : k = 0 ∧ MKP h1 h2 144 0 ∧ FQ (h1.1 118 0) r2 ∨ k = 1 ∧ MKP h1 h2 288 1 ∧ FQ (h1.1 118 1) r2 ∨ (k < 0 ∨ 1 < k) ∧ h2 = h1 ∧ r2.toInt = -1) : JB h2 := by
  have c0 : ∀ k i : Nat, k ≤ 16 → h2.1 k i = h.1 k i := fun k i hk => by rw [f2.1 _ _ (ckS_no s3 (by (first | decide +kernel | omega)) (by (first | decide +kernel | omega))), f1.1 _ _ (ckS_no s1 (by (first | decide +kernel | omega)) hk)]
  have c6 : ∀ k i : Nat, k ≤ 116 → h2.1 k i = h1.1 k i := fun k i hk => f2.1 _ _ (ckS_no s3 (by (first | decide +kernel | omega)) hk)
  have m1 : ∀ k i : Nat, 116 ≤ k → k ≤ 118 → h1.1 k i = h.1 k i := fun k i p q => f1.1 _ _ (ckS_no s2 p q)
  rcases E1 with ⟨p1, p2, p3⟩ | ⟨p1, p2, p3⟩ | ⟨p1, p2, p3⟩
  · rcases E2 with ⟨q1, q2, q3⟩ | ⟨q1, q2, q3⟩ | ⟨q1, q2, q3⟩
    · obtain ⟨a1, a2, a3, a4⟩ := p2
      obtain ⟨b1, b2, b3, b4⟩ := q2
      refine ⟨CW_at (fun k' i w => by rw [Nat.zero_add]; exact c0 _ _ (by (first | decide +kernel | omega))) (fun i w => by rw [Nat.zero_add, b2 _ (by (first | decide +kernel | omega)), m1 _ _ (by (first | decide +kernel | omega)) (by (first | decide +kernel | omega))]) r.1, fun _ => ?_, fun q => ?_⟩
      · exact CW_cp (k2 := 0) (o2 := 0) (fun k i c => by have := cpl_k c; rw [c6 _ _ (by (first | decide +kernel | omega))]; exact a1 k i c) (fun i hi => by rw [b1 i hi, m1 _ _ (by (first | decide +kernel | omega)) (by (first | decide +kernel | omega))]) r.1
      · rw [c6 _ _ (by (first | decide +kernel | omega)), a4 1 (by (first | decide +kernel | omega))] at q
        exact CW_at (fun k' i w => by rw [c6 _ _ (by (first | decide +kernel | omega))]; exact a2 _ i (by (first | decide +kernel | omega)) (by (first | decide +kernel | omega))) (fun i w => by rw [b2 _ (by (first | decide +kernel | omega)), m1 _ _ (by (first | decide +kernel | omega)) (by (first | decide +kernel | omega))]) (r.2.2 q)
    · omega
    · omega
  · rcases E2 with ⟨q1, q2, q3⟩ | ⟨q1, q2, q3⟩ | ⟨q1, q2, q3⟩
    · omega
    · obtain ⟨a1, a2, a3, a4⟩ := p2
      obtain ⟨b1, b2, b3, b4⟩ := q2
      refine ⟨CW_at (fun k' i w => by rw [Nat.zero_add]; exact c0 _ _ (by (first | decide +kernel | omega))) (fun i w => by rw [Nat.zero_add, b2 _ (by (first | decide +kernel | omega)), m1 _ _ (by (first | decide +kernel | omega)) (by (first | decide +kernel | omega))]) r.1, fun q => ?_, fun _ => ?_⟩
      · rw [c6 _ _ (by (first | decide +kernel | omega)), a4 0 (by (first | decide +kernel | omega))] at q
        exact CW_at (fun k' i w => by rw [c6 _ _ (by (first | decide +kernel | omega))]; exact a2 _ i (by (first | decide +kernel | omega)) (by (first | decide +kernel | omega))) (fun i w => by rw [b2 _ (by (first | decide +kernel | omega)), m1 _ _ (by (first | decide +kernel | omega)) (by (first | decide +kernel | omega))]) (r.2.1 q)
      · exact CW_cp (k2 := 0) (o2 := 0) (fun k i c => by have := cpl_k c; rw [c6 _ _ (by (first | decide +kernel | omega))]; exact a1 k i c) (fun i hi => by rw [b1 i hi, m1 _ _ (by (first | decide +kernel | omega)) (by (first | decide +kernel | omega))]) r.1
    · omega
  · rcases E2 with ⟨q1, q2, q3⟩ | ⟨q1, q2, q3⟩ | ⟨q1, q2, q3⟩
    · omega
    · omega
    · rw [q2, p2]; exact r
theorem JB_back1 {S1 S2 : List (Nat × Option Nat)} {h h1 h2 : Hp} {a o : Nat} {T : Int} (r : JB h) (c : CW h a o) (f1 : fr S1 h h1) (f2 : fr S2 h1 h2) (k1 : cpy h h1 0 a) (k2 : mcl h1 h2 0 T 144) (hT : T = (o : Int)) (s1 : ckS S1 34 67 = true) (s2 : ckS S1 87 118 = true) (s3 : ckS S2 0 116 = true) : JB h2 := by
  subst hT
  have m1 : ∀ k i : Nat, 87 ≤ k → k ≤ 118 → h1.1 k i = h.1 k i := fun k i p q => f1.1 _ _ (ckS_no s2 p q)
  have c6 : ∀ k i : Nat, k ≤ 116 → h2.1 k i = h1.1 k i := fun k i hk => f2.1 _ _ (ckS_no s3 (by (first | decide +kernel | omega)) hk)
  refine JB_rest r (CW_cp (k2 := a) (o2 := o) (fun k i c => by have := cpl_k c; rw [c6 _ _ (by (first | decide +kernel | omega))]; exact k1 k i c) (fun i hi => ?_) c) (fun k i w => ?_)
  · have g := k2.1 i (by (first | decide +kernel | omega))
    rw [show ((o : Int)).toNat = o from rfl, show ((0 : Int)).toNat = 0 from rfl] at g
    rw [g, m1 _ _ (by (first | decide +kernel | omega)) (by (first | decide +kernel | omega))]
  · rcases w with w | rfl | ⟨rfl, w⟩
    · rw [c6 _ _ (by (first | decide +kernel | omega)), f1.1 _ _ (ckS_no s1 (by (first | decide +kernel | omega)) (by (first | decide +kernel | omega)))]
    · rw [c6 _ _ (by (first | decide +kernel | omega)), m1 _ _ (by (first | decide +kernel | omega)) (by (first | decide +kernel | omega))]
    · rw [k2.2 _ (by rw [show ((0 : Int)).toNat = 0 from rfl]; omega), m1 _ _ (by (first | decide +kernel | omega)) (by (first | decide +kernel | omega))]
theorem JB_back {S1 S2 : List (Nat × Option Nat)} {h h1 h2 : Hp} {k : Int} (ra : JA h) (r : JB h) (f1 : fr S1 h h1) (f2 : fr S2 h1 h2) (s1 : ckS S1 34 67 = true) (s2 : ckS S1 87 118 = true) (s3 : ckS S2 0 116 = true)
    (E1 : k = 0 ∧ (h.1 87 0).toInt ≠ 0 ∧ cpy h h1 0 34 ∨ k = 1 ∧ (h.1 87 1).toInt ≠ 0 ∧ cpy h h1 0 51 ∨ (k = 0 ∧ (h.1 87 0).toInt = 0 ∨ k = 1 ∧ (h.1 87 1).toInt = 0 ∨ k < 0 ∨ 1 < k) ∧ h1 = h)
    (E2 : k = 0 ∧ (h1.1 118 0).toInt ≠ 0 ∧ mcl h1 h2 0 144 144 ∨ k = 1 ∧ (h1.1 118 1).toInt ≠ 0 ∧ mcl h1 h2 0 288 144 ∨ (k = 0 ∧ (h1.1 118 0).toInt = 0 ∨ k = 1 ∧ (h1.1 118 1).toInt = 0 ∨ k < 0 ∨ 1 < k) ∧ h2 = h1) : JB h2 := by
  have m1 : ∀ i : Nat, h1.1 118 i = h.1 118 i := fun i => f1.1 _ _ (ckS_no s2 (by (first | decide +kernel | omega)) (by (first | decide +kernel | omega)))
  rw [m1, m1, ← ra.2.1.1, ← ra.2.1.2] at E2
  rcases E1 with ⟨p1, p2, p3⟩ | ⟨p1, p2, p3⟩ | ⟨p1, p2⟩
  · rcases E2 with ⟨q1, q2, q3⟩ | ⟨q1, q2, q3⟩ | ⟨q1, q2⟩
    · exact JB_back1 r (r.2.1 (toInt_ne p2)) f1 f2 p3 q3 rfl s1 s2 s3
    · omega
    · omega
  · rcases E2 with ⟨q1, q2, q3⟩ | ⟨q1, q2, q3⟩ | ⟨q1, q2⟩
    · omega
    · exact JB_back1 r (r.2.2 (toInt_ne p2)) f1 f2 p3 q3 rfl s1 s2 s3
    · omega
  · rcases E2 with ⟨q1, q2, q3⟩ | ⟨q1, q2, q3⟩ | ⟨q1, q2⟩
    · omega
    · omega
    · rw [q2, p2]; exact r
theorem dof_2 {i : Nat} (hi : i < 16) : dof (68 + 2) i = some i := by unfold dof; rw [if_pos ⟨rfl, hi⟩]
theorem dof_6 {i : Nat} (hi : i < 16) : dof (68 + 6) i = some (64 + i) := by unfold dof; rw [if_neg (by (first | decide +kernel | omega)), if_neg (by (first | decide +kernel | omega)), if_neg (by (first | decide +kernel | omega)), if_neg (by (first | decide +kernel | omega)), if_pos ⟨rfl, hi⟩]
theorem dof_8 {i : Nat} (hi : i < 4) : dof (68 + 8) i = some (80 + i) := by unfold dof; rw [if_neg (by (first | decide +kernel | omega)), if_neg (by (first | decide +kernel | omega)), if_neg (by (first | decide +kernel | omega)), if_neg (by (first | decide +kernel | omega)), if_neg (by (first | decide +kernel | omega)), if_pos ⟨rfl, hi⟩]
theorem JB_new {h : Hp} {D : Nat → Int} (c : TC h D) (m : MC h D) (hw : ∀ i : Nat, i < 16 → 0 ≤ D i) (k0 : h.1 87 0 = 0) (k1 : h.1 87 1 = 0) : JB h := by
  refine ⟨⟨fun i hi => ?_, fun i hi => ?_, fun i hi => ?_⟩, fun q => absurd k0 q, fun q => absurd k1 q⟩
  · rw [Nat.zero_add, Nat.zero_add]
    exact ⟨Int32.toInt_inj.mp ((c.1 2 i i (dof_2 hi)).trans (m.1 i (by (first | decide +kernel | omega))).symm), by rw [c.1 2 i i (dof_2 hi)]; exact hw i hi⟩
  · rw [Nat.zero_add, Nat.zero_add]
    exact Int32.toInt_inj.mp ((c.1 6 i _ (dof_6 hi)).trans (m.1 _ (by (first | decide +kernel | omega))).symm)
  · rw [Nat.zero_add, Nat.zero_add]
    exact Int32.toInt_inj.mp ((c.1 8 i _ (dof_8 hi)).trans (m.1 _ (by (first | decide +kernel | omega))).symm)
theorem JB_text {S1 S2 : List (Nat × Option Nat)} {h h1 h2 : Hp} {b : Int → Int} {s e1 e2 : Int} {r1 r2 : Int32} {n1 n2 : Nat} (r : JB h) (f1 : fr S1 h h1) (f2 : fr S2 h1 h2) (X1 : x_tx b s r1 e1 n1) (X2 : x_tx b s r2 e2 n2) (t : TK h h1 e1 (x_st b n1).2.1) (m : MK h1 h2 e2 (x_st b n2).2.1) (s1 : ckS S1 34 67 = true) (s2 : ckS S1 116 118 = true) (s3 : ckS S2 0 115 = true) (s4 : ckS S2 0 16 = true) : JB h2 := by
  obtain ⟨hn, hr, hu⟩ := x_tx_un X1 X2
  subst hn
  subst hu
  have c6 : ∀ k i : Nat, k ≤ 115 → h2.1 k i = h1.1 k i := fun k i hk => f2.1 _ _ (ckS_no s3 (by (first | decide +kernel | omega)) hk)
  rcases t with ⟨t0, t1, t2, t3⟩ | ⟨t0, t1⟩
  · rcases m with ⟨m0, m1, m2, m3⟩ | ⟨m0, m1⟩
    · exact JB_new (TC_fr t1 f2 s4) m1 (x_W n1 X1.1.1) (by rw [c6 _ _ (by (first | decide +kernel | omega))]; exact t2) (by rw [c6 _ _ (by (first | decide +kernel | omega))]; exact t3)
    · exact absurd t0 m0
  · rcases m with ⟨m0, m1, m2, m3⟩ | ⟨m0, m1⟩
    · exact absurd m0 t0
    · refine JB_at (fun k i hk => ?_) r
      rcases hk with hk | hk | hk | hk | hk
      · rw [c6 _ _ (by (first | decide +kernel | omega))]; exact t1 k i (by (first | decide +kernel | omega))
      · rw [c6 _ _ (by (first | decide +kernel | omega))]; exact t1 k i (by (first | decide +kernel | omega))
      · rw [c6 _ _ (by (first | decide +kernel | omega))]; exact f1.1 _ _ (ckS_no s1 hk.1 hk.2)
      · rw [c6 _ _ (by (first | decide +kernel | omega))]; exact t1 k i (Or.inr hk)
      · rw [m1 k i (Or.inl hk.1)]; exact f1.1 _ _ (ckS_no s2 (by (first | decide +kernel | omega)) (by (first | decide +kernel | omega)))
def bM (b d : Int32) : Int32 := if b.toInt < d.toInt then d - b else 0
def bD (b d : Int32) : Int32 := if b.toInt < d.toInt then d else b
def bW (w b : Int32) : Prop := 0 < w.toInt ∧ w.toInt ≤ b.toInt
def bPd (p c b d : Int32) : Int32 := p - c * bM b d
/-- what is left, of a bore that brings a price (or not) -/
def bLf (p b w c q d x : Int32) : Prop := (¬ bW w b ∧ bW w (bD b d)) ∧ x = bPd p c b d + q ∨ ¬ (¬ bW w b ∧ bW w (bD b d)) ∧ x = bPd p c b d
theorem bLf_un {p b w c q d x y : Int32} (f : bLf p b w c q d x) (g : bLf p b w c q d y) : x = y := by
  rcases f with ⟨f1, f2⟩ | ⟨f1, f2⟩ <;> rcases g with ⟨g1, g2⟩ | ⟨g1, g2⟩
  · rw [f2, g2]
  · exact absurd f1 g1
  · exact absurd g1 f1
  · rw [f2, g2]
/-- refused, by the CLAIM l, the OWNER o, what is left x -/
def bRf (l o p b c d x : Int32) : Prop := l ≠ o ∨ (bPd p c b d).toInt < 0 ∨ 999 < x.toInt
/-- a bore: kp, ip the purse's cell, kb, ib the bore's; its answer r -/
def BE (h h' : Hp) (kp ip kb ib : Nat) (G : Prop) (l o p b w c q d r : Int32) : Prop := ¬ G ∧ h' = h ∧ r.toInt = -1 ∨ G ∧ (∃ x : Int32, bLf p b w c q d x ∧ (bRf l o p b c d x ∧ h' = h ∧ r.toInt = -2 ∨ ¬ bRf l o p b c d x ∧ h' = pI (pI h kp ip x) kb ib (bD b d) ∧ (bW w (bD b d) ∧ r.toInt = 1 ∨ ¬ bW w (bD b d) ∧ r.toInt = 0)))
theorem BE_un {h h1 h2 : Hp} {i1 i2 j1 j2 : Nat} {G : Prop} {l o p b w c q d r s : Int32} (f : BE h h1 8 i1 6 i2 G l o p b w c q d r) (g : BE h1 h2 117 j1 117 j2 G l o p b w c q d s) : r = s ∧ (h1 = h ∧ h2 = h ∨ G ∧ ∃ x : Int32, h1 = pI (pI h 8 i1 x) 6 i2 (bD b d) ∧ h2 = pI (pI h1 117 j1 x) 117 j2 (bD b d)) := by
  rcases f with ⟨f1, f2, f3⟩ | ⟨f1, x, f2, f3⟩
  · rcases g with ⟨g1, g2, g3⟩ | ⟨g1, y, g2, g3⟩
    · exact ⟨same_of f3 g3, Or.inl ⟨f2, g2.trans f2⟩⟩
    · exact absurd g1 f1
  · rcases g with ⟨g1, g2, g3⟩ | ⟨g1, y, g2, g3⟩
    · exact absurd f1 g1
    · have hx := bLf_un f2 g2
      subst hx
      rcases f3 with ⟨a1, a2, a3⟩ | ⟨a1, a2, a3⟩ <;> rcases g3 with ⟨b1, b2, b3⟩ | ⟨b1, b2, b3⟩
      · exact ⟨same_of a3 b3, Or.inl ⟨a2, b2.trans a2⟩⟩
      · exact absurd a1 b1
      · exact absurd b1 a1
      · refine ⟨?_, Or.inr ⟨f1, x, a2, b2⟩⟩
        rcases a3 with ⟨p1, p2⟩ | ⟨p1, p2⟩ <;> rcases b3 with ⟨q1, q2⟩ | ⟨q1, q2⟩
        · exact same_of p2 q2
        · exact absurd p1 q1
        · exact absurd q1 p1
        · exact same_of p2 q2
theorem bD_max {b d z : Int32} {B D Z : Int} (hb : b.toInt = B) (hd : d.toInt = D) (hz : z.toInt = Z) (g : B < D ∧ Z = D ∨ D ≤ B ∧ Z = B) : z = bD b d := by
  unfold bD
  rw [hb, hd]
  rcases g with ⟨g1, g2⟩ | ⟨g1, g2⟩
  · rw [if_pos g1]; exact same_of (hz.trans g2) hd
  · rw [if_neg (by (first | decide +kernel | omega))]; exact same_of (hz.trans g2) hb
theorem bM_dp {b d dp m : Int32} (h : dp = bD b d) (e : m = dp - b) : m = bM b d := by
  rw [e, h]
  unfold bD bM
  by_cases q : b.toInt < d.toInt
  · rw [if_pos q, if_pos q]
  · rw [if_neg q, if_neg q, Int32.sub_self]
theorem bM_0 {b d : Int32} {B D : Int} (hb : b.toInt = B) (hd : d.toInt = D) (h : D ≤ B) : (0 : Int32) = bM b d := by
  unfold bM
  rw [hb, hd, if_neg (by (first | decide +kernel | omega))]
theorem bM_1 {b d m : Int32} {B D : Int} (hb : b.toInt = B) (hd : d.toInt = D) (h : B < D) (e : m = d - b) : m = bM b d := by
  unfold bM
  rw [hb, hd, if_pos h, e]
theorem bD_add {b d m t : Int32} (hm : m = bM b d) (e : t = b + m) : t = bD b d := by
  rw [e, hm]
  unfold bM bD
  by_cases q : b.toInt < d.toInt
  · rw [if_pos q, if_pos q, Int32.add_comm]; exact Int32.sub_add_cancel d b
  · rw [if_neg q, if_neg q]; exact Int32.add_zero b
theorem bD_z {b d t : Int32} {B D T : Int} (h : t = bD b d) (ht : t.toInt = T) (hb : b.toInt = B) (hd : d.toInt = D) : T = D ∧ B < D ∨ T = B ∧ D ≤ B := by
  unfold bD at h
  by_cases q : b.toInt < d.toInt
  · rw [if_pos q] at h
    subst h
    omega
  · rw [if_neg q] at h
    subst h
    omega
theorem bLf_ex (p b w c q d : Int32) : ∃ x : Int32, bLf p b w c q d x := by
  by_cases h : ¬ bW w b ∧ bW w (bD b d)
  · exact ⟨_, Or.inl ⟨h, rfl⟩⟩
  · exact ⟨_, Or.inr ⟨h, rfl⟩⟩
theorem BE_cl {h h' : Hp} {kp ip kb ib : Nat} {l o p b w c q d r : Int32} (hl : l ≠ o) (e : h' = h) (er : r.toInt = -2) : ∃ x : Int32, bLf p b w c q d x ∧ (bRf l o p b c d x ∧ h' = h ∧ r.toInt = -2 ∨ ¬ bRf l o p b c d x ∧ h' = pI (pI h kp ip x) kb ib (bD b d) ∧ (bW w (bD b d) ∧ r.toInt = 1 ∨ ¬ bW w (bD b d) ∧ r.toInt = 0)) := by
  obtain ⟨x, hx⟩ := bLf_ex p b w c q d
  exact ⟨x, hx, Or.inl ⟨Or.inl hl, e, er⟩⟩
theorem BE_of {h h' : Hp} {kp ip kb ib : Nat} {G : Prop} {l o p b w c q d r dp m1 m2 pd x : Int32} {L O PD Y : Int} (hG : G) (hl : l.toInt = L) (ho : o.toInt = O) (hp : pd.toInt = PD) (hy : x.toInt = Y) (hd : dp = bD b d) (hm : m1 = bM b d) (e2 : m2 = c * m1) (e3 : pd = p - m2) (hx : (¬ bW w b ∧ bW w dp) ∧ x = pd + q ∨ ¬ (¬ bW w b ∧ bW w dp) ∧ x = pd) (hr : (L ≠ O ∨ PD < 0 ∨ 999 < Y) ∧ h' = h ∧ r.toInt = -2 ∨ (L = O ∧ 0 ≤ PD ∧ Y ≤ 999) ∧ h' = pI (pI h kp ip x) kb ib dp ∧ (bW w dp ∧ r.toInt = 1 ∨ ¬ bW w dp ∧ r.toInt = 0)) : BE h h' kp ip kb ib G l o p b w c q d r := by
  have e4 : pd = bPd p c b d := by unfold bPd; rw [e3, e2, hm]
  rw [hd] at hx hr
  rw [e4] at hx
  refine Or.inr ⟨hG, x, hx, ?_⟩
  have hq : bRf l o p b c d x ↔ (L ≠ O ∨ PD < 0 ∨ 999 < Y) := by
    unfold bRf
    rw [← e4, hp, hy]
    refine or_congr ?_ Iff.rfl
    rw [← hl, ← ho]
    exact not_congr Int32.toInt_inj.symm
  rcases hr with ⟨a, b1, c1⟩ | ⟨a, b1, c1⟩
  · exact Or.inl ⟨hq.mpr a, b1, c1⟩
  · exact Or.inr ⟨fun z => by have := hq.mp z; omega, b1, c1⟩
/-- wet -/
def Ewt (h h' : Hp) (k i : Nat) (G B : Prop) (v r : Int32) : Prop := G ∧ ¬ B ∧ h' = pI h k i v ∧ r = h.1 k i ∨ G ∧ B ∧ h' = h ∧ r.toInt = -2 ∨ ¬ G ∧ h' = h ∧ r.toInt = -1
