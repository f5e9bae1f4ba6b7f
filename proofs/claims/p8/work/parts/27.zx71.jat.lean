theorem x_D_111 {b : Int → Int} {T : Nat → Int → Int} {D : Nat → Int} {p : Int} (h : (x_line b T (D 86) p).1 = 0) (g : x_good D) : x_D b D p 111 = D 111 := by
  have hH : x_cH b T (D 86) p = 0 := (x_sq_0 h).1
  have hs := x_cH_s b T (D 86) p
  have hb := x_ln_b b (x_fr b p) (x_en b p)
  have hl : x_li b p = 0 ∨ x_li b p = 1 ∨ x_li b p = 2 ∨ x_li b p = 3 ∨ x_li b p = 4 ∨ x_li b p = 5 ∨ x_li b p = 6 ∨ x_li b p = 7 ∨ x_li b p = 8 ∨ x_li b p = 9 := by
    have e : x_li b p = x_ln b (x_fr b p) (x_en b p) := rfl
    have h2 : x_li b p ≠ -1 := by
      rcases hs with q | q | q | q | q | q
      · exact absurd (q.2.symm.trans hH) (by decide)
      · exact absurd (q.2.2.symm.trans hH) (by decide)
      · exact absurd (q.2.2.symm.trans hH) (by decide)
      · exact q.2.1
      · omega
      · exact q.2.1
    omega
  rcases hl with hl | hl | hl | hl | hl | hl | hl | hl | hl | hl
  · rw [x_line_0 rfl hH hl] at h
    rw [x_D_0 D rfl hl]
    rw [x_up_n (i := 111) (by decide), x_up_n (i := 111) (by decide)]
  · rw [x_line_1 rfl hH hl] at h
    rw [x_D_1 D rfl hl]
    unfold x_l1 at h
    have h1 := x_sq_0 h
    have a1 := x_cN_s b (x_en b p) 0 15
    exact x_up_n (by (first | decide +kernel | omega))
  · rw [x_line_2 rfl hH hl] at h
    rw [x_D_2 D rfl hl]
    unfold x_l2 at h
    have h1 := x_sq_0 h
    have a1 := x_cN_s b (x_en b p) 0 15
    exact x_up_n (by (first | decide +kernel | omega))
  · rw [x_line_3 rfl hH hl] at h
    rw [x_D_3 D rfl hl]
    unfold x_l3 at h
    have h1 := x_sq_0 h
    have a1 := x_cN_s b (x_en b p) 0 15
    exact x_up_n (by (first | decide +kernel | omega))
  · rw [x_line_4 rfl hH hl] at h
    rw [x_D_4 D rfl hl]
    unfold x_l4 at h
    have h1 := x_sq_0 h
    have a1 := x_cN_s b (x_en b p) 0 15
    exact x_up_n (by (first | decide +kernel | omega))
  · rw [x_line_5 rfl hH hl] at h
    rw [x_D_5 D rfl hl]
    unfold x_l5 at h
    have h1 := x_sq_0 h
    have a1 := x_cN_s b (x_en b p) 0 3
    exact x_up_n (by (first | decide +kernel | omega))
  · rw [x_line_6 rfl hH hl] at h
    rw [x_D_6 D rfl hl]
    exact x_up_n (by decide)
  · rw [x_line_7 rfl hH hl] at h
    rw [x_D_7 D rfl hl]
    exact x_up_n (by decide)
  · rw [x_line_8 rfl hH hl] at h
    rw [x_D_8 D rfl hl]
    rw [x_up_n (i := 111) (by decide), x_up_n (i := 111) (by decide)]
  · rw [x_line_9 rfl hH hl] at h
    rw [x_D_9 D rfl hl]
    have hm : D 86 < 8 := by
      rcases hs with q | q | q | q | q | q
      · exact absurd (q.2.symm.trans hH) (by decide)
      · exact absurd (q.2.2.symm.trans hH) (by decide)
      · exact absurd (q.2.2.symm.trans hH) (by decide)
      · exact absurd (q.2.2.2.symm.trans hH) (by decide)
      · exact absurd (q.2.2.2.symm.trans hH) (by decide)
      · omega
    unfold x_good at g
    rw [x_up_n (i := 111) (by (first | decide +kernel | omega)), x_up_n (i := 111) (by (first | decide +kernel | omega)), x_up_n (i := 111) (by (first | decide +kernel | omega)), x_up_n (i := 111) (by (first | decide +kernel | omega))]
theorem x_111 {b : Int → Int} : ∀ k : Nat, x_ok b k → (x_st b k).2.1 111 = 0 := by
  intro k
  induction k with
  | zero => intro _; rfl
  | succ k ih => intro h; exact (x_D_111 (h k (by (first | decide +kernel | omega))).2 (x_good_k k (fun j hj => h j (by (first | decide +kernel | omega))))).trans (ih (fun j hj => h j (by (first | decide +kernel | omega))))
def TC (h : Hp) (D : Nat → Int) : Prop := (∀ k i d : Nat, dof (68 + k) i = some d → (h.1 k i).toInt = D d) ∧ ∀ i : Nat, i < 8 → (i : Int) < D 86 → (h.1 9 i).toInt = D (87 + 3 * i) ∧ (h.1 10 i).toInt = D (88 + 3 * i) ∧ (h.1 11 i).toInt = D (89 + 3 * i)
def TK (h h' : Hp) (e : Int) (D : Nat → Int) : Prop := e = 0 ∧ TC h' D ∧ h'.1 87 0 = 0 ∧ h'.1 87 1 = 0 ∨ e ≠ 0 ∧ ∀ k i : Nat, k ≤ 16 ∨ k = 87 → h'.1 k i = h.1 k i
theorem TC_of {h h1 : Hp} {T : Nat → Int → Int} {D : Nat → Int} (r : RC h T D) (c : cpy h h1 0 68) : TC h1 D := by
  refine ⟨fun k i d hd => ?_, fun i hi hc => ?_⟩
  · have g := c k i (dof_c hd).1
    rw [Nat.zero_add] at g
    rw [g]
    exact r.2.1 _ i d hd
  · have g9 := c 9 i (by unfold cpl; omega)
    have g10 := c 10 i (by unfold cpl; omega)
    have g11 := c 11 i (by unfold cpl; omega)
    rw [Nat.zero_add] at g9 g10 g11
    rw [g9, g10, g11]
    exact r.2.2 i hc
theorem TC_ne {h h1 : Hp} {D : Nat → Int} {k' i' : Nat} {x : Int32} (r : TC h D) (e : h1 = pI h k' i' x) (hk : 16 < k') : TC h1 D := by
  refine ⟨fun k i d hd => ?_, fun i hi hc => ?_⟩
  · have := cpl_k (dof_c hd).1
    rw [e, pI_at, if_neg (by (first | decide +kernel | omega))]
    exact r.1 k i d hd
  · rw [e, pI_at, if_neg (by (first | decide +kernel | omega)), pI_at, if_neg (by (first | decide +kernel | omega)), pI_at, if_neg (by (first | decide +kernel | omega))]
    exact r.2 i hi hc
def SC (h h' : Hp) : Prop := ∀ k i : Nat, k ≤ 16 ∨ k = 87 → h'.1 k i = h.1 k i
theorem SC_rf {h : Hp} : SC h h := fun _ _ _ => rfl
theorem SC_fr {S : List (Nat × Option Nat)} {h h1 h2 : Hp} (r : SC h h1) (f : fr S h1 h2) (c1 : ckS S 0 16 = true) (c2 : ckS S 87 87 = true) : SC h h2 := fun k i hk => by
  have : inS S k i = false := by
    rcases hk with hk | hk
    · exact ckS_no c1 (by (first | decide +kernel | omega)) hk
    · exact ckS_no c2 (by (first | decide +kernel | omega)) (by (first | decide +kernel | omega))
  rw [f.1 k i this]
  exact r k i hk
theorem SC_ne {h h1 h2 : Hp} {k' i' : Nat} {x : Int32} (r : SC h h1) (e : h2 = pI h1 k' i' x) (hk : 16 < k' ∧ k' ≠ 87) : SC h h2 := fun k i h3 => by
  rw [e, pI_at, if_neg (by (first | decide +kernel | omega))]
  exact r k i h3
theorem JA_new {h : Hp} {D : Nat → Int} (c : TC h D) (m : MC h D) (h111 : D 111 = 0) (k0 : h.1 87 0 = 0) (k1 : h.1 87 1 = 0) (l0 : h.1 118 0 = 0) (l1 : h.1 118 1 = 0) : JA h := by
  obtain ⟨m1, m2, m3, m4, m5⟩ := m
  refine ⟨⟨fun k i d hd ha => ?_, fun i hi hc => ?_, fun i hi hc => ?_⟩, ⟨by rw [k0, l0], by rw [k1, l1]⟩, fun q => absurd k0 q, fun q => absurd k1 q⟩
  · have q := dof_c hd
    rw [Nat.zero_add]
    refine Int32.toInt_inj.mp ?_
    rw [c.1 k i d hd]
    by_cases w : d < 144
    · rw [mK_lt w, mJ_lt w, Nat.zero_add]
      exact (m1 d w).symm
    · rw [mK_ge w, mJ_ge w]
      rcases (by (first | decide +kernel | omega) : d = 144 ∨ d = 145 ∨ d = 146 ∨ d = 147) with rfl | rfl | rfl | rfl
      · exact m2.symm
      · exact m3.symm
      · exact m4.symm
      · exact m5.symm
  · rw [Nat.zero_add, c.1 7 4 86 rfl] at hc
    obtain ⟨a1, a2, a3⟩ := c.2 i hi hc
    rw [Nat.zero_add, Nat.zero_add, Nat.zero_add, Nat.zero_add, Nat.zero_add, Nat.zero_add]
    exact ⟨Int32.toInt_inj.mp (a1.trans (m1 _ (by (first | decide +kernel | omega))).symm), Int32.toInt_inj.mp (a2.trans (m1 _ (by (first | decide +kernel | omega))).symm), Int32.toInt_inj.mp (a3.trans (m1 _ (by (first | decide +kernel | omega))).symm)⟩
  · rw [Nat.zero_add, c.1 12 4 111 rfl, h111] at hc
    omega
theorem TC_fr {S : List (Nat × Option Nat)} {h h1 : Hp} {D : Nat → Int} (r : TC h D) (f : fr S h h1) (c : ckS S 0 16 = true) : TC h1 D := by
  refine ⟨fun k i d hd => ?_, fun i hi hc => ?_⟩
  · rw [f.1 k i (ckS_no c (by (first | decide +kernel | omega)) (cpl_k (dof_c hd).1))]
    exact r.1 k i d hd
  · rw [f.1 9 i (ckS_no c (by (first | decide +kernel | omega)) (by (first | decide +kernel | omega))), f.1 10 i (ckS_no c (by (first | decide +kernel | omega)) (by (first | decide +kernel | omega))), f.1 11 i (ckS_no c (by (first | decide +kernel | omega)) (by (first | decide +kernel | omega)))]
    exact r.2 i hi hc
theorem JA_text {S1 S2 : List (Nat × Option Nat)} {h h1 h2 : Hp} {b : Int → Int} {s e1 e2 : Int} {r1 r2 : Int32} {n1 n2 : Nat} (r : JA h) (f1 : fr S1 h h1) (f2 : fr S2 h1 h2) (X1 : x_tx b s r1 e1 n1) (X2 : x_tx b s r2 e2 n2) (t : TK h h1 e1 (x_st b n1).2.1) (m : MK h1 h2 e2 (x_st b n2).2.1) (s1 : ckS S1 34 67 = true) (s2 : ckS S1 116 118 = true) (s3 : ckS S2 0 115 = true) : JA h2 := by
  obtain ⟨hn, hr, hu⟩ := x_tx_un X1 X2
  subst hn
  subst hu
  have c6 : ∀ k i : Nat, k ≤ 115 → h2.1 k i = h1.1 k i := fun k i hk => f2.1 _ _ (ckS_no s3 (by (first | decide +kernel | omega)) hk)
  rcases t with ⟨t0, t1, t2, t3⟩ | ⟨t0, t1⟩
  · rcases m with ⟨m0, m1, m2, m3⟩ | ⟨m0, m1⟩
    · exact JA_new (TC_fr t1 f2 (by
        refine List.all_eq_true.mpr (fun q hq => ?_)
        have := of_decide_eq_true (List.all_eq_true.mp s3 q hq)
        exact decide_eq_true (by (first | decide +kernel | omega)))) m1 (x_111 n1 X1.1.1) (by rw [c6 _ _ (by (first | decide +kernel | omega))]; exact t2) (by rw [c6 _ _ (by (first | decide +kernel | omega))]; exact t3) m2 m3
    · exact absurd t0 m0
  · rcases m with ⟨m0, m1, m2, m3⟩ | ⟨m0, m1⟩
    · exact absurd m0 t0
    · have mm : ∀ k i : Nat, 116 ≤ k → k ≤ 118 → h1.1 k i = h.1 k i := fun k i p q => f1.1 _ _ (ckS_no s2 p q)
      refine JA_at (fun k i hk => ?_) r
      rcases hk with hk | hk | hk | hk | hk | hk
      · have := cpl_k hk.1
        rw [c6 _ _ (by (first | decide +kernel | omega))]
        exact t1 k i (Or.inl this)
      · rw [c6 _ _ (by (first | decide +kernel | omega))]
        exact f1.1 _ _ (ckS_no s1 hk.1 hk.2)
      · rw [hk, c6 _ _ (by (first | decide +kernel | omega))]
        exact t1 87 i (Or.inr rfl)
      · rw [m1 k i (Or.inr (Or.inl hk)), mm _ _ (by (first | decide +kernel | omega)) (by (first | decide +kernel | omega))]
      · rw [m1 k i (Or.inl hk.1), mm _ _ (by (first | decide +kernel | omega)) (by (first | decide +kernel | omega))]
      · rw [m1 k i (Or.inr (Or.inr hk)), mm _ _ (by (first | decide +kernel | omega)) (by (first | decide +kernel | omega))]
