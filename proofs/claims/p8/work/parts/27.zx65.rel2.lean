theorem JA_owe1 {h h1 h2 : Hp} {a b v u : Int32} {t : Int} (r : JA h) (ht : 0 ≤ t ∧ t < 8) (h7 : (h.1 7 4).toInt = t) (hu : u.toInt = t + 1) (e1 : h1 = pI (pI (pI (pI h 9 t.toNat a) 10 t.toNat b) 11 t.toNat v) 7 4 u) (e2 : h2 = pI (pI (pI (pI h1 117 (87 + 3 * t).toNat a) 117 (87 + 3 * t + 1).toNat b) 117 (87 + 3 * t + 2).toNat v) 117 86 u) : JA h2 := by
  have cell : ∀ k i : Nat, k ≠ 7 → k ≠ 9 → k ≠ 10 → k ≠ 11 → ¬ (k = 117 ∧ 86 ≤ i ∧ i ≤ 110) → h2.1 k i = h.1 k i := fun k i a1 a2 a3 a4 a5 => by
    rw [e2, pI_at, if_neg (by (first | decide +kernel | omega)), pI_at, if_neg (by (first | decide +kernel | omega)), pI_at, if_neg (by (first | decide +kernel | omega)), pI_at, if_neg (by (first | decide +kernel | omega)), e1, pI_at, if_neg (by (first | decide +kernel | omega)), pI_at, if_neg (by (first | decide +kernel | omega)), pI_at, if_neg (by (first | decide +kernel | omega)), pI_at, if_neg (by (first | decide +kernel | omega))]
  have c7 : h2.1 7 4 = u := by rw [e2, pI_at, if_neg (by (first | decide +kernel | omega)), pI_at, if_neg (by (first | decide +kernel | omega)), pI_at, if_neg (by (first | decide +kernel | omega)), pI_at, if_neg (by (first | decide +kernel | omega)), e1, pI_at, if_pos (by (first | decide +kernel | omega))]
  have c86 : h2.1 117 86 = u := by rw [e2, pI_at, if_pos (by (first | decide +kernel | omega))]
  refine JA_rest r ⟨fun k i d hd ha => ?_, fun j hj hc => ?_, fun j hj hc => ?_⟩ (fun k i w => cell k i (by (first | decide +kernel | omega)) (by (first | decide +kernel | omega)) (by (first | decide +kernel | omega)) (by (first | decide +kernel | omega)) (by (first | decide +kernel | omega)))
  · have q := dof_k hd
    have q2 := dof_c hd
    rw [Nat.zero_add]
    by_cases w : d = 86
    · subst w
      have a2 := dofi_of hd
      have a3 : 68 + k = 75 := (congrArg Prod.fst a2).symm
      have a4 : i = 4 := (congrArg Prod.snd a2).symm
      obtain rfl : k = 7 := by (first | decide +kernel | omega)
      subst a4
      rw [mK_lt (by decide), mJ_lt (by decide), Nat.zero_add, c7, c86]
    · have k7 : k ≠ 7 := fun c => by
        subst c
        exact w (dof_86 hd)
      have g := r.1.1 k i d hd ha
      rw [Nat.zero_add] at g
      rw [cell k i k7 (by (first | decide +kernel | omega)) (by (first | decide +kernel | omega)) (by (first | decide +kernel | omega)) (by (first | decide +kernel | omega)), g]
      by_cases z : d < 144
      · rw [mK_lt z, mJ_lt z, Nat.zero_add, cell 117 d (by (first | decide +kernel | omega)) (by (first | decide +kernel | omega)) (by (first | decide +kernel | omega)) (by (first | decide +kernel | omega)) (by (first | decide +kernel | omega))]
      · rw [mK_ge z, mJ_ge z, cell 116 _ (by (first | decide +kernel | omega)) (by (first | decide +kernel | omega)) (by (first | decide +kernel | omega)) (by (first | decide +kernel | omega)) (by (first | decide +kernel | omega))]
  · rw [Nat.zero_add] at hc
    rw [c7, hu] at hc
    rw [Nat.zero_add, Nat.zero_add, Nat.zero_add, Nat.zero_add, Nat.zero_add, Nat.zero_add]
    by_cases w : j = t.toNat
    · subst w
      refine ⟨?_, ?_, ?_⟩
      · have p1 : h2.1 9 t.toNat = a := by rw [e2, pI_at, if_neg (by (first | decide +kernel | omega)), pI_at, if_neg (by (first | decide +kernel | omega)), pI_at, if_neg (by (first | decide +kernel | omega)), pI_at, if_neg (by (first | decide +kernel | omega)), e1, pI_at, if_neg (by (first | decide +kernel | omega)), pI_at, if_neg (by (first | decide +kernel | omega)), pI_at, if_neg (by (first | decide +kernel | omega)), pI_at, if_pos (by (first | decide +kernel | omega))]
        have p2 : h2.1 117 (87 + 3 * t.toNat) = a := by rw [e2, pI_at, if_neg (by (first | decide +kernel | omega)), pI_at, if_neg (by (first | decide +kernel | omega)), pI_at, if_neg (by (first | decide +kernel | omega)), pI_at, if_pos (by (first | decide +kernel | omega))]
        rw [p1, p2]
      · have p1 : h2.1 10 t.toNat = b := by rw [e2, pI_at, if_neg (by (first | decide +kernel | omega)), pI_at, if_neg (by (first | decide +kernel | omega)), pI_at, if_neg (by (first | decide +kernel | omega)), pI_at, if_neg (by (first | decide +kernel | omega)), e1, pI_at, if_neg (by (first | decide +kernel | omega)), pI_at, if_neg (by (first | decide +kernel | omega)), pI_at, if_pos (by (first | decide +kernel | omega))]
        have p2 : h2.1 117 (88 + 3 * t.toNat) = b := by rw [e2, pI_at, if_neg (by (first | decide +kernel | omega)), pI_at, if_neg (by (first | decide +kernel | omega)), pI_at, if_pos (by (first | decide +kernel | omega))]
        rw [p1, p2]
      · have p1 : h2.1 11 t.toNat = v := by rw [e2, pI_at, if_neg (by (first | decide +kernel | omega)), pI_at, if_neg (by (first | decide +kernel | omega)), pI_at, if_neg (by (first | decide +kernel | omega)), pI_at, if_neg (by (first | decide +kernel | omega)), e1, pI_at, if_neg (by (first | decide +kernel | omega)), pI_at, if_pos (by (first | decide +kernel | omega))]
        have p2 : h2.1 117 (89 + 3 * t.toNat) = v := by rw [e2, pI_at, if_neg (by (first | decide +kernel | omega)), pI_at, if_pos (by (first | decide +kernel | omega))]
        rw [p1, p2]
    · have cj : ∀ k i : Nat, k = 9 ∧ i = j ∨ k = 10 ∧ i = j ∨ k = 11 ∧ i = j ∨ k = 117 ∧ (i = 87 + 3 * j ∨ i = 88 + 3 * j ∨ i = 89 + 3 * j) → h2.1 k i = h.1 k i := fun k i a1 => by
        rw [e2, pI_at, if_neg (by (first | decide +kernel | omega)), pI_at, if_neg (by (first | decide +kernel | omega)), pI_at, if_neg (by (first | decide +kernel | omega)), pI_at, if_neg (by (first | decide +kernel | omega)), e1, pI_at, if_neg (by (first | decide +kernel | omega)), pI_at, if_neg (by (first | decide +kernel | omega)), pI_at, if_neg (by (first | decide +kernel | omega)), pI_at, if_neg (by (first | decide +kernel | omega))]
      have g := r.1.2.1 j hj (by rw [Nat.zero_add]; omega)
      rw [Nat.zero_add, Nat.zero_add, Nat.zero_add, Nat.zero_add, Nat.zero_add, Nat.zero_add] at g
      rw [cj 9 j (by (first | decide +kernel | omega)), cj 10 j (by (first | decide +kernel | omega)), cj 11 j (by (first | decide +kernel | omega)), cj 117 _ (by (first | decide +kernel | omega)), cj 117 _ (by (first | decide +kernel | omega)), cj 117 _ (by (first | decide +kernel | omega))]
      exact g
  · rw [Nat.zero_add, cell 12 4 (by (first | decide +kernel | omega)) (by (first | decide +kernel | omega)) (by (first | decide +kernel | omega)) (by (first | decide +kernel | omega)) (by (first | decide +kernel | omega))] at hc
    rw [cell _ _ (by (first | decide +kernel | omega)) (by (first | decide +kernel | omega)) (by (first | decide +kernel | omega)) (by (first | decide +kernel | omega)) (by (first | decide +kernel | omega)), cell _ _ (by (first | decide +kernel | omega)) (by (first | decide +kernel | omega)) (by (first | decide +kernel | omega)) (by (first | decide +kernel | omega)) (by (first | decide +kernel | omega)), cell _ _ (by (first | decide +kernel | omega)) (by (first | decide +kernel | omega)) (by (first | decide +kernel | omega)) (by (first | decide +kernel | omega)) (by (first | decide +kernel | omega)), cell _ _ (by (first | decide +kernel | omega)) (by (first | decide +kernel | omega)) (by (first | decide +kernel | omega)) (by (first | decide +kernel | omega)) (by (first | decide +kernel | omega)), cell _ _ (by (first | decide +kernel | omega)) (by (first | decide +kernel | omega)) (by (first | decide +kernel | omega)) (by (first | decide +kernel | omega)) (by (first | decide +kernel | omega)), cell _ _ (by (first | decide +kernel | omega)) (by (first | decide +kernel | omega)) (by (first | decide +kernel | omega)) (by (first | decide +kernel | omega)) (by (first | decide +kernel | omega)), cell _ _ (by (first | decide +kernel | omega)) (by (first | decide +kernel | omega)) (by (first | decide +kernel | omega)) (by (first | decide +kernel | omega)) (by (first | decide +kernel | omega)), cell _ _ (by (first | decide +kernel | omega)) (by (first | decide +kernel | omega)) (by (first | decide +kernel | omega)) (by (first | decide +kernel | omega)) (by (first | decide +kernel | omega))]
    exact r.1.2.2 j hj (by rw [Nat.zero_add]; exact hc)
theorem JA_see1 {h h1 h2 : Hp} {a b v x u : Int32} {t : Int} (r : JA h) (ht : 0 ≤ t ∧ t < 8) (h7 : (h.1 12 4).toInt = t) (hu : u.toInt = t + 1) (e1 : h1 = pI (pI (pI (pI (pI h 13 t.toNat a) 14 t.toNat b) 15 t.toNat v) 16 t.toNat x) 12 4 u) (e2 : h2 = pI (pI (pI (pI (pI h1 117 (112 + 4 * t).toNat a) 117 (112 + 4 * t + 1).toNat b) 117 (112 + 4 * t + 2).toNat v) 117 (112 + 4 * t + 3).toNat x) 117 111 u) : JA h2 := by
  have cell : ∀ k i : Nat, k ≤ 11 ∨ 16 < k ∧ ¬ (k = 117 ∧ 111 ≤ i ∧ i ≤ 143) → h2.1 k i = h.1 k i := fun k i a1 => by
    rw [e2, pI_at, if_neg (by (first | decide +kernel | omega)), pI_at, if_neg (by (first | decide +kernel | omega)), pI_at, if_neg (by (first | decide +kernel | omega)), pI_at, if_neg (by (first | decide +kernel | omega)), pI_at, if_neg (by (first | decide +kernel | omega)), e1, pI_at, if_neg (by (first | decide +kernel | omega)), pI_at, if_neg (by (first | decide +kernel | omega)), pI_at, if_neg (by (first | decide +kernel | omega)), pI_at, if_neg (by (first | decide +kernel | omega)), pI_at, if_neg (by (first | decide +kernel | omega))]
  have c7 : h2.1 12 4 = u := by rw [e2, pI_at, if_neg (by (first | decide +kernel | omega)), pI_at, if_neg (by (first | decide +kernel | omega)), pI_at, if_neg (by (first | decide +kernel | omega)), pI_at, if_neg (by (first | decide +kernel | omega)), pI_at, if_neg (by (first | decide +kernel | omega)), e1, pI_at, if_pos (by (first | decide +kernel | omega))]
  have c86 : h2.1 117 111 = u := by rw [e2, pI_at, if_pos (by (first | decide +kernel | omega))]
  refine JA_rest r ⟨fun k i d hd ha => ?_, fun j hj hc => ?_, fun j hj hc => ?_⟩ (fun k i w => cell k i (by (first | decide +kernel | omega)))
  · have q := dof_k hd
    have q2 := dof_c hd
    rw [Nat.zero_add]
    by_cases w : d = 111
    · subst w
      have a2 := dofi_of hd
      have a3 : 68 + k = 80 := (congrArg Prod.fst a2).symm
      have a4 : i = 4 := (congrArg Prod.snd a2).symm
      obtain rfl : k = 12 := by (first | decide +kernel | omega)
      subst a4
      rw [mK_lt (by decide), mJ_lt (by decide), Nat.zero_add, c7, c86]
    · have k7 : k ≠ 12 := fun c => by
        subst c
        exact w (dof_111 hd)
      have g := r.1.1 k i d hd ha
      rw [Nat.zero_add] at g
      rw [cell k i (by (first | decide +kernel | omega)), g]
      by_cases z : d < 144
      · rw [mK_lt z, mJ_lt z, Nat.zero_add, cell 117 d (by (first | decide +kernel | omega))]
      · rw [mK_ge z, mJ_ge z, cell 116 _ (by (first | decide +kernel | omega))]
  · rw [Nat.zero_add, cell 7 4 (by (first | decide +kernel | omega))] at hc
    rw [cell _ _ (by (first | decide +kernel | omega)), cell _ _ (by (first | decide +kernel | omega)), cell _ _ (by (first | decide +kernel | omega)), cell _ _ (by (first | decide +kernel | omega)), cell _ _ (by (first | decide +kernel | omega)), cell _ _ (by (first | decide +kernel | omega))]
    exact r.1.2.1 j hj (by rw [Nat.zero_add]; exact hc)
  · rw [Nat.zero_add] at hc
    rw [c7, hu] at hc
    rw [Nat.zero_add, Nat.zero_add, Nat.zero_add, Nat.zero_add, Nat.zero_add, Nat.zero_add, Nat.zero_add, Nat.zero_add]
    by_cases w : j = t.toNat
    · subst w
      refine ⟨?_, ?_, ?_, ?_⟩
      · have p1 : h2.1 13 t.toNat = a := by rw [e2, pI_at, if_neg (by (first | decide +kernel | omega)), pI_at, if_neg (by (first | decide +kernel | omega)), pI_at, if_neg (by (first | decide +kernel | omega)), pI_at, if_neg (by (first | decide +kernel | omega)), pI_at, if_neg (by (first | decide +kernel | omega)), e1, pI_at, if_neg (by (first | decide +kernel | omega)), pI_at, if_neg (by (first | decide +kernel | omega)), pI_at, if_neg (by (first | decide +kernel | omega)), pI_at, if_neg (by (first | decide +kernel | omega)), pI_at, if_pos (by (first | decide +kernel | omega))]
        have p2 : h2.1 117 (112 + 4 * t.toNat) = a := by rw [e2, pI_at, if_neg (by (first | decide +kernel | omega)), pI_at, if_neg (by (first | decide +kernel | omega)), pI_at, if_neg (by (first | decide +kernel | omega)), pI_at, if_neg (by (first | decide +kernel | omega)), pI_at, if_pos (by (first | decide +kernel | omega))]
        rw [p1, p2]
      · have p1 : h2.1 14 t.toNat = b := by rw [e2, pI_at, if_neg (by (first | decide +kernel | omega)), pI_at, if_neg (by (first | decide +kernel | omega)), pI_at, if_neg (by (first | decide +kernel | omega)), pI_at, if_neg (by (first | decide +kernel | omega)), pI_at, if_neg (by (first | decide +kernel | omega)), e1, pI_at, if_neg (by (first | decide +kernel | omega)), pI_at, if_neg (by (first | decide +kernel | omega)), pI_at, if_neg (by (first | decide +kernel | omega)), pI_at, if_pos (by (first | decide +kernel | omega))]
        have p2 : h2.1 117 (113 + 4 * t.toNat) = b := by rw [e2, pI_at, if_neg (by (first | decide +kernel | omega)), pI_at, if_neg (by (first | decide +kernel | omega)), pI_at, if_neg (by (first | decide +kernel | omega)), pI_at, if_pos (by (first | decide +kernel | omega))]
        rw [p1, p2]
      · have p1 : h2.1 15 t.toNat = v := by rw [e2, pI_at, if_neg (by (first | decide +kernel | omega)), pI_at, if_neg (by (first | decide +kernel | omega)), pI_at, if_neg (by (first | decide +kernel | omega)), pI_at, if_neg (by (first | decide +kernel | omega)), pI_at, if_neg (by (first | decide +kernel | omega)), e1, pI_at, if_neg (by (first | decide +kernel | omega)), pI_at, if_neg (by (first | decide +kernel | omega)), pI_at, if_pos (by (first | decide +kernel | omega))]
        have p2 : h2.1 117 (114 + 4 * t.toNat) = v := by rw [e2, pI_at, if_neg (by (first | decide +kernel | omega)), pI_at, if_neg (by (first | decide +kernel | omega)), pI_at, if_pos (by (first | decide +kernel | omega))]
        rw [p1, p2]
      · have p1 : h2.1 16 t.toNat = x := by rw [e2, pI_at, if_neg (by (first | decide +kernel | omega)), pI_at, if_neg (by (first | decide +kernel | omega)), pI_at, if_neg (by (first | decide +kernel | omega)), pI_at, if_neg (by (first | decide +kernel | omega)), pI_at, if_neg (by (first | decide +kernel | omega)), e1, pI_at, if_neg (by (first | decide +kernel | omega)), pI_at, if_pos (by (first | decide +kernel | omega))]
        have p2 : h2.1 117 (115 + 4 * t.toNat) = x := by rw [e2, pI_at, if_neg (by (first | decide +kernel | omega)), pI_at, if_pos (by (first | decide +kernel | omega))]
        rw [p1, p2]
    · have cj : ∀ k i : Nat, (k = 13 ∨ k = 14 ∨ k = 15 ∨ k = 16) ∧ i = j ∨ k = 117 ∧ 112 + 4 * j ≤ i ∧ i ≤ 115 + 4 * j → h2.1 k i = h.1 k i := fun k i a1 => by
        rw [e2, pI_at, if_neg (by (first | decide +kernel | omega)), pI_at, if_neg (by (first | decide +kernel | omega)), pI_at, if_neg (by (first | decide +kernel | omega)), pI_at, if_neg (by (first | decide +kernel | omega)), pI_at, if_neg (by (first | decide +kernel | omega)), e1, pI_at, if_neg (by (first | decide +kernel | omega)), pI_at, if_neg (by (first | decide +kernel | omega)), pI_at, if_neg (by (first | decide +kernel | omega)), pI_at, if_neg (by (first | decide +kernel | omega)), pI_at, if_neg (by (first | decide +kernel | omega))]
      have g := r.1.2.2 j hj (by rw [Nat.zero_add]; omega)
      rw [Nat.zero_add, Nat.zero_add, Nat.zero_add, Nat.zero_add, Nat.zero_add, Nat.zero_add, Nat.zero_add, Nat.zero_add] at g
      rw [cj 13 j (by (first | decide +kernel | omega)), cj 14 j (by (first | decide +kernel | omega)), cj 15 j (by (first | decide +kernel | omega)), cj 16 j (by (first | decide +kernel | omega)), cj 117 _ (by (first | decide +kernel | omega)), cj 117 _ (by (first | decide +kernel | omega)), cj 117 _ (by (first | decide +kernel | omega)), cj 117 _ (by (first | decide +kernel | omega))]
      exact g
theorem same_of {x y : Int32} {a : Int} (p : x.toInt = a) (q : y.toInt = a) : x = y := Int32.toInt_inj.mp (p.trans q.symm)
theorem JA_owe {h h1 h2 : Hp} {G1 G2 : Prop} {a b v r1 r2 : Int32} {t1 t2 : Int} (r : JA h) (f1 : G1 ∧ t1 < 8 ∧ (∃ u : Int32, u.toInt = t1 + 1 ∧ h1 = pI (pI (pI (pI h 9 t1.toNat a) 10 t1.toNat b) 11 t1.toNat v) 7 4 u ∧ r1 = u) ∨ G1 ∧ 8 ≤ t1 ∧ h1 = h ∧ r1.toInt = -3 ∨ ¬ G1 ∧ h1 = h ∧ r1.toInt = -1) (f2 : G2 ∧ t2 < 8 ∧ (∃ u : Int32, u.toInt = t2 + 1 ∧ h2 = pI (pI (pI (pI h1 117 (87 + 3 * t2).toNat a) 117 (87 + 3 * t2 + 1).toNat b) 117 (87 + 3 * t2 + 2).toNat v) 117 86 u ∧ r2 = u) ∨ G2 ∧ 8 ≤ t2 ∧ h2 = h1 ∧ r2.toInt = -3 ∨ ¬ G2 ∧ h2 = h1 ∧ r2.toInt = -1) (hG : G1 ↔ G2) (h0 : 0 ≤ t1) (ht : t2 = t1) (h7 : (h.1 7 4).toInt = t1) : JA h2 ∧ r1 = r2 := by
  subst ht
  rcases f1 with ⟨g1, l1, u1, p1, e1, q1⟩ | ⟨g1, l1, e1, q1⟩ | ⟨g1, e1, q1⟩
  · rcases f2 with ⟨g2, l2, u2, p2, e2, q2⟩ | ⟨g2, l2, e2, q2⟩ | ⟨g2, e2, q2⟩
    · have hu : u2 = u1 := same_of p2 p1
      subst hu
      exact ⟨JA_owe1 r ⟨h0, l1⟩ h7 p1 e1 e2, by rw [q1, q2]⟩
    · omega
    · exact absurd (hG.mp g1) g2
  · rcases f2 with ⟨g2, l2, u2, p2, e2, q2⟩ | ⟨g2, l2, e2, q2⟩ | ⟨g2, e2, q2⟩
    · omega
    · rw [e1] at e2
      rw [e2]
      exact ⟨r, same_of q1 q2⟩
    · exact absurd (hG.mp g1) g2
  · rcases f2 with ⟨g2, l2, u2, p2, e2, q2⟩ | ⟨g2, l2, e2, q2⟩ | ⟨g2, e2, q2⟩
    · exact absurd (hG.mpr g2) g1
    · exact absurd (hG.mpr g2) g1
    · rw [e1] at e2
      rw [e2]
      exact ⟨r, same_of q1 q2⟩
theorem JA_see {h h1 h2 : Hp} {G1 G2 : Prop} {a b v r1 r2 : Int32} {t1 t2 z : Int} (r : JA h) (f1 : G1 ∧ t1 < 8 ∧ (∃ u x : Int32, u.toInt = t1 + 1 ∧ (z ≠ 0 ∧ x.toInt = 1 ∨ z = 0 ∧ x.toInt = 0) ∧ h1 = pI (pI (pI (pI (pI h 13 t1.toNat a) 14 t1.toNat b) 15 t1.toNat v) 16 t1.toNat x) 12 4 u ∧ r1 = u) ∨ G1 ∧ 8 ≤ t1 ∧ h1 = h ∧ r1.toInt = -3 ∨ ¬ G1 ∧ h1 = h ∧ r1.toInt = -1) (f2 : G2 ∧ t2 < 8 ∧ (∃ u x : Int32, u.toInt = t2 + 1 ∧ (z ≠ 0 ∧ x.toInt = 1 ∨ z = 0 ∧ x.toInt = 0) ∧ h2 = pI (pI (pI (pI (pI h1 117 (112 + 4 * t2).toNat a) 117 (112 + 4 * t2 + 1).toNat b) 117 (112 + 4 * t2 + 2).toNat v) 117 (112 + 4 * t2 + 3).toNat x) 117 111 u ∧ r2 = u) ∨ G2 ∧ 8 ≤ t2 ∧ h2 = h1 ∧ r2.toInt = -3 ∨ ¬ G2 ∧ h2 = h1 ∧ r2.toInt = -1) (hG : G1 ↔ G2) (h0 : 0 ≤ t1) (ht : t2 = t1) (h7 : (h.1 12 4).toInt = t1) : JA h2 ∧ r1 = r2 := by
  subst ht
  rcases f1 with ⟨g1, l1, u1, x1, p1, w1, e1, q1⟩ | ⟨g1, l1, e1, q1⟩ | ⟨g1, e1, q1⟩
  · rcases f2 with ⟨g2, l2, u2, x2, p2, w2, e2, q2⟩ | ⟨g2, l2, e2, q2⟩ | ⟨g2, e2, q2⟩
    · have hu : u2 = u1 := same_of p2 p1
      have hx : x2 = x1 := by
        rcases w1 with ⟨a1, b1⟩ | ⟨a1, b1⟩ <;> rcases w2 with ⟨a2, b2⟩ | ⟨a2, b2⟩
        · exact same_of b2 b1
        · exact absurd a2 a1
        · exact absurd a1 a2
        · exact same_of b2 b1
      subst hu
      subst hx
      exact ⟨JA_see1 r ⟨h0, l1⟩ h7 p1 e1 e2, by rw [q1, q2]⟩
    · omega
    · exact absurd (hG.mp g1) g2
  · rcases f2 with ⟨g2, l2, u2, x2, p2, w2, e2, q2⟩ | ⟨g2, l2, e2, q2⟩ | ⟨g2, e2, q2⟩
    · omega
    · rw [e1] at e2
      rw [e2]
      exact ⟨r, same_of q1 q2⟩
    · exact absurd (hG.mp g1) g2
  · rcases f2 with ⟨g2, l2, u2, x2, p2, w2, e2, q2⟩ | ⟨g2, l2, e2, q2⟩ | ⟨g2, e2, q2⟩
    · exact absurd (hG.mpr g2) g1
    · exact absurd (hG.mpr g2) g1
    · rw [e1] at e2
      rw [e2]
      exact ⟨r, same_of q1 q2⟩
def rcp (h h' : Hp) (k1 k0 n : Nat) : Prop := ∀ i : Nat, i < n → h'.1 k1 i = h.1 k0 i
theorem rcp_now {S : List (Nat × Option Nat)} {h h1 h2 : Hp} {k1 k0 n : Nat} (f : fr S h h1) (hs : ∀ i : Nat, inS S k0 i = false) (e : h2 = pR h1 k1 (va_cpy (h1.1 k0) (h1.1 k1) 0 0 n)) : rcp h h2 k1 k0 n := fun i hi => by
  rw [e, pR_eq, ← f.1 k0 i (hs i)]
  unfold va_cpy
  rw [if_pos (by (first | decide +kernel | omega)), show 0 + (i - 0) = i by (first | decide +kernel | omega)]
theorem rcp_row {h h1 h2 : Hp} {k1 k0 n k : Nat} {f : Nat → Int32} (r : rcp h h1 k1 k0 n) (e : h2 = pR h1 k f) (hk : k1 ≠ k) : rcp h h2 k1 k0 n := fun i hi => kn_row e (r i hi) hk
theorem rcp_put {h h1 h2 : Hp} {k1 k0 n k i' : Nat} {x : Int32} (r : rcp h h1 k1 k0 n) (e : h2 = pI h1 k i' x) (hk : k1 ≠ k) : rcp h h2 k1 k0 n := fun i hi => kn_ne e (r i hi) hk
def ckS (S : List (Nat × Option Nat)) (lo hi : Nat) : Bool := S.all (fun q => decide (q.1 < lo ∨ hi < q.1))
theorem ckS_no {S : List (Nat × Option Nat)} {lo hi : Nat} (hc : ckS S lo hi = true) {k i : Nat} (h1 : lo ≤ k) (h2 : k ≤ hi) : inS S k i = false := by
  unfold inS
  rw [List.any_eq_false]
  intro q hq e
  have := of_decide_eq_true (List.all_eq_true.mp hc q hq)
  rw [Bool.and_eq_true] at e
  have e2 : q.1 = k := eq_of_beq e.1
  omega
def cpy (h h' : Hp) (a b : Nat) : Prop := ∀ k i : Nat, cpl k i → h'.1 (a + k) i = h.1 (b + k) i
theorem cpy_of {S1 S2 S3 : List (Nat × Option Nat)} {h h1 h2 h3 h4 h5 : Hp} {a b : Nat} {n m : Int32}
    (qL : h1.1 (a + 1) 0 = h.1 (b + 1) 0 ∧ h1.1 (a + 1) 1 = h.1 (b + 1) 1 ∧ h1.1 (a + 1) 2 = h.1 (b + 1) 2 ∧ h1.1 (a + 1) 3 = h.1 (b + 1) 3 ∧ rcp h h1 (a + 2) (b + 2) 16 ∧ rcp h h1 (a + 3) (b + 3) 16 ∧ rcp h h1 (a + 4) (b + 4) 16 ∧ rcp h h1 (a + 5) (b + 5) 16 ∧ rcp h h1 (a + 6) (b + 6) 16) (f2 : fr S2 h1 h2)
    (qG : h2.1 (a + 7) 4 = h1.1 (b + 7) 4 ∧ rcp h1 h2 (a + 8) (b + 8) 4 ∧ rcp h1 h2 (a + 9) (b + 9) 8 ∧ rcp h1 h2 (a + 10) (b + 10) 8 ∧ rcp h1 h2 (a + 11) (b + 11) 8) (f3 : fr S3 h2 h3)
    (qS : h3.1 (a + 12) 4 = h2.1 (b + 12) 4 ∧ rcp h2 h3 (a + 13) (b + 13) 8 ∧ rcp h2 h3 (a + 14) (b + 14) 8 ∧ rcp h2 h3 (a + 15) (b + 15) 8 ∧ rcp h2 h3 (a + 16) (b + 16) 8) (f1 : fr S1 h h1) (e1 : h4 = pI h3 a 3 n) (e2 : h5 = pI h4 a 4 m) (nK : h.1 b 3 = n) (mK : h.1 b 4 = m)
    (s1 : ckS S1 b (b + 16) = true) (s2 : ckS S2 b (b + 16) = true) (s3 : ckS S2 (a + 1) (a + 6) = true) (s4 : ckS S3 (a + 1) (a + 11) = true) : cpy h h5 a b := by
  have up : ∀ k i : Nat, 1 ≤ k → h5.1 (a + k) i = h3.1 (a + k) i := fun k i hk => by rw [e2, pI_at, if_neg (by (first | decide +kernel | omega)), e1, pI_at, if_neg (by (first | decide +kernel | omega))]
  have u6 : ∀ k i : Nat, 1 ≤ k → k ≤ 6 → h5.1 (a + k) i = h1.1 (a + k) i := fun k i p q => by rw [up k i p, f3.1 _ _ (ckS_no s4 (by (first | decide +kernel | omega)) (by (first | decide +kernel | omega))), f2.1 _ _ (ckS_no s3 (by (first | decide +kernel | omega)) (by (first | decide +kernel | omega)))]
  have u11 : ∀ k i : Nat, 7 ≤ k → k ≤ 11 → h5.1 (a + k) i = h2.1 (a + k) i := fun k i p q => by rw [up k i (by (first | decide +kernel | omega)), f3.1 _ _ (ckS_no s4 (by (first | decide +kernel | omega)) (by (first | decide +kernel | omega)))]
  have d1 : ∀ k i : Nat, k ≤ 16 → h1.1 (b + k) i = h.1 (b + k) i := fun k i q => f1.1 _ _ (ckS_no s1 (by (first | decide +kernel | omega)) (by (first | decide +kernel | omega)))
  have d2 : ∀ k i : Nat, k ≤ 16 → h2.1 (b + k) i = h.1 (b + k) i := fun k i q => by rw [f2.1 _ _ (ckS_no s2 (by (first | decide +kernel | omega)) (by (first | decide +kernel | omega))), d1 k i q]
  obtain ⟨l0, l1, l2, l3, l4, l5, l6, l7, l8⟩ := qL
  obtain ⟨g0, g1, g2, g3, g4⟩ := qG
  obtain ⟨t0, t1, t2, t3, t4⟩ := qS
  intro k i hc
  unfold cpl at hc
  rcases hc with ⟨rfl, hi⟩ | ⟨rfl, hi⟩ | ⟨hk, hi⟩ | ⟨hk, rfl⟩ | ⟨rfl, hi⟩ | ⟨hk, hi⟩
  · rcases hi with rfl | rfl
    · rw [Nat.add_zero, Nat.add_zero, e2, pI_at, if_neg (by (first | decide +kernel | omega)), e1, pI_at, if_pos (by (first | decide +kernel | omega)), nK]
    · rw [Nat.add_zero, Nat.add_zero, e2, pI_at, if_pos (by (first | decide +kernel | omega)), mK]
  · rw [u6 1 i (by (first | decide +kernel | omega)) (by (first | decide +kernel | omega))]
    rcases (by (first | decide +kernel | omega) : i = 0 ∨ i = 1 ∨ i = 2 ∨ i = 3) with rfl | rfl | rfl | rfl
    · exact l0
    · exact l1
    · exact l2
    · exact l3
  · rw [u6 k i (by (first | decide +kernel | omega)) (by (first | decide +kernel | omega))]
    rcases (by (first | decide +kernel | omega) : k = 2 ∨ k = 3 ∨ k = 4 ∨ k = 5 ∨ k = 6) with rfl | rfl | rfl | rfl | rfl
    · exact l4 i hi
    · exact l5 i hi
    · exact l6 i hi
    · exact l7 i hi
    · exact l8 i hi
  · rcases hk with rfl | rfl
    · rw [u11 7 4 (by (first | decide +kernel | omega)) (by (first | decide +kernel | omega)), g0]; exact d1 7 4 (by (first | decide +kernel | omega))
    · rw [up 12 4 (by (first | decide +kernel | omega)), t0]; exact d2 12 4 (by (first | decide +kernel | omega))
  · rw [u11 8 i (by (first | decide +kernel | omega)) (by (first | decide +kernel | omega)), g1 i hi]; exact d1 8 i (by (first | decide +kernel | omega))
  · rcases (by (first | decide +kernel | omega) : k = 9 ∨ k = 10 ∨ k = 11 ∨ k = 13 ∨ k = 14 ∨ k = 15 ∨ k = 16) with rfl | rfl | rfl | rfl | rfl | rfl | rfl
    · rw [u11 9 i (by (first | decide +kernel | omega)) (by (first | decide +kernel | omega)), g2 i hi]; exact d1 9 i (by (first | decide +kernel | omega))
    · rw [u11 10 i (by (first | decide +kernel | omega)) (by (first | decide +kernel | omega)), g3 i hi]; exact d1 10 i (by (first | decide +kernel | omega))
    · rw [u11 11 i (by (first | decide +kernel | omega)) (by (first | decide +kernel | omega)), g4 i hi]; exact d1 11 i (by (first | decide +kernel | omega))
    · rw [up 13 i (by (first | decide +kernel | omega)), t1 i hi]; exact d2 13 i (by (first | decide +kernel | omega))
    · rw [up 14 i (by (first | decide +kernel | omega)), t2 i hi]; exact d2 14 i (by (first | decide +kernel | omega))
    · rw [up 15 i (by (first | decide +kernel | omega)), t3 i hi]; exact d2 15 i (by (first | decide +kernel | omega))
    · rw [up 16 i (by (first | decide +kernel | omega)), t4 i hi]; exact d2 16 i (by (first | decide +kernel | omega))
/-- the reference's copy: so many cells of it -/
def mcl (h h' : Hp) (t f k : Int) : Prop := (∀ j : Nat, (j : Int) < k → h'.1 117 (t.toNat + j) = h.1 117 (f.toNat + j)) ∧ ∀ i : Nat, (i < t.toNat ∨ t.toNat + 144 ≤ i) → h'.1 117 i = h.1 117 i
theorem mcl_0 {h : Hp} {t f : Int} : mcl h h t f 0 := ⟨fun j hj => by (first | decide +kernel | omega), fun _ _ => rfl⟩
theorem mcl_s {h h1 h2 : Hp} {t f k : Int} {y : Int32} (r : mcl h h1 t f k) (hk : 0 ≤ k ∧ k < 144) (ht : (t = 0 ∨ t = 144 ∨ t = 288) ∧ (f = 0 ∨ f = 144 ∨ f = 288)) (hne : t ≠ f) (e : h2 = pI h1 117 (t + k).toNat y) (ey : y = h1.1 117 (f + k).toNat) : mcl h h2 t f (k + 1) := by
  refine ⟨fun j hj => ?_, fun i hi => ?_⟩
  · rw [e, pI_at]
    by_cases q : j = k.toNat
    · rw [if_pos (by (first | decide +kernel | omega)), ey, r.2 _ (by (first | decide +kernel | omega)), show (f + k).toNat = f.toNat + j by (first | decide +kernel | omega)]
    · rw [if_neg (by (first | decide +kernel | omega))]
      exact r.1 j (by (first | decide +kernel | omega))
  · rw [e, pI_at, if_neg (by (first | decide +kernel | omega))]
    exact r.2 i hi
theorem mcl_T {h h' : Hp} {t T T' n : Int} (e : T = T') (r : mcl h h' t T n) : mcl h h' t T' n := by rw [← e]; exact r
def FQ (b r : Int32) : Prop := b.toInt ≠ 0 ∧ r.toInt = 1 ∨ b.toInt = 0 ∧ r.toInt = 0
theorem FQ_of {h : Hp} {y R : Int32} {Y : Int} {k jj j : Nat} (ye : y = h.1 k jj) (hj : jj = j) (yE : y.toInt = Y) (p : Y ≠ 0 ∧ R.toInt = 1 ∨ Y = 0 ∧ R.toInt = 0) : FQ (h.1 k j) R := by
  subst hj
  unfold FQ
  rw [← ye, yE]
  exact p
theorem FQ_un {b r s : Int32} (p : FQ b r) (q : FQ b s) : r = s := by
  rcases p with ⟨a1, b1⟩ | ⟨a1, b1⟩ <;> rcases q with ⟨a2, b2⟩ | ⟨a2, b2⟩
  · exact same_of b1 b2
  · exact absurd a2 a1
  · exact absurd a1 a2
  · exact same_of b1 b2
/-- the class keeps an image: a its county, o the other's, j its number -/
def KP (h h' : Hp) (a o j : Nat) : Prop := cpy h h' a 0 ∧ (∀ k i : Nat, o ≤ k → k ≤ o + 16 → h'.1 k i = h.1 k i) ∧ h'.1 87 j = 1 ∧ ∀ i : Nat, i ≠ j → h'.1 87 i = h.1 87 i
theorem KP_of {S : List (Nat × Option Nat)} {h h1 h2 : Hp} {a o j jj : Nat} {x : Int32} (hc : cpy h h1 a 0) (f : fr S h h1) (ck : ckS S o (o + 16) = true) (c87 : ckS S 87 87 = true) (ha : a + 16 < 87 ∧ o + 16 < 87) (e : h2 = pI h1 87 jj x) (hx : x = 1) (hj : jj = j) : KP h h2 a o j := by
  subst hj
  refine ⟨fun k i hk => ?_, fun k i h1 h2 => ?_, ?_, fun i hi => ?_⟩
  · have := cpl_k hk
    rw [e, pI_at, if_neg (by (first | decide +kernel | omega))]
    exact hc k i hk
  · rw [e, pI_at, if_neg (by (first | decide +kernel | omega))]
    exact f.1 _ _ (ckS_no ck h1 h2)
  · rw [e, pI_at, if_pos ⟨rfl, rfl⟩]
    exact hx
  · rw [e, pI_at, if_neg (by (first | decide +kernel | omega))]
    exact f.1 _ _ (ckS_no c87 (by (first | decide +kernel | omega)) (by (first | decide +kernel | omega)))
def MKP (h h' : Hp) (t j : Nat) : Prop := (∀ i : Nat, i < 144 → h'.1 117 (t + i) = h.1 117 (0 + i)) ∧ (∀ i : Nat, (i < t ∨ t + 144 ≤ i) → h'.1 117 i = h.1 117 i) ∧ h'.1 118 j = 1 ∧ ∀ i : Nat, i ≠ j → h'.1 118 i = h.1 118 i
theorem MKP_of {S : List (Nat × Option Nat)} {h h1 h2 : Hp} {t j jj : Nat} {x : Int32} {T : Int} (e : h1 = pI h 118 jj x) (hx : x = 1) (hj : jj = j) (m : mcl h1 h2 T 0 144) (hT : T = (t : Int)) (f : fr S h1 h2) (ck : ckS S 118 118 = true) : MKP h h2 t j := by
  subst hj
  subst hT
  refine ⟨fun i hi => ?_, fun i hi => ?_, ?_, fun i hi => ?_⟩
  · have g := m.1 i (by (first | decide +kernel | omega))
    rw [show ((t : Int)).toNat = t from rfl, show ((0 : Int)).toNat = 0 from rfl] at g
    rw [g, e, pI_at, if_neg (by (first | decide +kernel | omega))]
  · rw [m.2 i (by (first | decide +kernel | omega)), e, pI_at, if_neg (by (first | decide +kernel | omega))]
  · rw [f.1 _ _ (ckS_no ck (by (first | decide +kernel | omega)) (by (first | decide +kernel | omega))), e, pI_at, if_pos ⟨rfl, rfl⟩]
    exact hx
  · rw [f.1 _ _ (ckS_no ck (by (first | decide +kernel | omega)) (by (first | decide +kernel | omega))), e, pI_at, if_neg (by (first | decide +kernel | omega))]
theorem JA_keep0 {S1 S2 : List (Nat × Option Nat)} {h h1 h2 : Hp} (r : JA h) (f1 : fr S1 h h1) (f2 : fr S2 h1 h2) (k1 : KP h h1 34 51 0) (k2 : MKP h1 h2 144 0) (s1 : ckS S1 0 16 = true) (s2 : ckS S1 116 118 = true) (s3 : ckS S2 0 116 = true) : JA h2 := by
  obtain ⟨r1, ⟨r2, r3⟩, r4, r5⟩ := r
  obtain ⟨a1, a2, a3, a4⟩ := k1
  obtain ⟨b1, b2, b3, b4⟩ := k2
  have c0 : ∀ k i : Nat, k ≤ 16 → h2.1 k i = h.1 k i := fun k i hk => by rw [f2.1 _ _ (ckS_no s3 (by (first | decide +kernel | omega)) (by (first | decide +kernel | omega))), f1.1 _ _ (ckS_no s1 (by (first | decide +kernel | omega)) hk)]
  have c6 : ∀ k i : Nat, k ≤ 116 → h2.1 k i = h1.1 k i := fun k i hk => f2.1 _ _ (ckS_no s3 (by (first | decide +kernel | omega)) hk)
  have m1 : ∀ k i : Nat, 116 ≤ k → k ≤ 118 → h1.1 k i = h.1 k i := fun k i p q => f1.1 _ _ (ckS_no s2 p q)
  have w : ∀ i : Nat, 2 ≤ i → i ≤ 5 → h2.1 116 i = h.1 116 i := fun i _ _ => by rw [c6 _ _ (by (first | decide +kernel | omega)), m1 _ _ (by (first | decide +kernel | omega)) (by (first | decide +kernel | omega))]
  refine ⟨CE_at (fun k i c _ => by have := cpl_k c; rw [Nat.zero_add]; exact c0 k i this) (fun i _ hi => by rw [Nat.zero_add, b2 _ (by (first | decide +kernel | omega)), m1 _ _ (by (first | decide +kernel | omega)) (by (first | decide +kernel | omega))]) w r1, ⟨?_, ?_⟩, fun _ => ?_, fun q => ?_⟩
  · rw [c6 _ _ (by (first | decide +kernel | omega)), a3, b3]
  · rw [c6 _ _ (by (first | decide +kernel | omega)), a4 1 (by (first | decide +kernel | omega)), b4 1 (by (first | decide +kernel | omega)), m1 _ _ (by (first | decide +kernel | omega)) (by (first | decide +kernel | omega))]; exact r3
  · exact CE_cp (fun k i c => by have := cpl_k c; rw [c6 _ _ (by (first | decide +kernel | omega))]; exact a1 k i c) (fun i hi => by rw [b1 i hi, m1 _ _ (by (first | decide +kernel | omega)) (by (first | decide +kernel | omega))]) w r1
  · rw [c6 _ _ (by (first | decide +kernel | omega)), a4 1 (by (first | decide +kernel | omega))] at q
    exact CE_at (fun k i c _ => by have := cpl_k c; rw [c6 _ _ (by (first | decide +kernel | omega))]; exact a2 _ i (by (first | decide +kernel | omega)) (by (first | decide +kernel | omega))) (fun i _ hi => by rw [b2 _ (by (first | decide +kernel | omega)), m1 _ _ (by (first | decide +kernel | omega)) (by (first | decide +kernel | omega))]) w (r5 q)
theorem JA_keep1 {S1 S2 : List (Nat × Option Nat)} {h h1 h2 : Hp} (r : JA h) (f1 : fr S1 h h1) (f2 : fr S2 h1 h2) (k1 : KP h h1 51 34 1) (k2 : MKP h1 h2 288 1) (s1 : ckS S1 0 16 = true) (s2 : ckS S1 116 118 = true) (s3 : ckS S2 0 116 = true) : JA h2 := by
  obtain ⟨r1, ⟨r2, r3⟩, r4, r5⟩ := r
  obtain ⟨a1, a2, a3, a4⟩ := k1
  obtain ⟨b1, b2, b3, b4⟩ := k2
  have c0 : ∀ k i : Nat, k ≤ 16 → h2.1 k i = h.1 k i := fun k i hk => by rw [f2.1 _ _ (ckS_no s3 (by (first | decide +kernel | omega)) (by (first | decide +kernel | omega))), f1.1 _ _ (ckS_no s1 (by (first | decide +kernel | omega)) hk)]
  have c6 : ∀ k i : Nat, k ≤ 116 → h2.1 k i = h1.1 k i := fun k i hk => f2.1 _ _ (ckS_no s3 (by (first | decide +kernel | omega)) hk)
  have m1 : ∀ k i : Nat, 116 ≤ k → k ≤ 118 → h1.1 k i = h.1 k i := fun k i p q => f1.1 _ _ (ckS_no s2 p q)
  have w : ∀ i : Nat, 2 ≤ i → i ≤ 5 → h2.1 116 i = h.1 116 i := fun i _ _ => by rw [c6 _ _ (by (first | decide +kernel | omega)), m1 _ _ (by (first | decide +kernel | omega)) (by (first | decide +kernel | omega))]
  refine ⟨CE_at (fun k i c _ => by have := cpl_k c; rw [Nat.zero_add]; exact c0 k i this) (fun i _ hi => by rw [Nat.zero_add, b2 _ (by (first | decide +kernel | omega)), m1 _ _ (by (first | decide +kernel | omega)) (by (first | decide +kernel | omega))]) w r1, ⟨?_, ?_⟩, fun q => ?_, fun _ => ?_⟩
  · rw [c6 _ _ (by (first | decide +kernel | omega)), a4 0 (by (first | decide +kernel | omega)), b4 0 (by (first | decide +kernel | omega)), m1 _ _ (by (first | decide +kernel | omega)) (by (first | decide +kernel | omega))]; exact r2
  · rw [c6 _ _ (by (first | decide +kernel | omega)), a3, b3]
  · rw [c6 _ _ (by (first | decide +kernel | omega)), a4 0 (by (first | decide +kernel | omega))] at q
    exact CE_at (fun k i c _ => by have := cpl_k c; rw [c6 _ _ (by (first | decide +kernel | omega))]; exact a2 _ i (by (first | decide +kernel | omega)) (by (first | decide +kernel | omega))) (fun i _ hi => by rw [b2 _ (by (first | decide +kernel | omega)), m1 _ _ (by (first | decide +kernel | omega)) (by (first | decide +kernel | omega))]) w (r4 q)
  · exact CE_cp (fun k i c => by have := cpl_k c; rw [c6 _ _ (by (first | decide +kernel | omega))]; exact a1 k i c) (fun i hi => by rw [b1 i hi, m1 _ _ (by (first | decide +kernel | omega)) (by (first | decide +kernel | omega))]) w r1
theorem JA_keep {S1 S2 : List (Nat × Option Nat)} {h h1 h2 : Hp} {k : Int} {r1 r2 : Int32} (r : JA h) (f1 : fr S1 h h1) (f2 : fr S2 h1 h2) (s1 : ckS S1 0 16 = true) (s2 : ckS S1 116 118 = true) (s3 : ckS S2 0 116 = true)
    (E1 : k = 0 ∧ KP h h1 34 51 0 ∧ FQ (h.1 87 0) r1 ∨ k = 1 ∧ KP h h1 51 34 1 ∧ FQ (h.1 87 1) r1 ∨ (k < 0 ∨ 1 < k) ∧ h1 = h ∧ r1.toInt = -1) (E2 : k = 0 ∧ MKP h1 h2 144 0 ∧ FQ (h1.1 118 0) r2 ∨ k = 1 ∧ MKP h1 h2 288 1 ∧ FQ (h1.1 118 1) r2 ∨ (k < 0 ∨ 1 < k) ∧ h2 = h1 ∧ r2.toInt = -1) : JA h2 ∧ r1 = r2 := by
  have m1 : ∀ i : Nat, h1.1 118 i = h.1 118 i := fun i => f1.1 _ _ (ckS_no s2 (by (first | decide +kernel | omega)) (by (first | decide +kernel | omega)))
  rcases E1 with ⟨p1, p2, p3⟩ | ⟨p1, p2, p3⟩ | ⟨p1, p2, p3⟩
  · rcases E2 with ⟨q1, q2, q3⟩ | ⟨q1, q2, q3⟩ | ⟨q1, q2, q3⟩
    · rw [m1, ← r.2.1.1] at q3
      exact ⟨JA_keep0 r f1 f2 p2 q2 s1 s2 s3, FQ_un p3 q3⟩
    · omega
    · omega
  · rcases E2 with ⟨q1, q2, q3⟩ | ⟨q1, q2, q3⟩ | ⟨q1, q2, q3⟩
    · omega
    · rw [m1, ← r.2.1.2] at q3
      exact ⟨JA_keep1 r f1 f2 p2 q2 s1 s2 s3, FQ_un p3 q3⟩
    · omega
  · rcases E2 with ⟨q1, q2, q3⟩ | ⟨q1, q2, q3⟩ | ⟨q1, q2, q3⟩
    · omega
    · omega
    · rw [p2] at q2
      rw [q2]
      exact ⟨r, same_of p3 q3⟩
theorem JA_back1 {S1 S2 : List (Nat × Option Nat)} {h h1 h2 : Hp} {a o : Nat} {T : Int} (r : JA h) (c : CE h a o) (f1 : fr S1 h h1) (f2 : fr S2 h1 h2) (k1 : cpy h h1 0 a) (k2 : mcl h1 h2 0 T 144) (hT : T = (o : Int)) (s1 : ckS S1 34 67 = true) (s2 : ckS S1 87 118 = true) (s3 : ckS S2 0 116 = true) (s4 : ckS S2 118 118 = true) : JA h2 := by
  subst hT
  have m1 : ∀ k i : Nat, 87 ≤ k → k ≤ 118 → h1.1 k i = h.1 k i := fun k i p q => f1.1 _ _ (ckS_no s2 p q)
  have c6 : ∀ k i : Nat, k ≤ 116 → h2.1 k i = h1.1 k i := fun k i hk => f2.1 _ _ (ckS_no s3 (by (first | decide +kernel | omega)) hk)
  have i1 : ∀ k i : Nat, 34 ≤ k → k ≤ 67 → h1.1 k i = h.1 k i := fun k i p q => f1.1 _ _ (ckS_no s1 p q)
  refine JA_rest r (CE_cp (k2 := a) (o2 := o) (fun k i c => by have := cpl_k c; rw [c6 _ _ (by (first | decide +kernel | omega))]; exact k1 k i c) (fun i hi => ?_) (fun i _ _ => by rw [c6 _ _ (by (first | decide +kernel | omega)), m1 _ _ (by (first | decide +kernel | omega)) (by (first | decide +kernel | omega))]) c) (fun k i w => ?_)
  · have g := k2.1 i (by (first | decide +kernel | omega))
    rw [show ((o : Int)).toNat = o from rfl, show ((0 : Int)).toNat = 0 from rfl] at g
    rw [g, m1 _ _ (by (first | decide +kernel | omega)) (by (first | decide +kernel | omega))]
  · rcases w with w | rfl | rfl | ⟨rfl, w⟩ | ⟨rfl, w⟩
    · rw [c6 _ _ (by (first | decide +kernel | omega)), i1 _ _ (by (first | decide +kernel | omega)) (by (first | decide +kernel | omega))]
    · rw [c6 _ _ (by (first | decide +kernel | omega)), m1 _ _ (by (first | decide +kernel | omega)) (by (first | decide +kernel | omega))]
    · rw [f2.1 _ _ (ckS_no s4 (by (first | decide +kernel | omega)) (by (first | decide +kernel | omega))), m1 _ _ (by (first | decide +kernel | omega)) (by (first | decide +kernel | omega))]
    · rw [k2.2 _ (by rw [show ((0 : Int)).toNat = 0 from rfl]; omega), m1 _ _ (by (first | decide +kernel | omega)) (by (first | decide +kernel | omega))]
    · rw [c6 _ _ (by (first | decide +kernel | omega)), m1 _ _ (by (first | decide +kernel | omega)) (by (first | decide +kernel | omega))]
theorem toInt_ne {x : Int32} (h : x.toInt ≠ 0) : x ≠ 0 := fun c => h (by rw [c]; rfl)
theorem JA_back {S1 S2 : List (Nat × Option Nat)} {h h1 h2 : Hp} {k : Int} (r : JA h) (f1 : fr S1 h h1) (f2 : fr S2 h1 h2) (s1 : ckS S1 34 67 = true) (s2 : ckS S1 87 118 = true) (s3 : ckS S2 0 116 = true) (s4 : ckS S2 118 118 = true)
    (E1 : k = 0 ∧ (h.1 87 0).toInt ≠ 0 ∧ cpy h h1 0 34 ∨ k = 1 ∧ (h.1 87 1).toInt ≠ 0 ∧ cpy h h1 0 51 ∨ (k = 0 ∧ (h.1 87 0).toInt = 0 ∨ k = 1 ∧ (h.1 87 1).toInt = 0 ∨ k < 0 ∨ 1 < k) ∧ h1 = h)
    (E2 : k = 0 ∧ (h1.1 118 0).toInt ≠ 0 ∧ mcl h1 h2 0 144 144 ∨ k = 1 ∧ (h1.1 118 1).toInt ≠ 0 ∧ mcl h1 h2 0 288 144 ∨ (k = 0 ∧ (h1.1 118 0).toInt = 0 ∨ k = 1 ∧ (h1.1 118 1).toInt = 0 ∨ k < 0 ∨ 1 < k) ∧ h2 = h1) : JA h2 := by
  have m1 : ∀ i : Nat, h1.1 118 i = h.1 118 i := fun i => f1.1 _ _ (ckS_no s2 (by (first | decide +kernel | omega)) (by (first | decide +kernel | omega)))
  rw [m1, m1, ← r.2.1.1, ← r.2.1.2] at E2
  rcases E1 with ⟨p1, p2, p3⟩ | ⟨p1, p2, p3⟩ | ⟨p1, p2⟩
  · rcases E2 with ⟨q1, q2, q3⟩ | ⟨q1, q2, q3⟩ | ⟨q1, q2⟩
    · exact JA_back1 r (r.2.2.1 (toInt_ne p2)) f1 f2 p3 q3 rfl s1 s2 s3 s4
    · omega
    · omega
  · rcases E2 with ⟨q1, q2, q3⟩ | ⟨q1, q2, q3⟩ | ⟨q1, q2⟩
    · omega
    · exact JA_back1 r (r.2.2.2 (toInt_ne p2)) f1 f2 p3 q3 rfl s1 s2 s3 s4
    · omega
  · rcases E2 with ⟨q1, q2, q3⟩ | ⟨q1, q2, q3⟩ | ⟨q1, q2⟩
    · omega
    · omega
    · rw [q2, p2]; exact r
def spS (S : List (Nat × Option Nat)) : Bool := S.all (fun q => decide (q.1 = 6 ∨ q.1 = 8 ∨ 33 < q.1))
theorem spS_no {S : List (Nat × Option Nat)} (hc : spS S = true) {k i : Nat} (h1 : k ≠ 6 ∧ k ≠ 8 ∧ k ≤ 33) : inS S k i = false := by
  unfold inS
  rw [List.any_eq_false]
  intro q hq e
  have := of_decide_eq_true (List.all_eq_true.mp hc q hq)
  rw [Bool.and_eq_true] at e
  have e2 : q.1 = k := eq_of_beq e.1
  omega
