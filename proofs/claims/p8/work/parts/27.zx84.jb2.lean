theorem JB_put {h h1 h2 : Hp} {k i d : Nat} {x : Int32} (r : JB h) (hk : k = 2 ∧ i < 16 ∧ d = i ∧ 0 ≤ x.toInt ∨ k = 6 ∧ i < 16 ∧ d = 64 + i ∨ k = 8 ∧ i < 4 ∧ d = 80 + i) (e1 : h1 = pI h k i x) (e2 : h2 = pI h1 117 d x) : JB h2 := by
  have cell : ∀ k' i' : Nat, ¬ (k' = k ∧ i' = i) → ¬ (k' = 117 ∧ i' = d) → h2.1 k' i' = h.1 k' i' := fun k' i' a c => by rw [e2, pI_at, if_neg c, e1, pI_at, if_neg a]
  have ck : k ≠ 117 := by (first | decide +kernel | omega)
  have v1 : h2.1 k i = x := by rw [e2, pI_at, if_neg (by (first | decide +kernel | omega)), e1, pI_at, if_pos ⟨rfl, rfl⟩]
  have v2 : h2.1 117 d = x := by rw [e2, pI_at, if_pos ⟨rfl, rfl⟩]
  obtain ⟨r1, r2, r3⟩ := r.1
  refine JB_rest r ⟨fun j hj => ?_, fun j hj => ?_, fun j hj => ?_⟩ (fun k' i' w => cell k' i' (by (first | decide +kernel | omega)) (by (first | decide +kernel | omega)))
  · rw [Nat.zero_add, Nat.zero_add]
    have g := r1 j hj
    rw [Nat.zero_add, Nat.zero_add] at g
    by_cases q : k = 2 ∧ j = i
    · obtain ⟨rfl, rfl⟩ := q
      have hd : d = j ∧ 0 ≤ x.toInt := by (first | decide +kernel | omega)
      rw [hd.1] at v2
      rw [v1, v2]
      exact ⟨rfl, hd.2⟩
    · rw [cell 2 j (by (first | decide +kernel | omega)) (by (first | decide +kernel | omega)), cell 117 j (by (first | decide +kernel | omega)) (by (first | decide +kernel | omega))]
      exact g
  · rw [Nat.zero_add, Nat.zero_add]
    have g := r2 j hj
    rw [Nat.zero_add, Nat.zero_add] at g
    by_cases q : k = 6 ∧ j = i
    · obtain ⟨rfl, rfl⟩ := q
      have hd : d = 64 + j := by (first | decide +kernel | omega)
      rw [hd] at v2
      rw [v1, v2]
    · rw [cell 6 j (by (first | decide +kernel | omega)) (by (first | decide +kernel | omega)), cell 117 _ (by (first | decide +kernel | omega)) (by (first | decide +kernel | omega))]
      exact g
  · rw [Nat.zero_add, Nat.zero_add]
    have g := r3 j hj
    rw [Nat.zero_add, Nat.zero_add] at g
    by_cases q : k = 8 ∧ j = i
    · obtain ⟨rfl, rfl⟩ := q
      have hd : d = 80 + j := by (first | decide +kernel | omega)
      rw [hd] at v2
      rw [v1, v2]
    · rw [cell 8 j (by (first | decide +kernel | omega)) (by (first | decide +kernel | omega)), cell 117 _ (by (first | decide +kernel | omega)) (by (first | decide +kernel | omega))]
      exact g
theorem JB_w {h : Hp} (r : JB h) {i : Nat} (hi : i < 16) : h.1 2 i = h.1 117 i ∧ 0 ≤ (h.1 2 i).toInt := by
  have g := r.1.1 i hi
  rw [Nat.zero_add, Nat.zero_add] at g
  exact g
theorem JB_b {h : Hp} (r : JB h) {i : Nat} (hi : i < 16) : h.1 6 i = h.1 117 (64 + i) := by
  have g := r.1.2.1 i hi
  rw [Nat.zero_add, Nat.zero_add] at g
  exact g
theorem JB_p {h : Hp} (r : JB h) {i : Nat} (hi : i < 4) : h.1 8 i = h.1 117 (80 + i) := by
  have g := r.1.2.2 i hi
  rw [Nat.zero_add, Nat.zero_add] at g
  exact g
theorem JB_wet {h h1 h2 : Hp} {c : Int} {G B1 B2 : Prop} {v r1 r2 : Int32} (r : JB h) (f1 : Ewt h h1 2 c.toNat G B1 v r1) (f2 : Ewt h1 h2 117 (0 + c).toNat G B2 v r2) (hB : G → (B1 ↔ B2)) (hc : G → 0 ≤ c ∧ c < 16 ∧ 0 ≤ v.toInt) : JB h2 ∧ r1 = r2 := by
  rw [Int.zero_add] at f2
  rcases f1 with ⟨g1, b1, e1, q1⟩ | ⟨g1, b1, e1, q1⟩ | ⟨g1, e1, q1⟩
  · rcases f2 with ⟨g2, b2, e2, q2⟩ | ⟨g2, b2, e2, q2⟩ | ⟨g2, e2, q2⟩
    · have k := hc g1
      refine ⟨JB_put r (by (first | decide +kernel | omega)) e1 e2, ?_⟩
      rw [q1, q2, e1, pI_at, if_neg (by (first | decide +kernel | omega))]
      exact (JB_w r (by (first | decide +kernel | omega))).1
    · exact absurd ((hB g1).mpr b2) b1
    · exact absurd g1 g2
  · rcases f2 with ⟨g2, b2, e2, q2⟩ | ⟨g2, b2, e2, q2⟩ | ⟨g2, e2, q2⟩
    · exact absurd ((hB g1).mp b1) b2
    · rw [e1] at e2
      rw [e2]
      exact ⟨r, same_of q1 q2⟩
    · exact absurd g1 g2
  · rcases f2 with ⟨g2, b2, e2, q2⟩ | ⟨g2, b2, e2, q2⟩ | ⟨g2, e2, q2⟩
    · exact absurd g2 g1
    · exact absurd g2 g1
    · rw [e1] at e2
      rw [e2]
      exact ⟨r, same_of q1 q2⟩
theorem JB_fund {h h1 h2 : Hp} {o : Int} {G : Prop} {v r1 r2 : Int32} (r : JB h) (f1 : Er h h1 8 o.toNat G (fun x => x = v) r1) (f2 : Er h1 h2 117 (80 + o).toNat G (fun x => x = v) r2) (hc : G → 0 ≤ o ∧ o ≤ 3) : JB h2 ∧ r1 = r2 := by
  rcases f1 with ⟨g1, x, vx, e1, q1⟩ | ⟨g1, e1, q1⟩
  · rcases f2 with ⟨g2, y, vy, e2, q2⟩ | ⟨g2, e2, q2⟩
    · have k := hc g1
      rw [show y = x from vy.trans vx.symm] at e2
      refine ⟨JB_put r (by (first | decide +kernel | omega)) e1 e2, ?_⟩
      rw [q1, q2, e1, pI_at, if_neg (by (first | decide +kernel | omega)), show (80 + o).toNat = 80 + o.toNat by (first | decide +kernel | omega)]
      exact JB_p r (by (first | decide +kernel | omega))
    · exact absurd g1 g2
  · rcases f2 with ⟨g2, y, vy, e2, q2⟩ | ⟨g2, e2, q2⟩
    · exact absurd g2 g1
    · rw [e1] at e2
      rw [e2]
      exact ⟨r, m1_eq q1 q2⟩
theorem JB_bore {h h1 h2 : Hp} {o c : Int} {G : Prop} {l ow p b w co q d r s : Int32} (rr : JB h) (f : BE h h1 8 o.toNat 6 c.toNat G l ow p b w co q d r) (g : BE h1 h2 117 (80 + o).toNat 117 (64 + c).toNat G l ow p b w co q d s) (hc : G → 0 ≤ o ∧ o ≤ 3 ∧ 0 ≤ c ∧ c < 16) : JB h2 ∧ r = s := by
  obtain ⟨e, k⟩ := BE_un f g
  refine ⟨?_, e⟩
  rcases k with ⟨k1, k2⟩ | ⟨k0, x, k1, k2⟩
  · rw [k2]; exact rr
  · have hh := hc k0
    have e3 : h2 = pI (pI (pI (pI h 8 o.toNat x) 117 (80 + o).toNat x) 6 c.toNat (bD b d)) 117 (64 + c).toNat (bD b d) := by
      rw [k2, k1, pI_comm (h := pI h 8 o.toNat x) (k := 6) (by (first | decide +kernel | omega))]
    exact JB_put (JB_put rr (k := 8) (i := o.toNat) (d := (80 + o).toNat) (by (first | decide +kernel | omega)) rfl rfl) (k := 6) (i := c.toNat) (d := (64 + c).toNat) (by (first | decide +kernel | omega)) rfl e3
theorem nA_Ewt {h h' : Hp} {c : Int} {G B : Prop} {v r : Int32} (f : Ewt h h' 117 (0 + c).toNat G B v r) (hc : G → 0 ≤ c ∧ c < 16) : nA h h' := fun j hj => by
  rcases f with ⟨g, _, e, _⟩ | ⟨_, _, e, _⟩ | ⟨_, e, _⟩
  · have := hc g
    rw [e, pI_at, if_neg (by (first | decide +kernel | omega))]
  · rw [e]
  · rw [e]
theorem nA_Er {h h' : Hp} {o : Int} {G : Prop} {V : Int32 → Prop} {r : Int32} (f : Er h h' 117 (80 + o).toNat G V r) (hc : G → 0 ≤ o ∧ o ≤ 3) : nA h h' := fun j hj => by
  rcases f with ⟨g, x, _, e, _⟩ | ⟨_, e, _⟩
  · have := hc g
    rw [e, pI_at, if_neg (by (first | decide +kernel | omega))]
  · rw [e]
theorem nA_BE {h h' : Hp} {o c : Int} {G : Prop} {l ow p b w co q d r : Int32} (f : BE h h' 117 (80 + o).toNat 117 (64 + c).toNat G l ow p b w co q d r) (hc : G → 0 ≤ o ∧ o ≤ 3 ∧ 0 ≤ c ∧ c < 16) : nA h h' := fun j hj => by
  rcases f with ⟨_, e, _⟩ | ⟨g, x, _, k⟩
  · rw [e]
  · have := hc g
    rcases k with ⟨_, e, _⟩ | ⟨_, e, _⟩
    · rw [e]
    · rw [e, pI_at, if_neg (by (first | decide +kernel | omega)), pI_at, if_neg (by (first | decide +kernel | omega))]
theorem JB_rain {h h1 h2 : Hp} {G : Prop} {v : Int32} {W : Int} {S : List (Nat × Option Nat)} (r : JB h) (f1 : fr S h h1) (s1 : ckS S 3 200 = true) (E1 : G ∧ rW h h1 2 v W ∨ ¬ G ∧ h1 = h) (S2 : List (Nat × Option Nat)) (f2 : fr S2 h1 h2) (s2 : ckS S2 0 116 = true) (E2 : G ∧ rW h1 h2 117 v W ∧ (∀ j : Nat, 16 ≤ j → h2.1 117 j = h1.1 117 j) ∨ ¬ G ∧ h2 = h1) : JB h2 := by
  rcases E1 with ⟨g1, w1⟩ | ⟨g1, e1⟩
  · rcases E2 with ⟨g2, w2, n2⟩ | ⟨g2, e2⟩
    · have c1 : ∀ k i : Nat, 3 ≤ k → k ≤ 200 → h1.1 k i = h.1 k i := fun k i p q => f1.1 _ _ (ckS_no s1 p q)
      have c2 : ∀ k i : Nat, k ≤ 116 → h2.1 k i = h1.1 k i := fun k i p => f2.1 _ _ (ckS_no s2 (by (first | decide +kernel | omega)) p)
      refine JB_rest r ⟨fun i hi => ?_, fun i hi => ?_, fun i hi => ?_⟩ (fun k i w => ?_)
      · rw [Nat.zero_add, Nat.zero_add, c2 2 i (by (first | decide +kernel | omega)), w1 i hi, w2 i hi, c1 117 i (by (first | decide +kernel | omega)) (by (first | decide +kernel | omega))]
        have g := JB_w r hi
        rw [← g.1]
        refine ⟨rfl, ?_⟩
        split
        · exact rn1_nn g.2
        · exact g.2
      · rw [Nat.zero_add, Nat.zero_add, c2 6 i (by (first | decide +kernel | omega)), c1 6 i (by (first | decide +kernel | omega)) (by (first | decide +kernel | omega)), n2 _ (by (first | decide +kernel | omega)), c1 117 _ (by (first | decide +kernel | omega)) (by (first | decide +kernel | omega))]
        exact JB_b r hi
      · rw [Nat.zero_add, Nat.zero_add, c2 8 i (by (first | decide +kernel | omega)), c1 8 i (by (first | decide +kernel | omega)) (by (first | decide +kernel | omega)), n2 _ (by (first | decide +kernel | omega)), c1 117 _ (by (first | decide +kernel | omega)) (by (first | decide +kernel | omega))]
        exact JB_p r hi
      · by_cases q : k = 117
        · subst q
          rw [n2 _ (by (first | decide +kernel | omega)), c1 117 _ (by (first | decide +kernel | omega)) (by (first | decide +kernel | omega))]
        · rw [c2 k i (by (first | decide +kernel | omega)), c1 k i (by (first | decide +kernel | omega)) (by (first | decide +kernel | omega))]
    · exact absurd g1 g2
  · rcases E2 with ⟨g2, w2, n2⟩ | ⟨g2, e2⟩
    · exact absurd g2 g1
    · rw [e2, e1]; exact r
