theorem byte_same {c : Int32} {C : Int} (p : c.toInt = C) (h : 0 ≤ C ∧ C ≤ 127) : c.toInt8.toInt32 = c := by
  apply Int32.toInt_inj.mp
  rw [Int8.toInt_toInt32, Int32.toInt_toInt8, p]
  exact Int.bmod_eq_of_le (by (first | decide +kernel | omega)) (by (first | decide +kernel | omega))
def fdY (h h' : Hp) (k t : Nat) (c : Int32) : Prop := h'.1 k t = c ∧ ∀ j : Nat, j ≠ t → h'.1 k j = h.1 k j
def fdN (h h' : Hp) (k : Nat) : Prop := ∀ j : Nat, h'.1 k j = h.1 k j
def JT (h : Hp) : Prop := h.1 89 1 = h.1 116 15 ∧ (∀ j : Nat, (j : Int) < (h.1 89 1).toInt → h.1 90 j = h.1 121 j ∧ 0 ≤ (h.1 90 j).toInt ∧ (h.1 90 j).toInt ≤ 127) ∧ h.1 88 6 = h.1 116 20
def jtS (S : List (Nat × Option Nat)) : Bool := S.all (fun q => decide (q.1 ≠ 90 ∧ q.1 ≠ 121) && (decide (q.1 ≠ 116 ∧ q.1 ≠ 88 ∧ q.1 ≠ 89) || (match q.2 with | none => false | some j => decide (¬ (q.1 = 89 ∧ j = 1) ∧ ¬ (q.1 = 88 ∧ j = 6) ∧ ¬ (q.1 = 116 ∧ (j = 15 ∨ j = 20))))))
def jtC (k i : Nat) : Prop := k = 90 ∨ k = 121 ∨ k = 89 ∧ i = 1 ∨ k = 88 ∧ i = 6 ∨ k = 116 ∧ (i = 15 ∨ i = 20)
theorem jtS_no {S : List (Nat × Option Nat)} (hc : jtS S = true) {k i : Nat} (hk : jtC k i) : inS S k i = false := by
  unfold inS
  rw [List.any_eq_false]
  intro q hq e
  have h1 := List.all_eq_true.mp hc q hq
  rw [Bool.and_eq_true, Bool.or_eq_true] at h1
  rw [Bool.and_eq_true] at e
  have e2 : q.1 = k := eq_of_beq e.1
  have h2 := of_decide_eq_true h1.1
  unfold jtC at hk
  rcases h1.2 with h3 | h3
  · have := of_decide_eq_true h3; omega
  · have e3 := e.2
    cases hz : q.2 with
    | none => rw [hz] at h3; cases h3
    | some j =>
      rw [hz] at h3 e3
      have h4 := of_decide_eq_true h3
      have h5 : j = i := eq_of_beq e3
      omega
theorem JT_at {h h' : Hp} (e : ∀ k i : Nat, jtC k i → h'.1 k i = h.1 k i) (r : JT h) : JT h' := by
  have a1 := e 89 1 (by unfold jtC; omega)
  have a2 := e 116 15 (by unfold jtC; omega)
  have a3 := e 88 6 (by unfold jtC; omega)
  have a4 := e 116 20 (by unfold jtC; omega)
  refine ⟨by rw [a1, a2]; exact r.1, fun j hj => ?_, by rw [a3, a4]; exact r.2.2⟩
  rw [e 90 j (by unfold jtC; omega), e 121 j (by unfold jtC; omega)]
  exact r.2.1 j (by rw [a1] at hj; exact hj)
theorem JT_fr {S : List (Nat × Option Nat)} {h h' : Hp} (f : fr S h h') (hc : jtS S = true) (r : JT h) : JT h' := JT_at (fun _ _ hk => f.1 _ _ (jtS_no hc hk)) r
/-- the tape's bytes -/
def tb (h : Hp) : Int → Int := fun j => if 0 ≤ j ∧ j < (h.1 89 1).toInt then (h.1 90 j.toNat).toInt else -1
theorem TP_c {h : Hp} (r : JT h) : TP h 90 (h.1 89 1).toInt (tb h) := fun j hj => by
  by_cases q : j < (h.1 89 1).toInt
  · have := (r.2.1 j.toNat (by (first | decide +kernel | omega))).2
    have e : tb h j = (h.1 90 j.toNat).toInt := if_pos ⟨hj, q⟩
    exact Or.inl ⟨q, e.symm, by (first | decide +kernel | omega), by (first | decide +kernel | omega)⟩
  · exact Or.inr ⟨by (first | decide +kernel | omega), if_neg (by (first | decide +kernel | omega))⟩
theorem TP_m {S : List (Nat × Option Nat)} {h h' : Hp} (r : JT h) (f : fr S h h') (hc : ∀ i : Nat, inS S 121 i = false) (h15 : inS S 116 15 = false) : TP h' 121 (h'.1 116 15).toInt (tb h) := fun j hj => by
  have e15 : (h'.1 116 15).toInt = (h.1 89 1).toInt := by rw [f.1 116 15 h15, ← r.1]
  rw [e15, f.1 121 j.toNat (hc _)]
  by_cases q : j < (h.1 89 1).toInt
  · have g := r.2.1 j.toNat (by (first | decide +kernel | omega))
    have e : tb h j = (h.1 90 j.toNat).toInt := if_pos ⟨hj, q⟩
    exact Or.inl ⟨q, by rw [e, g.1], by (first | decide +kernel | omega), by (first | decide +kernel | omega)⟩
  · exact Or.inr ⟨by (first | decide +kernel | omega), if_neg (by (first | decide +kernel | omega))⟩
theorem JT_text {S1 S2 : List (Nat × Option Nat)} {h h1 h2 : Hp} {r1 r2 v1 v2 e1 e2 : Int32} {v1Z v2Z e1Z e2Z : Int} {n1 n2 : Nat} (r : JT h) (f1 : fr S1 h h1) (f2 : fr S2 h1 h2) (c1 : inS S1 116 15 = false) (c2 : inS S2 89 1 = false) (c3 : inS S2 88 6 = false) (v1E : v1.toInt = v1Z) (v1K : h1.1 89 1 = v1) (v10 : v1Z = 0) (e1E : e1.toInt = e1Z) (e1K : h1.1 88 6 = e1) (X1 : x_tx (tb h) (h.1 89 1).toInt r1 e1Z n1) (v2E : v2.toInt = v2Z) (v2K : h2.1 116 15 = v2) (v20 : v2Z = 0) (e2E : e2.toInt = e2Z) (e2K : h2.1 116 20 = e2) (X2 : x_tx (tb h) (h1.1 116 15).toInt r2 e2Z n2) : JT h2 ∧ r1 = r2 := by
  rw [f1.1 116 15 c1, ← r.1] at X2
  obtain ⟨hn, hr, hu⟩ := x_tx_un X1 X2
  have z1 : h2.1 89 1 = 0 := by rw [f2.1 89 1 c2, v1K]; exact Int32.toInt_inj.mp (by rw [v1E, v10]; rfl)
  have z2 : h2.1 116 15 = 0 := by rw [v2K]; exact Int32.toInt_inj.mp (by rw [v2E, v20]; rfl)
  refine ⟨⟨by rw [z1, z2], fun j hj => ?_, ?_⟩, hr⟩
  · rw [z1] at hj
    exact absurd hj (by show ¬ (j : Int) < 0; omega)
  · rw [f2.1 88 6 c3, e1K, e2K]
    exact Int32.toInt_inj.mp (by rw [e1E, e2E, hu])
theorem JT_feed {S1 S2 : List (Nat × Option Nat)} {h h1 h2 : Hp} {c u1 u2 : Int32} {u1Z u2Z cZ : Int} (r : JT h) (f1 : fr S1 h h1) (f2 : fr S2 h1 h2) (c1 : jtS (S1.filter (fun q => q.1 ≠ 90 ∧ q.1 ≠ 89)) = true) (c2 : jtS (S2.filter (fun q => q.1 ≠ 121 ∧ q ≠ (116, some 15))) = true) (k1 : ∀ i : Nat, inS S1 121 i = false) (k2 : ∀ i : Nat, inS S2 90 i = false) (s1 : inS S1 116 15 = false) (s2 : inS S2 89 1 = false) (s3 : inS S1 116 20 = false ∧ inS S1 88 6 = false) (s4 : inS S2 116 20 = false ∧ inS S2 88 6 = false) (hc : c.toInt = cZ)
    (u1E : u1.toInt = u1Z) (u1K : h1.1 89 1 = u1) (u2E : u2.toInt = u2Z) (u2K : h2.1 116 15 = u2)
    (E1 : 0 ≤ cZ ∧ cZ ≤ 127 ∧ (h.1 89 1).toInt < 160 ∧ u1Z = (h.1 89 1).toInt + 1 ∧ fdY h h1 90 (h.1 89 1).toInt.toNat c ∨ ((h.1 89 1).toInt ≥ 160 ∨ cZ < 0 ∨ 127 < cZ) ∧ u1Z = (h.1 89 1).toInt ∧ fdN h h1 90)
    (E2 : 0 ≤ cZ ∧ cZ ≤ 127 ∧ (h1.1 116 15).toInt < 160 ∧ u2Z = (h1.1 116 15).toInt + 1 ∧ fdY h1 h2 121 (h1.1 116 15).toInt.toNat c ∨ ((h1.1 116 15).toInt ≥ 160 ∨ cZ < 0 ∨ 127 < cZ) ∧ u2Z = (h1.1 116 15).toInt ∧ fdN h1 h2 121) (hs : 0 ≤ (h.1 89 1).toInt) : JT h2 := by
  have e15 : (h1.1 116 15).toInt = (h.1 89 1).toInt := by rw [f1.1 116 15 s1, ← r.1]
  rw [e15] at E2
  have a1 : h2.1 89 1 = u1 := by rw [f2.1 89 1 s2, u1K]
  have hu : u1Z = u2Z := by (first | decide +kernel | omega)
  refine ⟨by rw [a1, u2K]; exact Int32.toInt_inj.mp (by rw [u1E, u2E, hu]), fun j hj => ?_, by rw [f2.1 88 6 s4.2, f1.1 88 6 s3.2, f2.1 116 20 s4.1, f1.1 116 20 s3.1]; exact r.2.2⟩
  rw [a1, u1E] at hj
  rw [f2.1 90 j (k2 j)]
  rcases E1 with ⟨q1, q2, q3, q4, q5⟩ | ⟨q1, q2, q3⟩
  · rcases E2 with ⟨p1, p2, p3, p4, p5⟩ | ⟨p1, p2, p3⟩
    · by_cases w : j = (h.1 89 1).toInt.toNat
      · rw [w, q5.1, p5.1, hc]
        exact ⟨rfl, q1, q2⟩
      · rw [q5.2 j w, p5.2 j w, f1.1 121 j (k1 j)]
        exact r.2.1 j (by (first | decide +kernel | omega))
    · omega
  · rcases E2 with ⟨p1, p2, p3, p4, p5⟩ | ⟨p1, p2, p3⟩
    · omega
    · rw [q3 j, p3 j, f1.1 121 j (k1 j)]
      exact r.2.1 j (by (first | decide +kernel | omega))
theorem JT_end {S1 S2 : List (Nat × Option Nat)} {h h1 h2 : Hp} {u1 u2 : Int32} {u1Z u2Z nZ : Int} (r : JT h) (f1 : fr S1 h h1) (f2 : fr S2 h1 h2) (k1 : ∀ k i : Nat, jtC k i → k ≠ 89 → inS S1 k i = false) (k2 : ∀ k i : Nat, jtC k i → ¬ (k = 116 ∧ i = 15) → inS S2 k i = false) (u1E : u1.toInt = u1Z) (u1K : h1.1 89 1 = u1) (u2E : u2.toInt = u2Z) (u2K : h2.1 116 15 = u2) (E1 : 0 ≤ nZ ∧ nZ ≤ (h.1 89 1).toInt ∧ u1Z = nZ ∨ (nZ < 0 ∨ (h.1 89 1).toInt < nZ) ∧ u1Z = (h.1 89 1).toInt) (E2 : 0 ≤ nZ ∧ nZ ≤ (h1.1 116 15).toInt ∧ u2Z = nZ ∨ (nZ < 0 ∨ (h1.1 116 15).toInt < nZ) ∧ u2Z = (h1.1 116 15).toInt) : JT h2 := by
  have e15 : (h1.1 116 15).toInt = (h.1 89 1).toInt := by rw [f1.1 116 15 (k1 116 15 (by unfold jtC; omega) (by decide)), ← r.1]
  rw [e15] at E2
  have a1 : h2.1 89 1 = u1 := by rw [f2.1 89 1 (k2 89 1 (by unfold jtC; omega) (by decide)), u1K]
  refine ⟨by rw [a1, u2K]; exact Int32.toInt_inj.mp (by rw [u1E, u2E]; omega), fun j hj => ?_, ?_⟩
  · rw [a1, u1E] at hj
    rw [f2.1 90 j (k2 90 j (by unfold jtC; omega) (by (first | decide +kernel | omega))), f1.1 90 j (k1 90 j (by unfold jtC; omega) (by decide)), f2.1 121 j (k2 121 j (by unfold jtC; omega) (by (first | decide +kernel | omega))), f1.1 121 j (k1 121 j (by unfold jtC; omega) (by decide))]
    exact r.2.1 j (by (first | decide +kernel | omega))
  · rw [f2.1 88 6 (k2 88 6 (by unfold jtC; omega) (by (first | decide +kernel | omega))), f1.1 88 6 (k1 88 6 (by unfold jtC; omega) (by decide)), f2.1 116 20 (k2 116 20 (by unfold jtC; omega) (by (first | decide +kernel | omega))), f1.1 116 20 (k1 116 20 (by unfold jtC; omega) (by decide))]
    exact r.2.2
