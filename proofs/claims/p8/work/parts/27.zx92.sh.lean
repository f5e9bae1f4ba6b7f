def nrw (t : Int) (v x : Int32) : Prop := t = 0 ∧ x = v.toInt8.toInt32 ∨ t = 1 ∧ x = v.toInt16.toInt32 ∨ (t ≠ 0 ∧ t ≠ 1) ∧ x = v
theorem nrw_un {t : Int} {v x y : Int32} (p : nrw t v x) (q : nrw t v y) : x = y := by
  rcases p with ⟨a, b⟩ | ⟨a, b⟩ | ⟨a, b⟩ <;> rcases q with ⟨c, d⟩ | ⟨c, d⟩ | ⟨c, d⟩
  all_goals first | (exact b.trans d.symm) | (exfalso; omega)
def SHc (h h' : Hp) (k : Nat) (l n : Int32) : Prop := ∀ j : Nat, j < 4 → j = k ∧ h'.1 (108 + 2 * j) 1 = l ∧ h'.1 (108 + 2 * j) 2 = n ∧ (∀ i : Nat, i < 40 → h'.1 (109 + 2 * j) i = 0) ∨ j ≠ k ∧ h'.1 (108 + 2 * j) 1 = h.1 (108 + 2 * j) 1 ∧ h'.1 (108 + 2 * j) 2 = h.1 (108 + 2 * j) 2 ∧ ∀ i : Nat, i < 40 → h'.1 (109 + 2 * j) i = h.1 (109 + 2 * j) i
def shS (S : List (Nat × Option Nat)) (k : Nat) : Bool := S.all (fun q => decide (q.1 = 108 + 2 * k ∨ q.1 = 109 + 2 * k))
theorem shS_no {S : List (Nat × Option Nat)} {k : Nat} (hc : shS S k = true) {a i : Nat} (ha : a ≠ 108 + 2 * k ∧ a ≠ 109 + 2 * k) : inS S a i = false := by
  unfold inS
  rw [List.any_eq_false]
  intro q hq e
  have h1 := of_decide_eq_true (List.all_eq_true.mp hc q hq)
  rw [Bool.and_eq_true] at e
  have e2 : q.1 = a := eq_of_beq e.1
  omega
theorem SHc_of {S : List (Nat × Option Nat)} {h h' : Hp} {k : Nat} {l n : Int32} (e : h'.1 (108 + 2 * k) 1 = l ∧ h'.1 (108 + 2 * k) 2 = n ∧ fll h' (109 + 2 * k) 0 40) (f : fr S h h') (ck : shS S k = true) : SHc h h' k l n := fun j hj => by
  by_cases q : j = k
  · subst q
    exact Or.inl ⟨rfl, e.1, e.2.1, fun i hi => e.2.2 i (by (first | decide +kernel | omega))⟩
  · exact Or.inr ⟨q, f.1 _ _ (shS_no ck (by (first | decide +kernel | omega))), f.1 _ _ (shS_no ck (by (first | decide +kernel | omega))), fun i _ => f.1 _ _ (shS_no ck (by (first | decide +kernel | omega)))⟩
def SHl (h h' : Hp) (k : Nat) (l n : Int32) (m : Int) : Prop := (∀ j : Nat, h'.1 128 j = if j = k then l else h.1 128 j) ∧ (∀ j : Nat, h'.1 129 j = if j = k then n else h.1 129 j) ∧ ∀ i : Nat, h'.1 130 i = if 40 * k ≤ i ∧ (i : Int) < 40 * (k : Int) + m then 0 else h.1 130 i
theorem SHl_0 {h h1 h2 : Hp} {K : Int} {l n : Int32} (e1 : h1 = pI h 128 K.toNat l) (e2 : h2 = pI h1 129 K.toNat n) : SHl h h2 K.toNat l n 0 := by
  refine ⟨fun j => ?_, fun j => ?_, fun i => ?_⟩
  · rw [e2, pI_at, if_neg (by (first | decide +kernel | omega)), e1, pI_at]
    by_cases q : j = K.toNat
    · rw [if_pos ⟨rfl, q⟩, if_pos q]
    · rw [if_neg (by (first | decide +kernel | omega)), if_neg q]
  · rw [e2, pI_at]
    by_cases q : j = K.toNat
    · rw [if_pos ⟨rfl, q⟩, if_pos q]
    · rw [if_neg (by (first | decide +kernel | omega)), if_neg q, e1, pI_at, if_neg (by (first | decide +kernel | omega))]
  · rw [e2, pI_at, if_neg (by (first | decide +kernel | omega)), e1, pI_at, if_neg (by (first | decide +kernel | omega)), if_neg (by (first | decide +kernel | omega))]
theorem SHl_s {h h1 h2 : Hp} {K m : Int} {l n : Int32} (r : SHl h h1 K.toNat l n m) (hk : 0 ≤ K) (hm : 0 ≤ m) (e : h2 = pI h1 130 (40 * K + m).toNat 0) : SHl h h2 K.toNat l n (m + 1) := by
  refine ⟨fun j => ?_, fun j => ?_, fun i => ?_⟩
  · rw [e, pI_at, if_neg (by (first | decide +kernel | omega))]; exact r.1 j
  · rw [e, pI_at, if_neg (by (first | decide +kernel | omega))]; exact r.2.1 j
  · rw [e, pI_at]
    by_cases q : i = (40 * K + m).toNat
    · rw [if_pos ⟨rfl, q⟩, if_pos (by (first | decide +kernel | omega))]
    · rw [if_neg (by (first | decide +kernel | omega)), r.2.2 i]
      by_cases w : 40 * K.toNat ≤ i ∧ (i : Int) < 40 * (K.toNat : Int) + m
      · rw [if_pos w, if_pos (by (first | decide +kernel | omega))]
      · rw [if_neg w, if_neg (by (first | decide +kernel | omega))]
theorem SHl_le {h h' : Hp} {k : Nat} {l n : Int32} {m : Int} (r : SHl h h' k l n m) (hm : m = 40) : SHl h h' k l n 40 := by subst hm; exact r
/-- lay -/
def LY (no : Int) (h h' : Hp) (t s : Int) (kr ir : Nat) (i : Int) (v r : Int32) : Prop := t = no ∧ h' = h ∧ r.toInt = -11 ∨ t ≠ no ∧ (i < 0 ∨ s ≤ i) ∧ h' = h ∧ r.toInt = -12 ∨ t ≠ no ∧ 0 ≤ i ∧ i < s ∧ r.toInt = 1 ∧ ∃ x : Int32, nrw t v x ∧ h' = pI h kr ir x
def jsC (k i : Nat) : Prop := 108 ≤ k ∧ k ≤ 115 ∨ k = 128 ∨ k = 129 ∨ k = 130
theorem JS_at {h h' : Hp} (e : ∀ k i : Nat, jsC k i → h'.1 k i = h.1 k i) (r : JS h) : JS h' := fun j hj => by
  obtain ⟨r1, r2, r3⟩ := r j hj
  refine ⟨?_, ?_, fun i hi => ?_⟩
  · rw [e _ _ (by unfold jsC; omega), e _ _ (by unfold jsC; omega)]; exact r1
  · rw [e _ _ (by unfold jsC; omega), e _ _ (by unfold jsC; omega)]; exact r2
  · rw [e _ _ (by unfold jsC; omega), e _ _ (by unfold jsC; omega)]; exact r3 i hi
def jsS (S : List (Nat × Option Nat)) : Bool := S.all (fun q => decide ((q.1 < 108 ∨ 115 < q.1) ∧ q.1 ≠ 128 ∧ q.1 ≠ 129 ∧ q.1 ≠ 130))
theorem jsS_no {S : List (Nat × Option Nat)} (hc : jsS S = true) {k i : Nat} (hk : jsC k i) : inS S k i = false := by
  unfold inS
  rw [List.any_eq_false]
  intro q hq e
  have h1 := of_decide_eq_true (List.all_eq_true.mp hc q hq)
  rw [Bool.and_eq_true] at e
  have e2 : q.1 = k := eq_of_beq e.1
  unfold jsC at hk
  omega
theorem JS_fr {S : List (Nat × Option Nat)} {h h' : Hp} (f : fr S h h') (hc : jsS S = true) (r : JS h) : JS h' := JS_at (fun _ _ hk => f.1 _ _ (jsS_no hc hk)) r
theorem JS_sheet {S1 S2 : List (Nat × Option Nat)} {h h1 h2 : Hp} {k nn : Int} {l n r1 r2 : Int32} {B : Prop} (r : JS h) (f1 : fr S1 h h1) (f2 : fr S2 h1 h2) (s1 : ckS S1 116 131 = true) (s2 : ckS S2 0 127 = true) (hl : ¬ B → 0 ≤ l.toInt)
    (E1 : B ∧ h1 = h ∧ r1.toInt = -1 ∨ ¬ B ∧ nn < 0 ∧ h1 = h ∧ r1.toInt = -14 ∨ ¬ B ∧ 0 ≤ nn ∧ SHc h h1 k.toNat l n ∧ r1.toInt = 1) (E2 : B ∧ h2 = h1 ∧ r2.toInt = -1 ∨ ¬ B ∧ nn < 0 ∧ h2 = h1 ∧ r2.toInt = -14 ∨ ¬ B ∧ 0 ≤ nn ∧ SHl h1 h2 k.toNat l n 40 ∧ r2.toInt = 1) : JS h2 ∧ r1 = r2 := by
  rcases E1 with ⟨a1, a2, a3⟩ | ⟨a1, a2, a3, a4⟩ | ⟨a1, a2, a3, a4⟩
  · rcases E2 with ⟨b1, b2, b3⟩ | ⟨b1, b2, b3, b4⟩ | ⟨b1, b2, b3, b4⟩
    · rw [b2, a2]; exact ⟨r, same_of a3 b3⟩
    · exact absurd a1 b1
    · exact absurd a1 b1
  · rcases E2 with ⟨b1, b2, b3⟩ | ⟨b1, b2, b3, b4⟩ | ⟨b1, b2, b3, b4⟩
    · exact absurd b1 a1
    · rw [b3, a3]; exact ⟨r, same_of a4 b4⟩
    · omega
  · rcases E2 with ⟨b1, b2, b3⟩ | ⟨b1, b2, b3, b4⟩ | ⟨b1, b2, b3, b4⟩
    · exact absurd b1 a1
    · omega
    · refine ⟨fun j hj => ?_, same_of a4 b4⟩
      have m1 : ∀ k i : Nat, 116 ≤ k → k ≤ 131 → h1.1 k i = h.1 k i := fun k i p q => f1.1 _ _ (ckS_no s1 p q)
      have c6 : ∀ k i : Nat, k ≤ 127 → h2.1 k i = h1.1 k i := fun k i p => f2.1 _ _ (ckS_no s2 (by (first | decide +kernel | omega)) p)
      obtain ⟨r3, r4, r5⟩ := r j hj
      have hl' := hl a1
      rw [c6 (108 + 2 * j) 1 (by (first | decide +kernel | omega)), c6 (108 + 2 * j) 2 (by (first | decide +kernel | omega)), b3.1, b3.2.1]
      rcases a3 j hj with ⟨q, w1, w2, w3⟩ | ⟨q, w1, w2, w3⟩
      · rw [if_pos q, if_pos q, w1, w2]
        refine ⟨Or.inr ⟨hl', rfl⟩, rfl, fun i hi => ?_⟩
        rw [c6 (109 + 2 * j) i (by (first | decide +kernel | omega)), w3 i hi, b3.2.2, if_pos (by (first | decide +kernel | omega))]
      · rw [if_neg q, if_neg q, w1, w2, m1 128 j (by (first | decide +kernel | omega)) (by (first | decide +kernel | omega)), m1 129 j (by (first | decide +kernel | omega)) (by (first | decide +kernel | omega))]
        refine ⟨r3, r4, fun i hi => ?_⟩
        rw [c6 (109 + 2 * j) i (by (first | decide +kernel | omega)), w3 i hi, b3.2.2, if_neg (by (first | decide +kernel | omega)), m1 _ _ (by (first | decide +kernel | omega)) (by (first | decide +kernel | omega))]
        exact r5 i hi
theorem JS_lay {h h1 h2 : Hp} {k i : Int} {v r1 r2 : Int32} (hI : Inv h) (r : JS h)
    (E1 : (k < 0 ∨ 3 < k) ∧ h1 = h ∧ r1.toInt = -1 ∨ ¬ (k < 0 ∨ 3 < k) ∧ LY (-1) h h1 (h.1 (108 + 2 * k.toNat) 1).toInt (h.1 (108 + 2 * k.toNat) 2).toInt (109 + 2 * k.toNat) i.toNat i v r1) (E2 : (k < 0 ∨ 3 < k) ∧ h2 = h1 ∧ r2.toInt = -1 ∨ ¬ (k < 0 ∨ 3 < k) ∧ LY (-4) h1 h2 (h1.1 128 k.toNat).toInt (h1.1 129 k.toNat).toInt 130 (40 * k + i).toNat i v r2) : JS h2 ∧ r1 = r2 := by
  rcases E1 with ⟨a1, a2, a3⟩ | ⟨a1, a2⟩
  · rcases E2 with ⟨b1, b2, b3⟩ | ⟨b1, b2⟩
    · rw [b2, a2]; exact ⟨r, same_of a3 b3⟩
    · exact absurd a1 b1
  · rcases E2 with ⟨b1, b2, b3⟩ | ⟨b1, b2⟩
    · exact absurd b1 a1
    · have hk : 0 ≤ k ∧ k ≤ 3 := by (first | decide +kernel | omega)
      obtain ⟨r3, r4, r5⟩ := r k.toNat (by (first | decide +kernel | omega))
      have sz : 0 ≤ (h.1 129 k.toNat).toInt ∧ (h.1 129 k.toNat).toInt ≤ 40 := hI 129 k.toNat
      have e8 : h1.1 128 k.toNat = h.1 128 k.toNat := by
        rcases a2 with ⟨_, e, _⟩ | ⟨_, _, e, _⟩ | ⟨_, _, _, _, x, _, e⟩
        · rw [e]
        · rw [e]
        · rw [e, pI_at, if_neg (by (first | decide +kernel | omega))]
      have e9 : h1.1 129 k.toNat = h.1 129 k.toNat := by
        rcases a2 with ⟨_, e, _⟩ | ⟨_, _, e, _⟩ | ⟨_, _, _, _, x, _, e⟩
        · rw [e]
        · rw [e]
        · rw [e, pI_at, if_neg (by (first | decide +kernel | omega))]
      rw [e8, e9, ← r4] at b2
      have hz : (h.1 (108 + 2 * k.toNat) 2).toInt ≤ 40 := by rw [r4]; exact sz.2
      rcases a2 with ⟨c1, c2, c3⟩ | ⟨c1, c2, c3, c4⟩ | ⟨c1, c2, c3, c4, x, c5, c6⟩
      · rcases b2 with ⟨d1, d2, d3⟩ | ⟨d1, d2, d3, d4⟩ | ⟨d1, d2, d3, d4, y, d5, d6⟩
        · rw [d2, c2]; exact ⟨r, same_of c3 d3⟩
        · exfalso
          rcases r3 with q | q
          · omega
          · omega
        · exfalso
          rcases r3 with q | q
          · omega
          · omega
      · rcases b2 with ⟨d1, d2, d3⟩ | ⟨d1, d2, d3, d4⟩ | ⟨d1, d2, d3, d4, y, d5, d6⟩
        · exfalso
          rcases r3 with q | ⟨q, e⟩
          · omega
          · rw [e] at q; omega
        · rw [d3, c3]; exact ⟨r, same_of c4 d4⟩
        · omega
      · rcases b2 with ⟨d1, d2, d3⟩ | ⟨d1, d2, d3, d4⟩ | ⟨d1, d2, d3, d4, y, d5, d6⟩
        · exfalso
          rcases r3 with q | ⟨q, e⟩
          · omega
          · rw [e] at q; omega
        · omega
        · have et : (h.1 (108 + 2 * k.toNat) 1).toInt = (h.1 128 k.toNat).toInt := by
            rcases r3 with q | ⟨_, e⟩
            · exact absurd q.1 c1
            · rw [e]
          rw [et] at c5
          have exy := nrw_un c5 d5
          subst exy
          refine ⟨fun j hj => ?_, same_of c4 d4⟩
          obtain ⟨r6, r7, r8⟩ := r j hj
          rw [d6, pI_at, if_neg (by (first | decide +kernel | omega)), pI_at, if_neg (by (first | decide +kernel | omega)), pI_at, if_neg (by (first | decide +kernel | omega)), pI_at, if_neg (by (first | decide +kernel | omega)), c6, pI_at, if_neg (by (first | decide +kernel | omega)), pI_at, if_neg (by (first | decide +kernel | omega)), pI_at, if_neg (by (first | decide +kernel | omega)), pI_at, if_neg (by (first | decide +kernel | omega))]
          refine ⟨r6, r7, fun i' hi' => ?_⟩
          rw [pI_at, if_neg (by (first | decide +kernel | omega)), pI_at, pI_at]
          by_cases q : j = k.toNat ∧ i' = i.toNat
          · rw [if_pos (by (first | decide +kernel | omega)), if_pos (by (first | decide +kernel | omega))]
          · rw [if_neg (by (first | decide +kernel | omega)), if_neg (by (first | decide +kernel | omega)), pI_at, if_neg (by (first | decide +kernel | omega))]
            exact r8 i' hi'
