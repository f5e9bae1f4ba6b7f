def rn1 (w v : Int32) : Int32 := if 0 < w.toInt then (if (w - v).toInt < 1 then 1 else w - v) else w
/-- the class's water behind rain over the first n CELLS -/
def rW (h h' : Hp) (k : Nat) (v : Int32) (n : Int) : Prop := ∀ i : Nat, i < 16 → h'.1 k i = if (i : Int) < n then rn1 (h.1 k i) v else h.1 k i
theorem rW_0 {h : Hp} {k : Nat} {v : Int32} : rW h h k v 0 := fun i _ => by rw [if_neg (by (first | decide +kernel | omega))]
theorem rW_s1 {h h1 h2 : Hp} {k : Nat} {v y z : Int32} {n : Int} (r : rW h h1 k v n) (hn : 0 ≤ n ∧ n < 16) (hy : y = h1.1 k n.toNat) (hz : z = rn1 y v) (e : h2 = pI h1 k n.toNat z) : rW h h2 k v (n + 1) := fun i hi => by
  rw [e, pI_at]
  have g := r n.toNat (by (first | decide +kernel | omega))
  rw [if_neg (by (first | decide +kernel | omega))] at g
  by_cases q : i = n.toNat
  · subst q
    rw [if_pos ⟨rfl, rfl⟩, if_pos (by (first | decide +kernel | omega)), hz, hy, g]
  · rw [if_neg (fun c => q c.2), r i hi]
    by_cases w : (i : Int) < n
    · rw [if_pos w, if_pos (by (first | decide +kernel | omega))]
    · rw [if_neg w, if_neg (by (first | decide +kernel | omega))]
theorem rW_s0 {h h1 : Hp} {k : Nat} {v y : Int32} {n Y : Int} (r : rW h h1 k v n) (hn : 0 ≤ n ∧ n < 16) (hy : y = h1.1 k n.toNat) (yE : y.toInt = Y) (h0 : Y ≤ 0) : rW h h1 k v (n + 1) := fun i hi => by
  have g := r n.toNat (by (first | decide +kernel | omega))
  rw [if_neg (by (first | decide +kernel | omega))] at g
  by_cases q : i = n.toNat
  · subst q
    rw [if_pos (by (first | decide +kernel | omega)), g]
    unfold rn1
    rw [← g, ← hy, yE, if_neg (by (first | decide +kernel | omega))]
  · rw [r i hi]
    by_cases w : (i : Int) < n
    · rw [if_pos w, if_pos (by (first | decide +kernel | omega))]
    · rw [if_neg w, if_neg (by (first | decide +kernel | omega))]
theorem rn1_max {y v s z : Int32} {Y S Z : Int} (yE : y.toInt = Y) (hy : 0 < Y) (e : s = y - v) (sE : s.toInt = S) (zE : z.toInt = Z) (g : 1 < S ∧ Z = S ∨ S ≤ 1 ∧ Z = 1) : z = rn1 y v := by
  unfold rn1
  rw [yE, if_pos hy, ← e, sE]
  rcases g with ⟨g1, g2⟩ | ⟨g1, g2⟩
  · rw [if_neg (by (first | decide +kernel | omega))]; exact same_of (zE.trans g2) sE
  · by_cases q : S < 1
    · rw [if_pos q]; exact same_of (zE.trans g2) rfl
    · rw [if_neg q]; exact same_of (zE.trans g2) (sE.trans (by (first | decide +kernel | omega)))
theorem rn1_m0 {y v : Int32} (h : y.toInt = 0) : (0 : Int32) = rn1 y v := by
  unfold rn1
  rw [h, if_neg (by (first | decide +kernel | omega))]
  exact same_of rfl h
theorem rn1_m1 {y v s : Int32} {Y S : Int} (yE : y.toInt = Y) (hy : 0 < Y) (e : s = y - v) (sE : s.toInt = S) (hs : S < 1) : (1 : Int32) = rn1 y v := by
  unfold rn1
  rw [yE, if_pos hy, ← e, sE, if_pos hs]
theorem rn1_m2 {y v s t : Int32} {Y S : Int} (yE : y.toInt = Y) (hy : 0 < Y) (e : s = y - v) (e2 : t = y - v) (sE : s.toInt = S) (hs : 1 ≤ S) : t = rn1 y v := by
  unfold rn1
  rw [yE, if_pos hy, ← e, sE, if_neg (by (first | decide +kernel | omega)), e2, e]
theorem rn1_nn {w v : Int32} (h : 0 ≤ w.toInt) : 0 ≤ (rn1 w v).toInt := by
  unfold rn1
  split
  · split
    · decide
    · next q => omega
  · exact h
/-- the bits of the WELLS of the first n CELLS -/
def wb (w b : Nat → Int32) : Nat → Nat
  | 0 => 0
  | n + 1 => wb w b n + (if 0 < (w n).toInt ∧ (w n).toInt ≤ (b n).toInt then 2 ^ n else 0)
def pcN : Nat → Nat → Nat
  | 0, _ => 0
  | k + 1, n => n % 2 + pcN k (n / 2)
theorem rM_nn {h h1 : Hp} {v y : Int32} {n Y : Int} (hw : ∀ i : Nat, i < 16 → 0 ≤ (h.1 117 i).toInt) (r : rW h h1 117 v n) (hn : 0 ≤ n ∧ n < 16) (hy : y = h1.1 117 (0 + n).toNat) (yE : y.toInt = Y) : 0 ≤ Y := by
  rw [Int.zero_add] at hy
  have g := r n.toNat (by (first | decide +kernel | omega))
  rw [if_neg (by (first | decide +kernel | omega))] at g
  rw [← yE, hy, g]
  exact hw _ (by (first | decide +kernel | omega))
