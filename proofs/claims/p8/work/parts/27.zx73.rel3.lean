theorem JA_row3 {h h1 h2 : Hp} {k : Nat} {c oZ : Int} {G : Prop} {V1 V2 : Int32 → Prop} {r1 r2 : Int32} (hI : Inv h) (r : JA h) (f1 : Er h h1 k c.toNat G V1 r1) (f2 : Er h1 h2 117 (oZ + c).toNat G V2 r2) (hk : k = 3 ∧ oZ = 16 ∨ k = 4 ∧ oZ = 32 ∨ k = 5 ∧ oZ = 48) (hc : G → 0 ≤ c ∧ c < (h.1 1 0).toInt * (h.1 1 1).toInt) (hV : ∀ x y : Int32, V1 x → V2 y → x = y) : JA h2 ∧ r1 = r2 := by
  have a : 2 ≤ (h.1 1 0).toInt ∧ (h.1 1 0).toInt ≤ 4 := hI 1 0
  have b : 2 ≤ (h.1 1 1).toInt ∧ (h.1 1 1).toInt ≤ 4 := hI 1 1
  have m := mul24 a b
  refine JA_row r f1 f2 Iff.rfl hV (fun g => ?_)
  have q := hc g
  have hlt : c < 16 := by (first | decide +kernel | omega)
  rcases hk with ⟨rfl, rfl⟩ | ⟨rfl, rfl⟩ | ⟨rfl, rfl⟩
  · have e := dof_row (k := 71) (i := c.toNat) (n := 16) (o := 16) (A := c) (by (first | decide +kernel | omega)) (by (first | decide +kernel | omega)) rfl
    rw [show (16 + c).toNat = 16 + c.toNat by (first | decide +kernel | omega)]
    exact ⟨e, by (first | decide +kernel | omega), by unfold aP; omega⟩
  · have e := dof_row (k := 72) (i := c.toNat) (n := 16) (o := 32) (A := c) (by (first | decide +kernel | omega)) (by (first | decide +kernel | omega)) rfl
    rw [show (32 + c).toNat = 32 + c.toNat by (first | decide +kernel | omega)]
    exact ⟨e, by (first | decide +kernel | omega), by unfold aP; omega⟩
  · have e := dof_row (k := 73) (i := c.toNat) (n := 16) (o := 48) (A := c) (by (first | decide +kernel | omega)) (by (first | decide +kernel | omega)) rfl
    rw [show (48 + c).toNat = 48 + c.toNat by (first | decide +kernel | omega)]
    exact ⟨e, by (first | decide +kernel | omega), by unfold aP; omega⟩
theorem V_flag {x y : Int32} {z : Int} (p : z ≠ 0 ∧ x.toInt = 1 ∨ z = 0 ∧ x.toInt = 0) (q : z ≠ 0 ∧ y.toInt = 1 ∨ z = 0 ∧ y.toInt = 0) : x = y := by
  rcases p with ⟨a1, b1⟩ | ⟨a1, b1⟩ <;> rcases q with ⟨a2, b2⟩ | ⟨a2, b2⟩
  · exact same_of b1 b2
  · exact absurd a2 a1
  · exact absurd a1 a2
  · exact same_of b1 b2
theorem JA_c86 {h : Hp} (r : JA h) : h.1 7 4 = h.1 117 86 := JA_cell r (k := 7) (i := 4) rfl (Or.inr (by decide)) (by decide)
theorem JA_c111 {h : Hp} (r : JA h) : h.1 12 4 = h.1 117 111 := JA_cell r (k := 12) (i := 4) rfl (Or.inr (by decide)) (by decide)
