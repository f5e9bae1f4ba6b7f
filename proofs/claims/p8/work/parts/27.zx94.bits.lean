def uN (x : Int32) : Nat := x.toBitVec.toNat
theorem uN_lt (x : Int32) : uN x < 2 ^ 32 := x.toBitVec.isLt
theorem uN_and (x y : Int32) : uN (x &&& y) = uN x &&& uN y := by unfold uN; rw [Int32.toBitVec_and, BitVec.toNat_and]
theorem uN_or (x y : Int32) : uN (x ||| y) = uN x ||| uN y := by unfold uN; rw [Int32.toBitVec_or, BitVec.toNat_or]
theorem uN_add (x y : Int32) : uN (x + y) = (uN x + uN y) % 4294967296 := by
  have := BitVec.toNat_add x.toBitVec y.toBitVec
  rw [← Int32.toBitVec_add] at this
  exact this
theorem uN_sub (x y : Int32) : uN (x - y) = (4294967296 - uN y + uN x) % 4294967296 := by
  have := BitVec.toNat_sub x.toBitVec y.toBitVec
  rw [← Int32.toBitVec_sub] at this
  exact this
theorem uN_ush {x y z : Int32} (k : Nat) (e : z = (x.toUInt32 >>> (y.toUInt32 &&& Int32.toUInt32 31)).toInt32) (hk : (y.toUInt32 &&& Int32.toUInt32 31).toNat % 32 = k) : uN z = uN x / 2 ^ k := by
  have h1 : uN z = (x.toUInt32 >>> (y.toUInt32 &&& Int32.toUInt32 31)).toNat := by rw [e]; rfl
  rw [h1, UInt32.toNat_shiftRight, hk, Nat.shiftRight_eq_div_pow]
  rfl
theorem uN_ti {x : Int32} (h : uN x < 2 ^ 31) : x.toInt = (uN x : Int) := by
  rw [← Int32.toInt_toBitVec]
  exact BitVec.toInt_eq_toNat_of_lt (by show 2 * uN x < 2 ^ 32; omega)
theorem and_dig {w s m x y : Nat} (hs : s < 2 ^ w) (hm : m < 2 ^ w) : (s + 2 ^ w * x) &&& (m + 2 ^ w * y) = (s &&& m) + 2 ^ w * (x &&& y) := by
  have hp : 0 < 2 ^ w := Nat.two_pow_pos w
  have h1 : ((s + 2 ^ w * x) &&& (m + 2 ^ w * y)) % 2 ^ w = s &&& m := by
    rw [Nat.and_mod_two_pow, Nat.add_mul_mod_self_left, Nat.add_mul_mod_self_left, Nat.mod_eq_of_lt hs, Nat.mod_eq_of_lt hm]
  have h2 : ((s + 2 ^ w * x) &&& (m + 2 ^ w * y)) / 2 ^ w = x &&& y := by
    rw [Nat.and_div_two_pow, Nat.add_mul_div_left _ _ hp, Nat.add_mul_div_left _ _ hp, Nat.div_eq_of_lt hs, Nat.div_eq_of_lt hm, Nat.zero_add, Nat.zero_add]
  have h3 := Nat.mod_add_div ((s + 2 ^ w * x) &&& (m + 2 ^ w * y)) (2 ^ w)
  rw [h1, h2] at h3
  exact h3.symm
theorem and_d2 {s x m y : Nat} (hs : s < 4) (hm : m < 4) : (s + 4 * x) &&& (m + 4 * y) = (s &&& m) + 4 * (x &&& y) := and_dig (w := 2) hs hm
theorem and_d4 {s x m y : Nat} (hs : s < 16) (hm : m < 16) : (s + 16 * x) &&& (m + 16 * y) = (s &&& m) + 16 * (x &&& y) := and_dig (w := 4) hs hm
theorem and_d8 {s x m y : Nat} (hs : s < 256) (hm : m < 256) : (s + 256 * x) &&& (m + 256 * y) = (s &&& m) + 256 * (x &&& y) := and_dig (w := 8) hs hm
theorem and_1 (x : Nat) : x &&& 1 = x % 2 := Nat.and_two_pow_sub_one_eq_mod x 1
theorem and_3 (x : Nat) : x &&& 3 = x % 4 := Nat.and_two_pow_sub_one_eq_mod x 2
theorem and_15 (x : Nat) : x &&& 15 = x % 16 := Nat.and_two_pow_sub_one_eq_mod x 4
theorem and_63 (x : Nat) : x &&& 63 = x % 64 := Nat.and_two_pow_sub_one_eq_mod x 6
def M5 : Nat → Nat
  | 0 => 0
  | k + 1 => 1 + 4 * M5 k
def M3 : Nat → Nat
  | 0 => 0
  | k + 1 => 3 + 16 * M3 k
def M0 : Nat → Nat
  | 0 => 0
  | k + 1 => 15 + 256 * M0 k
def P2 : Nat → Nat → Nat
  | 0, _ => 0
  | k + 1, n => (n % 2 + n / 2 % 2) + 4 * P2 k (n / 4)
def pc4 (n : Nat) : Nat := n % 2 + n / 2 % 2 + (n / 4 % 2 + n / 8 % 2)
theorem pc4_le (n : Nat) : pc4 n ≤ 4 := by unfold pc4; omega
def P4 : Nat → Nat → Nat
  | 0, _ => 0
  | k + 1, n => pc4 n + 16 * P4 k (n / 16)
def P8 : Nat → Nat → Nat
  | 0, _ => 0
  | k + 1, n => (pc4 n + pc4 (n / 16)) + 256 * P8 k (n / 256)
theorem P2_of : ∀ k n : Nat, n < 4 ^ k → n - (n / 2 &&& M5 k) = P2 k n ∧ (n / 2 &&& M5 k) ≤ n := by
  intro k
  induction k with
  | zero => intro n h; have : n = 0 := by (first | decide +kernel | omega)
            subst this; exact ⟨rfl, Nat.le_refl 0⟩
  | succ k ih =>
    intro n h
    rw [Nat.pow_succ] at h
    obtain ⟨i1, i2⟩ := ih (n / 4) (by (first | decide +kernel | omega))
    have e1 : n / 2 = (n % 4 / 2 + 2 * (n / 4 % 2)) + 4 * (n / 4 / 2) := by (first | decide +kernel | omega)
    have e2 : n / 2 &&& M5 (k + 1) = n % 4 / 2 + 4 * (n / 4 / 2 &&& M5 k) := by
      show n / 2 &&& (1 + 4 * M5 k) = _
      rw [e1, and_d2 (by (first | decide +kernel | omega)) (by (first | decide +kernel | omega)), and_1]
      omega
    rw [e2]
    show n - _ = (n % 2 + n / 2 % 2) + 4 * P2 k (n / 4) ∧ _
    rw [← i1]
    generalize n / 4 / 2 &&& M5 k = t at i2
    omega
theorem P2_su (k n : Nat) : P2 (2 * (k + 1)) n = ((n % 2 + n / 2 % 2) + 4 * (n / 4 % 2 + n / 8 % 2)) + 16 * P2 (2 * k) (n / 16) := by
  show (n % 2 + n / 2 % 2) + 4 * ((n / 4 % 2 + n / 4 / 2 % 2) + 4 * P2 (2 * k) (n / 4 / 4)) = _
  rw [show n / 4 / 4 = n / 16 by (first | decide +kernel | omega), show n / 4 / 2 = n / 8 by (first | decide +kernel | omega)]
  omega
theorem P4_of : ∀ k n : Nat, (P2 (2 * k) n &&& M3 k) + (P2 (2 * k) n / 4 &&& M3 k) = P4 k n := by
  intro k
  induction k with
  | zero => intro n; show (0 &&& 0) + (0 / 4 &&& 0) = 0; rfl
  | succ k ih =>
    intro n
    have i1 := ih (n / 16)
    rw [P2_su]
    generalize P2 (2 * k) (n / 16) = q at i1
    show (_ &&& (3 + 16 * M3 k)) + (_ &&& (3 + 16 * M3 k)) = pc4 n + 16 * P4 k (n / 16)
    have e1 : ((n % 2 + n / 2 % 2) + 4 * (n / 4 % 2 + n / 8 % 2) + 16 * q) / 4 = ((n / 4 % 2 + n / 8 % 2) + 4 * (q % 4)) + 16 * (q / 4) := by (first | decide +kernel | omega)
    rw [e1, and_d4 (by (first | decide +kernel | omega)) (by (first | decide +kernel | omega)), and_d4 (by (first | decide +kernel | omega)) (by (first | decide +kernel | omega)), and_3, and_3, ← i1]
    unfold pc4
    omega
theorem P4_su (k n : Nat) : P4 (2 * (k + 1)) n = (pc4 n + 16 * pc4 (n / 16)) + 256 * P4 (2 * k) (n / 256) := by
  show pc4 n + 16 * (pc4 (n / 16) + 16 * P4 (2 * k) (n / 16 / 16)) = _
  rw [show n / 16 / 16 = n / 256 by (first | decide +kernel | omega)]
  omega
theorem P4_m (k n : Nat) : P4 k n % 16 ≤ 4 := by
  cases k with
  | zero => show 0 % 16 ≤ 4; decide
  | succ k =>
    show (pc4 n + 16 * P4 k (n / 16)) % 16 ≤ 4
    have := pc4_le n
    omega
theorem P8_of : ∀ k n : Nat, (P4 (2 * k) n + P4 (2 * k) n / 16) &&& M0 k = P8 k n := by
  intro k
  induction k with
  | zero => intro n; show (0 + 0 / 16) &&& 0 = 0; rfl
  | succ k ih =>
    intro n
    have i1 := ih (n / 256)
    have i2 := P4_m (2 * k) (n / 256)
    have i3 := pc4_le n
    have i4 := pc4_le (n / 16)
    rw [P4_su]
    show _ &&& (15 + 256 * M0 k) = (pc4 n + pc4 (n / 16)) + 256 * P8 k (n / 256)
    rw [← i1]
    generalize P4 (2 * k) (n / 256) = q at i2
    have e1 : (pc4 n + 16 * pc4 (n / 16)) + 256 * q + ((pc4 n + 16 * pc4 (n / 16)) + 256 * q) / 16 = (pc4 n + pc4 (n / 16) + 16 * (pc4 (n / 16) + q % 16)) + 256 * (q + q / 16) := by (first | decide +kernel | omega)
    rw [e1, and_d8 (by (first | decide +kernel | omega)) (by (first | decide +kernel | omega)), and_15]
    omega
theorem pcN_8 (k n : Nat) : pcN (k + 8) n = pc4 n + pc4 (n / 16) + pcN k (n / 256) := by
  show n % 2 + (n / 2 % 2 + (n / 2 / 2 % 2 + (n / 2 / 2 / 2 % 2 + (n / 2 / 2 / 2 / 2 % 2 + (n / 2 / 2 / 2 / 2 / 2 % 2 + (n / 2 / 2 / 2 / 2 / 2 / 2 % 2 + (n / 2 / 2 / 2 / 2 / 2 / 2 / 2 % 2 + pcN k (n / 2 / 2 / 2 / 2 / 2 / 2 / 2 / 2)))))))) = _
  rw [show n / 2 / 2 / 2 / 2 / 2 / 2 / 2 / 2 = n / 256 by (first | decide +kernel | omega)]
  unfold pc4
  omega
theorem P8_le (n : Nat) : P8 4 n = (pc4 n + pc4 (n / 16)) + 256 * (pc4 (n / 256) + pc4 (n / 256 / 16)) + 65536 * (pc4 (n / 65536) + pc4 (n / 65536 / 16)) + 16777216 * (pc4 (n / 16777216) + pc4 (n / 16777216 / 16)) := by
  show (pc4 n + pc4 (n / 16)) + 256 * ((pc4 (n / 256) + pc4 (n / 256 / 16)) + 256 * ((pc4 (n / 256 / 256) + pc4 (n / 256 / 256 / 16)) + 256 * ((pc4 (n / 256 / 256 / 256) + pc4 (n / 256 / 256 / 256 / 16)) + 256 * 0))) = _
  rw [show n / 256 / 256 / 256 = n / 16777216 by (first | decide +kernel | omega), show n / 256 / 256 = n / 65536 by (first | decide +kernel | omega)]
  omega
theorem pcN_32 (n : Nat) : pcN 32 n = (pc4 n + pc4 (n / 16)) + (pc4 (n / 256) + pc4 (n / 256 / 16)) + (pc4 (n / 65536) + pc4 (n / 65536 / 16)) + (pc4 (n / 16777216) + pc4 (n / 16777216 / 16)) := by
  have h1 : pcN 32 n = _ := pcN_8 24 n
  have h2 : pcN 24 (n / 256) = _ := pcN_8 16 (n / 256)
  have h3 : pcN 16 (n / 256 / 256) = _ := pcN_8 8 (n / 256 / 256)
  have h4 : pcN 8 (n / 256 / 256 / 256) = _ := pcN_8 0 (n / 256 / 256 / 256)
  have h5 : pcN 0 (n / 256 / 256 / 256 / 256) = 0 := rfl
  have e1 : n / 256 / 256 / 256 = n / 16777216 := by (first | decide +kernel | omega)
  have e2 : n / 256 / 256 = n / 65536 := by (first | decide +kernel | omega)
  rw [h1, h2, h3, h4, h5, e1, e2]
  omega
theorem bc_nat {n a b c d e f : Nat} (h : n < 2 ^ 32) (h1 : a = n - (n / 2 &&& 1431655765)) (h2 : b = (a &&& 858993459) + (a / 4 &&& 858993459)) (h3 : c = (b + b / 16) &&& 252645135) (h4 : d = c + c / 256) (h5 : e = d + d / 65536) (h6 : f = e &&& 63) : f = pcN 32 n ∧ a ≤ n ∧ b < 2 ^ 32 ∧ b + b / 16 < 2 ^ 32 ∧ d < 2 ^ 32 ∧ e < 2 ^ 32 := by
  have a1 : a = P2 16 n := by rw [h1]; exact (P2_of 16 n h).1
  have a2 : b = P4 8 n := by rw [h2, a1]; exact P4_of 8 n
  have a3 : c = P8 4 n := by rw [h3, a2]; exact P8_of 4 n
  have l0 := pc4_le n
  have l1 := pc4_le (n / 16)
  have l2 := pc4_le (n / 256)
  have l3 := pc4_le (n / 256 / 16)
  have l4 := pc4_le (n / 65536)
  have l5 := pc4_le (n / 65536 / 16)
  have l6 := pc4_le (n / 16777216)
  have l7 := pc4_le (n / 16777216 / 16)
  have b1 : b = ((pc4 n + 16 * pc4 (n / 16)) + 256 * (pc4 (n / 256) + 16 * pc4 (n / 256 / 16))) + 65536 * ((pc4 (n / 65536) + 16 * pc4 (n / 65536 / 16)) + 256 * (pc4 (n / 16777216) + 16 * pc4 (n / 16777216 / 16))) := by
    rw [a2, show (8 : Nat) = 2 * (3 + 1) from rfl, P4_su, show 2 * 3 = 2 * (2 + 1) from rfl, P4_su, show 2 * 2 = 2 * (1 + 1) from rfl, P4_su, show 2 * 1 = 2 * (0 + 1) from rfl, P4_su]
    rw [show n / 256 / 256 / 256 = n / 16777216 by (first | decide +kernel | omega), show n / 256 / 256 = n / 65536 by (first | decide +kernel | omega)]
    show _ + 256 * (_ + 256 * (_ + 256 * (_ + 256 * 0))) = _
    omega
  rw [P8_le] at a3
  rw [pcN_32]
  rw [and_63] at h6
  have ha : a ≤ n := by rw [h1]; exact Nat.sub_le _ _
  clear h1 h2 h3 a1 a2
  obtain ⟨d0, e0⟩ : ∃ d0, d0 = pc4 n + pc4 (n / 16) := ⟨_, rfl⟩
  obtain ⟨d1, e1⟩ : ∃ d1, d1 = pc4 (n / 256) + pc4 (n / 256 / 16) := ⟨_, rfl⟩
  obtain ⟨d2, e2⟩ : ∃ d2, d2 = pc4 (n / 65536) + pc4 (n / 65536 / 16) := ⟨_, rfl⟩
  obtain ⟨d3, e3⟩ : ∃ d3, d3 = pc4 (n / 16777216) + pc4 (n / 16777216 / 16) := ⟨_, rfl⟩
  have y0 : d0 ≤ 8 := by (first | decide +kernel | omega)
  have y1 : d1 ≤ 8 := by (first | decide +kernel | omega)
  have y2 : d2 ≤ 8 := by (first | decide +kernel | omega)
  have y3 : d3 ≤ 8 := by (first | decide +kernel | omega)
  have hb : b < 2 ^ 32 ∧ b + b / 16 < 2 ^ 32 := by
    have : b ≤ 1145324612 := by (first | decide +kernel | omega)
    omega
  rw [← e0, ← e1, ← e2, ← e3] at a3 ⊢
  clear l0 l1 l2 l3 l4 l5 l6 l7 b1 e0 e1 e2 e3
  have q1 : c / 256 = d1 + 256 * d2 + 65536 * d3 := by (first | decide +kernel | omega)
  have q2 : d = (d0 + d1) + 256 * (d1 + d2) + 65536 * ((d2 + d3) + 256 * d3) := by (first | decide +kernel | omega)
  have q3 : d / 65536 = (d2 + d3) + 256 * d3 := by (first | decide +kernel | omega)
  have q4 : e = (d0 + d1 + d2 + d3) + 64 * (4 * (d1 + d2 + d3) + 1024 * ((d2 + d3) + 256 * d3)) := by (first | decide +kernel | omega)
  have q5 : f = d0 + d1 + d2 + d3 := by rw [h6, q4, Nat.add_mul_mod_self_left]; exact Nat.mod_eq_of_lt (by (first | decide +kernel | omega))
  exact ⟨q5, ha, hb.1, hb.2, by (first | decide +kernel | omega), by (first | decide +kernel | omega)⟩
theorem bc_of {v a1 a2 a3 b1 b2 b3 b4 c1 c2 c3 d1 d2 e1 e2 r : Int32} (g1 : a1 = (v.toUInt32 >>> (Int32.toUInt32 1 &&& Int32.toUInt32 31)).toInt32) (g2 : a2 = a1 &&& 1431655765) (g3 : a3 = v - a2) (g4 : b1 = a3 &&& 858993459) (g5 : b2 = (a3.toUInt32 >>> (Int32.toUInt32 2 &&& Int32.toUInt32 31)).toInt32) (g6 : b3 = b2 &&& 858993459) (g7 : b4 = b1 + b3) (g8 : c1 = (b4.toUInt32 >>> (Int32.toUInt32 4 &&& Int32.toUInt32 31)).toInt32) (g9 : c2 = b4 + c1) (g10 : c3 = c2 &&& 252645135) (g11 : d1 = (c3.toUInt32 >>> (Int32.toUInt32 8 &&& Int32.toUInt32 31)).toInt32) (g12 : d2 = c3 + d1) (g13 : e1 = (d2.toUInt32 >>> (Int32.toUInt32 16 &&& Int32.toUInt32 31)).toInt32) (g14 : e2 = d2 + e1) (g15 : r = e2 &&& 63) : r.toInt = (pcN 32 (uN v) : Nat) := by
  have l := uN_lt v
  have u1 := uN_ush 1 g1 (by decide)
  have u2 := uN_ush 2 g5 (by decide)
  have u3 := uN_ush 4 g8 (by decide)
  have u4 := uN_ush 8 g11 (by decide)
  have u5 := uN_ush 16 g13 (by decide)
  have c1' : uN (1431655765 : Int32) = 1431655765 := by decide
  have c2' : uN (858993459 : Int32) = 858993459 := by decide
  have c3' : uN (252645135 : Int32) = 252645135 := by decide
  have c4' : uN (63 : Int32) = 63 := by decide
  obtain ⟨k1, k2, k3, k4, k5, k6⟩ := bc_nat l rfl rfl rfl rfl rfl rfl
  have v2 : uN a2 = uN v / 2 &&& 1431655765 := by rw [g2, uN_and, u1, c1']
  have hle : (uN v / 2 &&& 1431655765) ≤ uN v := (P2_of 16 (uN v) l).2
  have v3 : uN a3 = uN v - (uN v / 2 &&& 1431655765) := by
    rw [g3, uN_sub, v2]
    generalize uN v / 2 &&& 1431655765 = t at hle
    omega
  have v4 : uN b1 = (uN v - (uN v / 2 &&& 1431655765)) &&& 858993459 := by rw [g4, uN_and, v3, c2']
  have v5 : uN b3 = (uN v - (uN v / 2 &&& 1431655765)) / 4 &&& 858993459 := by rw [g6, uN_and, u2, v3, c2']
  have v6 : uN b4 = ((uN v - (uN v / 2 &&& 1431655765)) &&& 858993459) + ((uN v - (uN v / 2 &&& 1431655765)) / 4 &&& 858993459) := by rw [g7, uN_add, v4, v5]; exact Nat.mod_eq_of_lt k3
  have v7 : uN c2 = uN b4 + uN b4 / 16 := by rw [g9, uN_add, u3]; rw [← v6] at k4; exact Nat.mod_eq_of_lt k4
  have v8 : uN c3 = (uN b4 + uN b4 / 16) &&& 252645135 := by rw [g10, uN_and, v7, c3']
  rw [← v6, ← v8] at k1 k5 k6
  have v9 : uN d2 = uN c3 + uN c3 / 256 := by rw [g12, uN_add, u4]; exact Nat.mod_eq_of_lt k5
  rw [← v9] at k1 k6
  have v10 : uN e2 = uN d2 + uN d2 / 65536 := by rw [g14, uN_add, u5]; exact Nat.mod_eq_of_lt k6
  rw [← v10] at k1
  have v11 : uN r = pcN 32 (uN v) := by rw [g15, uN_and, c4']; exact k1
  have v12 : uN r < 64 := by rw [g15, uN_and, c4', and_63]; exact Nat.mod_lt _ (by decide)
  rw [uN_ti (by (first | decide +kernel | omega)), v11]
def ct (p : Nat → Bool) : Nat → Nat
  | 0 => 0
  | n + 1 => ct p n + (if p n then 1 else 0)
theorem ct_cg {p q : Nat → Bool} : ∀ n : Nat, (∀ i : Nat, i < n → p i = q i) → ct p n = ct q n := by
  intro n
  induction n with
  | zero => intro _; rfl
  | succ n ih => intro h; show ct p n + _ = ct q n + _; rw [ih (fun i hi => h i (by (first | decide +kernel | omega))), h n (by (first | decide +kernel | omega))]
theorem pcN_top : ∀ k n : Nat, pcN (k + 1) n = pcN k n + n / 2 ^ k % 2 := by
  intro k
  induction k with
  | zero => intro n; show n % 2 + 0 = 0 + n / 1 % 2; omega
  | succ k ih =>
    intro n
    show n % 2 + pcN (k + 1) (n / 2) = (n % 2 + pcN k (n / 2)) + n / 2 ^ (k + 1) % 2
    rw [ih (n / 2), Nat.div_div_eq_div_mul, show 2 * 2 ^ k = 2 ^ (k + 1) by rw [Nat.pow_succ]; omega]
    omega
theorem pcN_ct (n : Nat) : ∀ k : Nat, pcN k n = ct (fun j => n.testBit j) k := by
  intro k
  induction k with
  | zero => rfl
  | succ k ih =>
    rw [pcN_top, ih]
    show _ = ct _ k + (if n.testBit k then 1 else 0)
    rw [Nat.testBit_eq_decide_div_mod_eq]
    have : n / 2 ^ k % 2 < 2 := Nat.mod_lt _ (by decide)
    by_cases q : n / 2 ^ k % 2 = 1
    · rw [decide_eq_true q, q]; rfl
    · rw [decide_eq_false q, show n / 2 ^ k % 2 = 0 by (first | decide +kernel | omega)]; rfl
def BS (x : Int32) (p : Nat → Bool) : Prop := ∀ j : Nat, (uN x).testBit j = p j
theorem BS_cg {x : Int32} {p q : Nat → Bool} (b : BS x p) (h : ∀ j : Nat, p j = q j) : BS x q := fun j => (b j).trans (h j)
theorem BS_0 : BS 0 (fun _ => false) := fun j => by
  show (uN 0).testBit j = false
  rw [show uN 0 = 0 by decide]
  exact Nat.zero_testBit j
theorem BS_or {x y : Int32} {p q : Nat → Bool} (a : BS x p) (b : BS y q) : BS (x ||| y) (fun j => p j || q j) := fun j => by rw [uN_or, Nat.testBit_or, a j, b j]
theorem i32_of {i : Int32} {I : Int} (iE : i.toInt = I) (h : 0 ≤ I ∧ I < 32) : i = Int32.ofNat I.toNat := by
  refine Int32.toInt_inj.mp ?_
  rw [Int32.toInt_ofNat_of_lt (by (first | decide +kernel | omega)), iE]
  omega
theorem one_sh : ∀ k, k < 32 → uN ((1 : Int32) <<< (Int32.ofNat k &&& 31)) = 2 ^ k := by decide +kernel
theorem BS_one {i : Int32} {I : Int} (iE : i.toInt = I) (h : 0 ≤ I ∧ I < 32) : BS (1 <<< (i &&& 31)) (fun j => decide (j = I.toNat)) := fun j => by
  rw [i32_of iE h, one_sh _ (by (first | decide +kernel | omega)), Nat.testBit_two_pow]
  exact decide_eq_decide.mpr eq_comm
theorem BS_ct {x : Int32} {p : Nat → Bool} (b : BS x p) : pcN 32 (uN x) = ct p 32 := by
  rw [pcN_ct]
  exact ct_cg 32 (fun i _ => b i)
def WQ (w b : Nat → Int32) (n : Int) (j : Nat) : Bool := decide ((j : Int) < n ∧ 0 < (w j).toInt ∧ (w j).toInt ≤ (b j).toInt)
theorem WQ_0 {w b : Nat → Int32} : BS 0 (WQ w b 0) := BS_cg BS_0 (fun j => (decide_eq_false (by (first | decide +kernel | omega))).symm)
theorem WQ_1 {w b : Nat → Int32} {x c s y : Int32} {n : Int} (r : BS x (WQ w b n)) (cE : c.toInt = n) (hn : 0 ≤ n ∧ n < 32) (g : 0 < (w n.toNat).toInt ∧ (w n.toNat).toInt ≤ (b n.toNat).toInt) (e1 : s = 1 <<< (c &&& 31)) (e2 : y = x ||| s) : BS y (WQ w b (n + 1)) := by
  rw [e2, e1]
  refine BS_cg (BS_or r (BS_one cE hn)) (fun j => ?_)
  unfold WQ
  by_cases q : j = n.toNat
  · subst q
    rw [decide_eq_true rfl, Bool.or_true, decide_eq_true ⟨by (first | decide +kernel | omega), g⟩]
  · rw [decide_eq_false q, Bool.or_false]
    exact decide_eq_decide.mpr ⟨fun k => ⟨by (first | decide +kernel | omega), k.2⟩, fun k => ⟨by (first | decide +kernel | omega), k.2⟩⟩
theorem WQ_n {w b : Nat → Int32} {x : Int32} {n : Int} (r : BS x (WQ w b n)) (hn : 0 ≤ n) (g : ¬ (0 < (w n.toNat).toInt ∧ (w n.toNat).toInt ≤ (b n.toNat).toInt)) : BS x (WQ w b (n + 1)) := by
  refine BS_cg r (fun j => ?_)
  unfold WQ
  refine decide_eq_decide.mpr ⟨fun k => ⟨by (first | decide +kernel | omega), k.2⟩, fun k => ⟨?_, k.2⟩⟩
  by_cases q : j = n.toNat
  · subst q; exact absurd k.2 g
  · omega
theorem ct_s {p : Nat → Bool} {n : Int} {a f : Int} (hn : 0 ≤ n) (h : a = (ct p n.toNat : Nat)) (hf : f = if p n.toNat then 1 else 0) : a + f = (ct p (n + 1).toNat : Nat) := by
  rw [show (n + 1).toNat = n.toNat + 1 by (first | decide +kernel | omega)]
  show _ = ((ct p n.toNat + (if p n.toNat then 1 else 0) : Nat) : Int)
  rw [h, hf]
  split <;> rfl
