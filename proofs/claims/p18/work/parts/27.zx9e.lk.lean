/-! bores by a seed -/
def sti (v : Int32) : Int32 := v * 1103515245 + 12345
def dr (d : Int32) : Int := ((uN d / 65536 % 32768 : Nat) : Int)
theorem dr_b (d : Int32) : 0 ≤ dr d ∧ dr d ≤ 32767 := by unfold dr; omega
theorem and_15b (x : Nat) : x &&& 32767 = x % 32768 := Nat.and_two_pow_sub_one_eq_mod x 15
theorem drC_of {d x y : Int32} {Y : Int} (e1 : x = (d.toUInt32 >>> (Int32.toUInt32 16 &&& Int32.toUInt32 31)).toInt32) (e2 : y = x &&& 32767) (yE : y.toInt = Y) : Y = dr d := by
  have u1 := uN_ush 16 e1 (by decide)
  have h1 : uN y = uN d / 65536 % 32768 := by rw [e2, uN_and, show uN 32767 = 32767 by decide, and_15b, u1]
  have h2 : uN y < 32768 := by rw [h1]; exact Nat.mod_lt _ (by decide)
  rw [← yE, uN_ti (by omega), h1]
  rfl
theorem drM_of {d x y : Int32} {Y : Int} (e1 : x = d >>> (16 &&& 31)) (e2 : y = x &&& 32767) (yE : y.toInt = Y) : Y = dr d := by
  have hz : x.toBitVec = d.toBitVec.sshiftRight 16 := by
    rw [e1, Int32.toBitVec_shiftRight, BitVec.sshiftRight_eq']
    rfl
  have h1 : uN y = uN d / 65536 % 32768 := by
    rw [e2, uN_and, show uN 32767 = 2 ^ 15 - 1 by decide]
    refine Nat.eq_of_testBit_eq (fun j => ?_)
    rw [Nat.testBit_and, Nat.testBit_two_pow_sub_one, show (65536 : Nat) = 2 ^ 16 from rfl, show (32768 : Nat) = 2 ^ 15 from rfl, Nat.testBit_mod_two_pow, Nat.testBit_div_two_pow]
    by_cases q : j < 15
    · have h3 : x.toBitVec.getLsbD j = d.toBitVec.getLsbD (16 + j) := by
        rw [hz, BitVec.getLsbD_sshiftRight, if_pos (by omega)]
        rw [show decide (32 ≤ j) = false from decide_eq_false (by omega)]
        rfl
      have h4 : (uN x).testBit j = (uN d).testBit (16 + j) := h3
      rw [h4, decide_eq_true q, Bool.and_true, Bool.true_and, Nat.add_comm]
    · rw [decide_eq_false q, Bool.and_false, Bool.false_and]
  have h2 : uN y < 32768 := by rw [h1]; exact Nat.mod_lt _ (by decide)
  rw [← yE, uN_ti (by omega), h1]
  rfl
def lkv (s : Int32) : Nat → Int32
  | 0 => s
  | k + 1 => sti (sti (lkv s k))
def lkB (b : Nat → Int) (W : Int) (s : Int32) : Nat → Nat → Int
  | 0, i => b i
  | k + 1, i => if (i : Int) = dr (sti (lkv s k)) % W then (if lkB b W s k i < dr (sti (sti (lkv s k))) % 9 + 1 then dr (sti (sti (lkv s k))) % 9 + 1 else lkB b W s k i) else lkB b W s k i
theorem lkB_cg {b b2 : Nat → Int} {W : Int} {s : Int32} (e : ∀ i : Nat, i < 16 → b i = b2 i) : ∀ (k i : Nat), i < 16 → lkB b W s k i = lkB b2 W s k i := by
  intro k
  induction k with
  | zero => intro i hi; exact e i hi
  | succ k ih => intro i hi; show (if _ then (if lkB b W s k i < _ then _ else lkB b W s k i) else lkB b W s k i) = (if _ then (if lkB b2 W s k i < _ then _ else lkB b2 W s k i) else lkB b2 W s k i); rw [ih i hi]
/-- the row k of a heap is as so many bores leave it -/
def lkR (b : Nat → Int) (W : Int) (s : Int32) (g : Hp) (k : Nat) (n : Int) : Prop := ∀ i : Nat, i < 16 → (g.1 k i).toInt = lkB b W s n.toNat i
theorem lkR_s {b : Nat → Int} {W n C D X Y Z : Int} {s c1 c2 v y z : Int32} {g g2 : Hp} {k : Nat} (hn : 0 ≤ n) (r : lkR b W s g k n) (hv : v = lkv s n.toNat) (e1 : c1 = sti v) (e2 : c2 = sti c1) (hX : X = dr c1) (hW : 0 < W ∧ W ≤ 16) (hC : C = X % W) (hD : D = dr c2 % 9 + 1) (ye : y = g.1 k C.toNat) (yE : y.toInt = Y) (zE : z.toInt = Z) (hz : Y < D ∧ Z = D ∨ D ≤ Y ∧ Z = Y) (e : g2 = pI g k C.toNat z) : lkR b W s g2 k (n + 1) := fun i hi => by
  rw [show (n + 1).toNat = n.toNat + 1 by omega, e, pI_at]
  show _ = (if (i : Int) = dr (sti (lkv s n.toNat)) % W then _ else _)
  have b0 := dr_b c1
  have b1 := Int.emod_nonneg X (b := W) (by omega)
  have b2 := Int.emod_lt_of_pos X (b := W) (by omega)
  rw [← hv, ← e1, ← e2, ← hX, ← hC, ← hD, ← r i hi]
  by_cases q : (i : Int) = C
  · have qi : i = C.toNat := by omega
    rw [if_pos ⟨rfl, qi⟩, if_pos q, qi, ← ye, yE, zE]
    rcases hz with ⟨h1, h2⟩ | ⟨h1, h2⟩
    · rw [if_pos h1, h2]
    · rw [if_neg (by omega), h2]
  · rw [if_neg (fun c => q (by omega)), if_neg q]
theorem lkv_s {s v c1 c2 : Int32} {n : Int} (hn : 0 ≤ n) (hv : v = lkv s n.toNat) (e1 : c1 = sti v) (e2 : c2 = sti c1) : c2 = lkv s (n + 1).toNat := by
  rw [show (n + 1).toNat = n.toNat + 1 by omega]
  show c2 = sti (sti (lkv s n.toNat))
  rw [← hv, ← e1, e2]
def LW (w : Nat → Int32) (f : Nat → Int) (n : Int) (j : Nat) : Bool := decide ((j : Int) < n ∧ 0 < (w j).toInt ∧ (w j).toInt ≤ f j)
theorem LW_W {w w2 b : Nat → Int32} {f : Nat → Int} {n : Int} (hn : n ≤ 16) (hw : ∀ i : Nat, i < 16 → w i = w2 i) (hb : ∀ i : Nat, i < 16 → (b i).toInt = f i) (j : Nat) : WQ w b n j = LW w2 f n j := by
  unfold WQ LW
  by_cases q : (j : Int) < n
  · rw [hw j (by omega), hb j (by omega)]
  · exact decide_eq_decide.mpr ⟨fun k => absurd k.1 q, fun k => absurd k.1 q⟩
theorem LW_cg {w w2 : Nat → Int32} {f f2 : Nat → Int} {n : Int} (hn : n ≤ 16) (hw : ∀ i : Nat, i < 16 → w i = w2 i) (hb : ∀ i : Nat, i < 16 → f i = f2 i) (j : Nat) : LW w f n j = LW w2 f2 n j := by
  unfold LW
  by_cases q : (j : Int) < n
  · rw [hw j (by omega), hb j (by omega)]
  · exact decide_eq_decide.mpr ⟨fun k => absurd k.1 q, fun k => absurd k.1 q⟩
theorem LW_ct {w : Nat → Int32} {f : Nat → Int} {n : Int} (hn : 0 ≤ n ∧ n ≤ 32) : ct (LW w f n) 32 = ct (LW w f n) n.toNat := by
  have := ct_up (p := LW w f n) (m := n.toNat) (32 - n.toNat) (fun i a _ => decide_eq_false (by omega))
  rw [show n.toNat + (32 - n.toNat) = 32 by omega] at this
  exact this
/-- the spare county's water -/
def lw9 (h g : Hp) : Prop := ∀ i : Nat, i < 16 → g.1 19 i = h.1 2 i
theorem lw9_of {h g : Hp} (c : cpy h g 17 0) : lw9 h g := fun i hi => by
  have := c 2 i (by unfold cpl; omega)
  rw [Nat.zero_add] at this
  exact this
theorem lw9_put {h g g2 : Hp} {k i : Nat} {x : Int32} (r : lw9 h g) (e : g2 = pI g k i x) (hk : k ≠ 19) : lw9 h g2 := fun j hj => by
  rw [e, pI_at, if_neg (fun c => hk c.1.symm)]
  exact r j hj
theorem lkR_0 {h g : Hp} {W : Int} {s : Int32} (c : cpy h g 17 0) : lkR (fun i => (h.1 6 i).toInt) W s g 23 0 := fun i hi => by
  have := c 6 i (by unfold cpl; omega)
  rw [Nat.zero_add] at this
  rw [show g.1 23 i = h.1 6 i from this]
  rfl
/-- the reference's copy of its bores -/
def lc0 (h g : Hp) (n : Int) : Prop := ∀ j : Nat, (j : Int) < n → g.1 127 j = h.1 117 (64 + j)
theorem lc0_0 {h g : Hp} : lc0 h g 0 := fun j hj => by omega
theorem lc0_s {h g g2 : Hp} {n : Int} {y : Int32} (r : lc0 h g n) (hn : 0 ≤ n) (e : g2 = pI g 127 n.toNat y) (ye : y = h.1 117 (64 + n).toNat) : lc0 h g2 (n + 1) := fun j hj => by
  rw [e, pI_at]
  by_cases q : j = n.toNat
  · rw [if_pos ⟨rfl, q⟩, ye, q, show (64 + n).toNat = 64 + n.toNat by omega]
  · rw [if_neg (fun c => q c.2)]; exact r j (by omega)
theorem lkR_m {h g : Hp} {W n : Int} {s : Int32} (r : lc0 h g n) (hn : 16 ≤ n) : lkR (fun i => (h.1 117 (64 + i)).toInt) W s g 127 0 := fun i hi => by
  rw [r i (by omega)]
  rfl
theorem LW_fm {h g : Hp} {b : Nat → Int} {n N W K R F A B : Int} {s x y r z : Int32} (hn : 0 ≤ n ∧ n < N) (hN : N ≤ 16) (q : lkR b W s g 127 K) (xe : x = h.1 117 (0 + n).toNat) (xE : x.toInt = A) (ye : y = g.1 127 n.toNat) (yE : y.toInt = B) (a : r.toInt = 1 ∧ 0 < A ∧ A ≤ B ∨ r.toInt = 0 ∧ (A ≤ 0 ∨ B < A)) (rE : r.toInt = R) (f : R ≠ 0 ∧ z.toInt = 1 ∨ R = 0 ∧ z.toInt = 0) (zE : z.toInt = F) : F = if LW (fun i => h.1 117 i) (lkB b W s K.toNat) N n.toNat then 1 else 0 := by
  rw [show (0 + n).toNat = n.toNat by omega] at xe
  have e2 := q n.toNat (by omega)
  rw [← ye, yE] at e2
  have hW : LW (fun i => h.1 117 i) (lkB b W s K.toNat) N n.toNat = decide (((n.toNat : Nat) : Int) < N ∧ 0 < (h.1 117 n.toNat).toInt ∧ (h.1 117 n.toNat).toInt ≤ lkB b W s K.toNat n.toNat) := rfl
  rw [hW, ← xe, xE, ← e2]
  by_cases c : 0 < A ∧ A ≤ B
  · rw [decide_eq_true ⟨by omega, c⟩, if_pos rfl]; omega
  · rw [decide_eq_false (fun k => c k.2), if_neg (by decide)]; omega
