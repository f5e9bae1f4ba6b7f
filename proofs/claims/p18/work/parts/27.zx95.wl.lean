/-! wells of both as numbers; cell, purse -/
theorem WQ_fm {h : Hp} {n N R F : Int} {r z : Int32} (hn : 0 ≤ n ∧ n < N) (a : r.toInt = 1 ∧ bW (h.1 117 (0 + n).toNat) (h.1 117 (64 + n).toNat) ∨ r.toInt = 0 ∧ ¬ bW (h.1 117 (0 + n).toNat) (h.1 117 (64 + n).toNat)) (rE : r.toInt = R) (f : R ≠ 0 ∧ z.toInt = 1 ∨ R = 0 ∧ z.toInt = 0) (zE : z.toInt = F) : F = if WQ (fun i => h.1 117 i) (fun i => h.1 117 (64 + i)) N n.toNat then 1 else 0 := by
  rw [show (0 + n).toNat = n.toNat by omega, show (64 + n).toNat = 64 + n.toNat by omega] at a
  have hW : WQ (fun i => h.1 117 i) (fun i => h.1 117 (64 + i)) N n.toNat = decide (((n.toNat : Nat) : Int) < N ∧ 0 < (h.1 117 n.toNat).toInt ∧ (h.1 117 n.toNat).toInt ≤ (h.1 117 (64 + n.toNat)).toInt) := rfl
  rcases a with ⟨a1, a2⟩ | ⟨a1, a2⟩
  · rw [hW, decide_eq_true ⟨by omega, a2⟩, if_pos rfl]; omega
  · rw [hW, decide_eq_false (fun k => a2 k.2), if_neg (by decide)]; omega
theorem WQ_fb {w b : Nat → Int32} {n N R F : Int} {r z : Int32} (hn : 0 ≤ n ∧ n < N) (a : r.toInt = 1 ∧ 0 < (w n.toNat).toInt ∧ (w n.toNat).toInt ≤ (b n.toNat).toInt ∨ r.toInt = 0 ∧ ((w n.toNat).toInt ≤ 0 ∨ (b n.toNat).toInt < (w n.toNat).toInt)) (rE : r.toInt = R) (f : R ≠ 0 ∧ z.toInt = 1 ∨ R = 0 ∧ z.toInt = 0) (zE : z.toInt = F) : F = if WQ w b N n.toNat then 1 else 0 := by
  unfold WQ
  rcases a with ⟨a1, a2⟩ | ⟨a1, a2⟩
  · rw [decide_eq_true ⟨by omega, a2⟩, if_pos rfl]; omega
  · rw [decide_eq_false (fun k => by omega), if_neg (by decide)]; omega
def CL (G : Prop) (a : Int) (f : Nat → Int32) (r : Int32) : Prop := ¬ (G ∧ 0 ≤ a ∧ a ≤ 5) ∧ r.toInt = -1 ∨ (G ∧ 0 ≤ a ∧ a ≤ 4) ∧ r = f a.toNat ∨ (G ∧ a = 5) ∧ (bW (f 0) (f 4) ∧ r.toInt = 1 ∨ ¬ bW (f 0) (f 4) ∧ r.toInt = 0)
theorem CL_un {G : Prop} {a : Int} {f g : Nat → Int32} {r s : Int32} (p : CL G a f r) (q : CL G a g s) (e : G → ∀ j : Nat, j ≤ 4 → f j = g j) : r = s := by
  rcases p with ⟨p1, p2⟩ | ⟨p1, p2⟩ | ⟨p1, p2⟩
  · rcases q with ⟨q1, q2⟩ | ⟨q1, q2⟩ | ⟨q1, q2⟩
    · exact same_of p2 q2
    · exact absurd ⟨q1.1, by omega, by omega⟩ p1
    · exact absurd ⟨q1.1, by omega, by omega⟩ p1
  · rcases q with ⟨q1, q2⟩ | ⟨q1, q2⟩ | ⟨q1, q2⟩
    · exact absurd ⟨p1.1, by omega, by omega⟩ q1
    · rw [p2, q2]; exact e p1.1 _ (by omega)
    · omega
  · rcases q with ⟨q1, q2⟩ | ⟨q1, q2⟩ | ⟨q1, q2⟩
    · exact absurd ⟨p1.1, by omega, by omega⟩ q1
    · omega
    · rw [← e p1.1 0 (by omega), ← e p1.1 4 (by omega)] at q2
      rcases p2 with ⟨x1, x2⟩ | ⟨x1, x2⟩ <;> rcases q2 with ⟨y1, y2⟩ | ⟨y1, y2⟩
      · exact same_of x2 y2
      · exact absurd x1 y1
      · exact absurd y1 x1
      · exact same_of x2 y2
theorem bc_sw {w b r z : Int32} {R : Int} (a : r.toInt = 1 ∧ bW w b ∨ r.toInt = 0 ∧ ¬ bW w b) (rE : r.toInt = R) (f : R ≠ 0 ∧ z.toInt = 1 ∨ R = 0 ∧ z.toInt = 0) : bW w b ∧ z.toInt = 1 ∨ ¬ bW w b ∧ z.toInt = 0 := by
  rcases a with ⟨a1, a2⟩ | ⟨a1, a2⟩
  · exact Or.inl ⟨a2, by omega⟩
  · exact Or.inr ⟨a2, by omega⟩
/-! CELLS that were BORED -/
def BQ (b : Nat → Int32) (d n : Int) (j : Nat) : Bool := decide ((j : Int) < n ∧ d ≤ (b j).toInt)
theorem BQ_0 {b : Nat → Int32} {d : Int} : BS 0 (BQ b d 0) := BS_cg BS_0 (fun j => (decide_eq_false (by omega)).symm)
theorem BQ_1 {b : Nat → Int32} {x c s y z : Int32} {d n Y : Int} (r : BS x (BQ b d n)) (cE : c.toInt = n) (hn : 0 ≤ n ∧ n < 32) (ye : z = b n.toNat) (yE : z.toInt = Y) (g : d ≤ Y) (e1 : s = 1 <<< (c &&& 31)) (e2 : y = x ||| s) : BS y (BQ b d (n + 1)) := by
  rw [e2, e1]
  refine BS_cg (BS_or r (BS_one cE hn)) (fun j => ?_)
  unfold BQ
  by_cases q : j = n.toNat
  · subst q
    rw [decide_eq_true rfl, Bool.or_true, decide_eq_true ⟨by omega, by rw [← ye, yE]; exact g⟩]
  · rw [decide_eq_false q, Bool.or_false]
    exact decide_eq_decide.mpr ⟨fun k => ⟨by omega, k.2⟩, fun k => ⟨by omega, k.2⟩⟩
theorem BQ_n {b : Nat → Int32} {x z : Int32} {d n Y : Int} (r : BS x (BQ b d n)) (hn : 0 ≤ n) (ye : z = b n.toNat) (yE : z.toInt = Y) (g : Y < d) : BS x (BQ b d (n + 1)) := by
  refine BS_cg r (fun j => ?_)
  unfold BQ
  refine decide_eq_decide.mpr ⟨fun k => ⟨by omega, k.2⟩, fun k => ⟨?_, k.2⟩⟩
  by_cases q : j = n.toNat
  · subst q
    have := k.2
    rw [← ye, yE] at this
    omega
  · omega
theorem BQ_ct {b : Nat → Int32} {d n : Int} (hn : 0 ≤ n ∧ n ≤ 32) : ct (BQ b d n) 32 = ct (BQ b d n) n.toNat := by
  have := ct_up (p := BQ b d n) (m := n.toNat) (32 - n.toNat) (fun i a _ => decide_eq_false (by omega))
  rw [show n.toNat + (32 - n.toNat) = 32 by omega] at this
  exact this
theorem BQ_cg {b b2 : Nat → Int32} {d n : Int} (hb : ∀ i : Nat, (i : Int) < n → b i = b2 i) (j : Nat) : BQ b d n j = BQ b2 d n j := by
  unfold BQ
  by_cases q : (j : Int) < n
  · rw [hb j q]
  · exact decide_eq_decide.mpr ⟨fun k => absurd k.1 q, fun k => absurd k.1 q⟩
theorem BQ_fm {h : Hp} {n N Y R F : Int} {y z : Int32} (hn : 0 ≤ n ∧ n < N) (ye : y = h.1 117 (64 + n).toNat) (yE : y.toInt = Y) (a : R = 1 ∧ 0 < Y ∨ R = 0 ∧ Y ≤ 0) (f : R ≠ 0 ∧ z.toInt = 1 ∨ R = 0 ∧ z.toInt = 0) (zE : z.toInt = F) : F = if BQ (fun i => h.1 117 (64 + i)) 1 N n.toNat then 1 else 0 := by
  rw [show (64 + n).toNat = 64 + n.toNat by omega] at ye
  have hW : BQ (fun i => h.1 117 (64 + i)) 1 N n.toNat = decide (((n.toNat : Nat) : Int) < N ∧ 1 ≤ (h.1 117 (64 + n.toNat)).toInt) := rfl
  rw [hW, ← ye, yE]
  by_cases q : 1 ≤ Y
  · rw [decide_eq_true ⟨by omega, q⟩, if_pos rfl]; omega
  · rw [decide_eq_false (fun k => q k.2), if_neg (by decide)]; omega
/-! all PURSES -/
def sm (p : Nat → Int32) : Nat → Int32
  | 0 => 0
  | n + 1 => sm p n + p n
theorem sm_s {p : Nat → Int32} {n : Int} {a y z : Int32} (hn : 0 ≤ n) (h : a = sm p n.toNat) (ye : y = p n.toNat) (e : z = a + y) : z = sm p (n + 1).toNat := by
  rw [show (n + 1).toNat = n.toNat + 1 by omega]
  show z = sm p n.toNat + p n.toNat
  rw [e, h, ye]
theorem sm_cg {p q : Nat → Int32} : ∀ n : Nat, (∀ i : Nat, i < n → p i = q i) → sm p n = sm q n := by
  intro n
  induction n with
  | zero => intro _; rfl
  | succ n ih => intro h; show sm p n + p n = sm q n + q n; rw [ih (fun i hi => h i (by omega)), h n (by omega)]
