theorem WQ_fm {h : Hp} {n N R F : Int} {r z : Int32} (hn : 0 ≤ n ∧ n < N) (a : r.toInt = 1 ∧ bW (h.1 117 (0 + n).toNat) (h.1 117 (64 + n).toNat) ∨ r.toInt = 0 ∧ ¬ bW (h.1 117 (0 + n).toNat) (h.1 117 (64 + n).toNat)) (rE : r.toInt = R) (f : R ≠ 0 ∧ z.toInt = 1 ∨ R = 0 ∧ z.toInt = 0) (zE : z.toInt = F) : F = if WQ (fun i => h.1 117 i) (fun i => h.1 117 (64 + i)) N n.toNat then 1 else 0 := by
  rw [show (0 + n).toNat = n.toNat by (first | decide +kernel | omega), show (64 + n).toNat = 64 + n.toNat by (first | decide +kernel | omega)] at a
  have hW : WQ (fun i => h.1 117 i) (fun i => h.1 117 (64 + i)) N n.toNat = decide (((n.toNat : Nat) : Int) < N ∧ 0 < (h.1 117 n.toNat).toInt ∧ (h.1 117 n.toNat).toInt ≤ (h.1 117 (64 + n.toNat)).toInt) := rfl
  rcases a with ⟨a1, a2⟩ | ⟨a1, a2⟩
  · rw [hW, decide_eq_true ⟨by (first | decide +kernel | omega), a2⟩, if_pos rfl]; omega
  · rw [hW, decide_eq_false (fun k => a2 k.2), if_neg (by decide)]; omega
def CL (G : Prop) (a : Int) (f : Nat → Int32) (r : Int32) : Prop := ¬ (G ∧ 0 ≤ a ∧ a ≤ 5) ∧ r.toInt = -1 ∨ (G ∧ 0 ≤ a ∧ a ≤ 4) ∧ r = f a.toNat ∨ (G ∧ a = 5) ∧ (bW (f 0) (f 4) ∧ r.toInt = 1 ∨ ¬ bW (f 0) (f 4) ∧ r.toInt = 0)
theorem bc_sw {w b r z : Int32} {R : Int} (a : r.toInt = 1 ∧ bW w b ∨ r.toInt = 0 ∧ ¬ bW w b) (rE : r.toInt = R) (f : R ≠ 0 ∧ z.toInt = 1 ∨ R = 0 ∧ z.toInt = 0) : bW w b ∧ z.toInt = 1 ∨ ¬ bW w b ∧ z.toInt = 0 := by
  rcases a with ⟨a1, a2⟩ | ⟨a1, a2⟩
  · exact Or.inl ⟨a2, by (first | decide +kernel | omega)⟩
  · exact Or.inr ⟨a2, by (first | decide +kernel | omega)⟩
def BQ (b : Nat → Int32) (d n : Int) (j : Nat) : Bool := decide ((j : Int) < n ∧ d ≤ (b j).toInt)
theorem BQ_0 {b : Nat → Int32} {d : Int} : BS 0 (BQ b d 0) := BS_cg BS_0 (fun j => (decide_eq_false (by (first | decide +kernel | omega))).symm)
theorem BQ_1 {b : Nat → Int32} {x c s y z : Int32} {d n Y : Int} (r : BS x (BQ b d n)) (cE : c.toInt = n) (hn : 0 ≤ n ∧ n < 32) (ye : z = b n.toNat) (yE : z.toInt = Y) (g : d ≤ Y) (e1 : s = 1 <<< (c &&& 31)) (e2 : y = x ||| s) : BS y (BQ b d (n + 1)) := by
  rw [e2, e1]
  refine BS_cg (BS_or r (BS_one cE hn)) (fun j => ?_)
  unfold BQ
  by_cases q : j = n.toNat
  · subst q
    rw [decide_eq_true rfl, Bool.or_true, decide_eq_true ⟨by (first | decide +kernel | omega), by rw [← ye, yE]; exact g⟩]
  · rw [decide_eq_false q, Bool.or_false]
    exact decide_eq_decide.mpr ⟨fun k => ⟨by (first | decide +kernel | omega), k.2⟩, fun k => ⟨by (first | decide +kernel | omega), k.2⟩⟩
theorem BQ_n {b : Nat → Int32} {x z : Int32} {d n Y : Int} (r : BS x (BQ b d n)) (hn : 0 ≤ n) (ye : z = b n.toNat) (yE : z.toInt = Y) (g : Y < d) : BS x (BQ b d (n + 1)) := by
  refine BS_cg r (fun j => ?_)
  unfold BQ
  refine decide_eq_decide.mpr ⟨fun k => ⟨by (first | decide +kernel | omega), k.2⟩, fun k => ⟨?_, k.2⟩⟩
  by_cases q : j = n.toNat
  · subst q
    have := k.2
    rw [← ye, yE] at this
    omega
  · omega
theorem BQ_fm {h : Hp} {n N Y R F : Int} {y z : Int32} (hn : 0 ≤ n ∧ n < N) (ye : y = h.1 117 (64 + n).toNat) (yE : y.toInt = Y) (a : R = 1 ∧ 0 < Y ∨ R = 0 ∧ Y ≤ 0) (f : R ≠ 0 ∧ z.toInt = 1 ∨ R = 0 ∧ z.toInt = 0) (zE : z.toInt = F) : F = if BQ (fun i => h.1 117 (64 + i)) 1 N n.toNat then 1 else 0 := by
  rw [show (64 + n).toNat = 64 + n.toNat by (first | decide +kernel | omega)] at ye
  have hW : BQ (fun i => h.1 117 (64 + i)) 1 N n.toNat = decide (((n.toNat : Nat) : Int) < N ∧ 1 ≤ (h.1 117 (64 + n.toNat)).toInt) := rfl
  rw [hW, ← ye, yE]
  by_cases q : 1 ≤ Y
  · rw [decide_eq_true ⟨by (first | decide +kernel | omega), q⟩, if_pos rfl]; omega
  · rw [decide_eq_false (fun k => q k.2), if_neg (by decide)]; omega
def sm (p : Nat → Int32) : Nat → Int32
  | 0 => 0
  | n + 1 => sm p n + p n
theorem sm_s {p : Nat → Int32} {n : Int} {a y z : Int32} (hn : 0 ≤ n) (h : a = sm p n.toNat) (ye : y = p n.toNat) (e : z = a + y) : z = sm p (n + 1).toNat := by
  rw [show (n + 1).toNat = n.toNat + 1 by (first | decide +kernel | omega)]
  show z = sm p n.toNat + p n.toNat
  rw [e, h, ye]
