def whl (t s l f n : Int) : Int := if t ≠ l ∨ f < 0 ∨ s ≤ f then 0 else if n ≤ (s - f) / 3 then n else (s - f) / 3
def sp3 (h h' : Hp) : Prop := (∀ k i : Nat, cpl k i → h'.1 (17 + k) i = h.1 k i) ∧ ∀ k i : Nat, cpl k i → k ≠ 6 ∧ k ≠ 8 → h'.1 k i = h.1 k i
theorem sp3_of {S : List (Nat × Option Nat)} {h h1 : Hp} (c : cpy h h1 17 0) (f : fr S h h1) (ck : ckS S 0 16 = true) : sp3 h h1 := by
  refine ⟨fun k i hk => ?_, fun k i hk _ => f.1 _ _ (ckS_no ck (by (first | decide +kernel | omega)) (cpl_k hk))⟩
  have g := c k i hk
  rw [Nat.zero_add] at g
  exact g
theorem sp3_fr {S : List (Nat × Option Nat)} {h h1 h2 : Hp} (r : sp3 h h1) (f : fr S h1 h2) (ck : spS S = true) : sp3 h h2 := by
  refine ⟨fun k i hk => ?_, fun k i hk hn => ?_⟩
  · have := cpl_k hk
    rw [f.1 (17 + k) i (spS_no ck (by (first | decide +kernel | omega)))]
    exact r.1 k i hk
  · have := cpl_k hk
    rw [f.1 k i (spS_no ck (by (first | decide +kernel | omega)))]
    exact r.2 k i hk hn
theorem sp3_put {h h1 h2 : Hp} {k' i' : Nat} {x : Int32} (r : sp3 h h1) (e : h2 = pI h1 k' i' x) (ck : 33 < k') : sp3 h h2 := by
  refine ⟨fun k i hk => ?_, fun k i hk hn => ?_⟩
  · have := cpl_k hk
    rw [e, pI_at, if_neg (by (first | decide +kernel | omega))]
    exact r.1 k i hk
  · have := cpl_k hk
    rw [e, pI_at, if_neg (by (first | decide +kernel | omega))]
    exact r.2 k i hk hn
def cF (h h' : Hp) : Prop := ∀ k i : Nat, cpl k i → h'.1 k i = h.1 k i
theorem sp3_back {h h1 h2 : Hp} (r : sp3 h h1) (c : cpy h1 h2 0 17) : cF h h2 := fun k i hk => by
  have g := c k i hk
  rw [Nat.zero_add] at g
  rw [g]
  exact r.1 k i hk
/-- the class's read, behind what it refuses at once -/
def RDc (h h' : Hp) (k : Nat) (l f n W : Int) (r : Int32) : Prop := (∃ m : Nat, (m : Int) = whl (h.1 (108 + 2 * k) 1).toInt (h.1 (108 + 2 * k) 2).toInt l f n ∧ RO (h.1 5) (h.1 2) (h.1 1 2) (h.1 1 3) W (h.1 (109 + 2 * k)) f.toNat m (h.1 8) (h.1 6) r (h'.1 8) (h'.1 6)) ∧ ∀ k i : Nat, cpl k i → k ≠ 6 ∧ k ≠ 8 → h'.1 k i = h.1 k i
/-- one bore more, in the class -/
theorem RN_c {h hx hy : Hp} {row f n : Nat} {W o c dd : Int} {y0 y1 y2 r : Int32} (hW : W ≤ 16) (rn : RN (h.1 5) (h.1 2) (h.1 1 2) (h.1 1 3) W (h.1 row) f (h.1 8) (h.1 6) n (hx.1 8) (hx.1 6)) (sp : sp3 h hx) (e0 : y0.toInt = o) (e1 : y1.toInt = c) (e2 : y2.toInt = dd) (be : BE hx hy 8 o.toNat 6 c.toNat (0 ≤ o ∧ o ≤ 3 ∧ 0 ≤ c ∧ c < W ∧ 1 ≤ dd ∧ dd ≤ 9) (hx.1 5 c.toNat) y0 (hx.1 8 o.toNat) (hx.1 6 c.toNat) (hx.1 2 c.toNat) (hx.1 1 2) (hx.1 1 3) y2 r) (s0 : y0 = h.1 row (f + 3 * n)) (s1 : y1 = h.1 row (f + 3 * n + 1)) (s2 : y2 = h.1 row (f + 3 * n + 2)) : r.toInt < 0 ∧ hy = hx ∧ SF1 (h.1 5) (h.1 2) (h.1 1 2) (h.1 1 3) W (h.1 row (f + 3 * n)) (h.1 row (f + 3 * n + 1)) (h.1 row (f + 3 * n + 2)) (hx.1 8) (hx.1 6) ∨ 0 ≤ r.toInt ∧ RN (h.1 5) (h.1 2) (h.1 1 2) (h.1 1 3) W (h.1 row) f (h.1 8) (h.1 6) (n + 1) (hy.1 8) (hy.1 6) := by
  subst e0
  subst e1
  subst e2
  rw [sp.2 1 2 (by unfold cpl; omega) (by (first | decide +kernel | omega)), sp.2 1 3 (by unfold cpl; omega) (by (first | decide +kernel | omega))] at be
  have k := ST_of (h := hx) (h' := hy) (kp := 8) (kb := 6) (op := 0) (ob := 0) (l := h.1 5) (w := h.1 2) (W := W) (o := y0) (c := y1) (d := y2) (Or.inl (by decide)) hW (by rw [Nat.zero_add, Nat.zero_add]; exact be) (fun g => sp.2 5 _ (by unfold G9 at g; unfold cpl; omega) (by (first | decide +kernel | omega))) (fun g => sp.2 2 _ (by unfold G9 at g; unfold cpl; omega) (by (first | decide +kernel | omega)))
  have z8 : ∀ g : Hp, ag 4 (fun i => g.1 8 (0 + i)) (g.1 8) := fun g i _ => by show g.1 8 (0 + i) = g.1 8 i; rw [Nat.zero_add]
  have z6 : ∀ g : Hp, ag 16 (fun i => g.1 6 (0 + i)) (g.1 6) := fun g i _ => by show g.1 6 (0 + i) = g.1 6 i; rw [Nat.zero_add]
  rw [← s0, ← s1, ← s2]
  rcases k with ⟨k1, k2, k3⟩ | ⟨k1, k2⟩
  · exact Or.inl ⟨k1, k2, SF1_cg hW ag_rf ag_rf (z8 hx) (z6 hx) k3⟩
  · refine Or.inr ⟨k1, hx.1 8, hx.1 6, rn, ?_⟩
    rw [← s0, ← s1, ← s2]
    obtain ⟨g, x, a1, a2, a3, a4⟩ := ST1_cg hW ag_rf ag_rf (z8 hx) (z6 hx) k2
    exact ⟨g, x, a1, a2, fun i hi => (z8 hy i hi).symm.trans (a3 i hi), fun i hi => (z6 hy i hi).symm.trans (a4 i hi)⟩
theorem RN_0 {h hx : Hp} {row f : Nat} {W : Int} (sp : ∀ k i : Nat, k ≤ 16 → hx.1 k i = h.1 k i) : RN (h.1 5) (h.1 2) (h.1 1 2) (h.1 1 3) W (h.1 row) f (h.1 8) (h.1 6) 0 (hx.1 8) (hx.1 6) := ⟨fun i _ => (sp 8 i (by (first | decide +kernel | omega))).symm, fun i _ => (sp 6 i (by (first | decide +kernel | omega))).symm⟩
theorem RDc_bad {h hx hz : Hp} {k m n : Nat} {l f nn W : Int} {r : Int32} (hm : (m : Int) = whl (h.1 (108 + 2 * k) 1).toInt (h.1 (108 + 2 * k) 2).toInt l f nn) (hn : n < m) (er : r.toInt = -20 - (n : Int)) (rn : RN (h.1 5) (h.1 2) (h.1 1 2) (h.1 1 3) W (h.1 (109 + 2 * k)) f.toNat (h.1 8) (h.1 6) n (hx.1 8) (hx.1 6)) (sf : SF1 (h.1 5) (h.1 2) (h.1 1 2) (h.1 1 3) W (h.1 (109 + 2 * k) (f.toNat + 3 * n)) (h.1 (109 + 2 * k) (f.toNat + 3 * n + 1)) (h.1 (109 + 2 * k) (f.toNat + 3 * n + 2)) (hx.1 8) (hx.1 6)) (c : cF h hz) : RDc h hz k l f nn W r := by
  refine ⟨⟨m, hm, Or.inr ⟨⟨n, hn, er, _, _, rn, sf⟩, fun i hi => (c 8 i (by unfold cpl; omega)).symm, fun i hi => (c 6 i (by unfold cpl; omega)).symm⟩⟩, fun k i hk _ => c k i hk⟩
theorem RDc_good {h hx : Hp} {k m : Nat} {l f nn W : Int} {r : Int32} (hm : (m : Int) = whl (h.1 (108 + 2 * k) 1).toInt (h.1 (108 + 2 * k) 2).toInt l f nn) (er : r.toInt = (m : Int)) (rn : RN (h.1 5) (h.1 2) (h.1 1 2) (h.1 1 3) W (h.1 (109 + 2 * k)) f.toNat (h.1 8) (h.1 6) m (hx.1 8) (hx.1 6)) (sp : sp3 h hx) : RDc h hx k l f nn W r := ⟨⟨m, hm, Or.inl ⟨er, rn⟩⟩, sp.2⟩
