def MRN (h hx : Hp) (k f : Nat) (W : Int) (n : Nat) : Prop := RN (fun i => h.1 117 (48 + i)) (fun i => h.1 117 (0 + i)) (h.1 116 4) (h.1 116 5) W (fun j => h.1 130 (40 * k + j)) f (fun i => h.1 117 (80 + i)) (fun i => h.1 117 (64 + i)) n (fun i => hx.1 117 (80 + i)) (fun i => hx.1 117 (64 + i))
def MSF (h hx : Hp) (k f : Nat) (W : Int) (n : Nat) : Prop := SF1 (fun i => h.1 117 (48 + i)) (fun i => h.1 117 (0 + i)) (h.1 116 4) (h.1 116 5) W (h.1 130 (40 * k + (f + 3 * n))) (h.1 130 (40 * k + (f + 3 * n + 1))) (h.1 130 (40 * k + (f + 3 * n + 2))) (fun i => hx.1 117 (80 + i)) (fun i => hx.1 117 (64 + i))
def nC (h hx : Hp) : Prop := ∀ i : Nat, i < 64 ∨ 84 ≤ i → hx.1 117 i = h.1 117 i
def ah (h hx : Hp) (n : Int) : Prop := ∀ j : Nat, (j : Int) < n → hx.1 131 j = h.1 117 (64 + j)
def s7 (h hx : Hp) : Prop := ∀ i : Nat, hx.1 117 i = h.1 117 i
theorem ah_0 {h hx : Hp} : ah h hx 0 := fun j hj => by (first | decide +kernel | omega)
theorem s7_rf {h : Hp} : s7 h h := fun _ => rfl
theorem s7_put {h h1 h2 : Hp} {k i : Nat} {x : Int32} (r : s7 h h1) (e : h2 = pI h1 k i x) (hk : k ≠ 117) : s7 h h2 := fun j => by rw [e, pI_at, if_neg (by (first | decide +kernel | omega))]; exact r j
theorem ah_s {h h1 h2 : Hp} {n : Int} {y : Int32} (r : ah h h1 n) (s : s7 h h1) (hn : 0 ≤ n) (e : h2 = pI h1 131 n.toNat y) (ye : y = h1.1 117 (64 + n).toNat) : ah h h2 (n + 1) := fun j hj => by
  rw [e, pI_at]
  by_cases q : j = n.toNat
  · rw [if_pos ⟨rfl, q⟩, ye, s, show (64 + n).toNat = 64 + j by (first | decide +kernel | omega)]
  · rw [if_neg (by (first | decide +kernel | omega))]; exact r j (by (first | decide +kernel | omega))
theorem ah_fr {S : List (Nat × Option Nat)} {h h1 h2 : Hp} {n : Int} (f : fr S h1 h2) (c : ckS S 131 131 = true) (r : ah h h1 n) : ah h h2 n := fun j hj => by rw [f.1 _ _ (ckS_no c (by (first | decide +kernel | omega)) (by (first | decide +kernel | omega)))]; exact r j hj
theorem ah_put {h h1 h2 : Hp} {n : Int} {k i : Nat} {x : Int32} (r : ah h h1 n) (e : h2 = pI h1 k i x) (hk : k ≠ 131) : ah h h2 n := fun j hj => by rw [e, pI_at, if_neg (by (first | decide +kernel | omega))]; exact r j hj
theorem nC_of {h hx : Hp} (s : s7 h hx) : nC h hx := fun i _ => s i
theorem nC_put {h h1 h2 : Hp} {k i : Nat} {x : Int32} (r : nC h h1) (e : h2 = pI h1 k i x) (hk : k ≠ 117 ∨ 64 ≤ i ∧ i < 84) : nC h h2 := fun j hj => by rw [e, pI_at, if_neg (by (first | decide +kernel | omega))]; exact r j hj
theorem MRN_0 {h hx : Hp} {k f : Nat} {W : Int} (s : s7 h hx) : MRN h hx k f W 0 := ⟨fun i _ => (s _).symm, fun i _ => (s _).symm⟩
theorem whl_i {t s l f n i : Int} (h0 : 0 ≤ i ∧ i < n) (h1 : i = 0 ∨ t = l ∧ 0 ≤ f ∧ f + 3 * i ≤ s) (h2 : t ≠ l ∨ f + 3 * i < 0 ∨ s ≤ f + 3 * i + 2) : i = whl t s l f n := by
  unfold whl
  split
  · omega
  · split <;> omega
theorem whl_n {t s l f n : Int} (h0 : 0 ≤ n) (h1 : n = 0 ∨ t = l ∧ 0 ≤ f ∧ f + 3 * n ≤ s) : n = whl t s l f n := by
  unfold whl
  split
  · omega
  · split <;> omega
/-- one bore more, in the reference -/
theorem RN_m {h hx hy : Hp} {k f n : Nat} {W o c dd : Int} {y0 y1 y2 r : Int32} (hW : W ≤ 16) (rn : MRN h hx k f W n) (nc : nC h hx) (c4 : hx.1 116 4 = h.1 116 4) (c5 : hx.1 116 5 = h.1 116 5) (e0 : y0.toInt = o) (e1 : y1.toInt = c) (e2 : y2.toInt = dd) (be : BE hx hy 117 (80 + o).toNat 117 (64 + c).toNat (0 ≤ o ∧ o ≤ 3 ∧ 0 ≤ c ∧ c < W ∧ 1 ≤ dd ∧ dd ≤ 9) (hx.1 117 (48 + c).toNat) y0 (hx.1 117 (80 + o).toNat) (hx.1 117 (64 + c).toNat) (hx.1 117 (0 + c).toNat) (hx.1 116 4) (hx.1 116 5) y2 r) (s0 : y0 = h.1 130 (40 * k + (f + 3 * n))) (s1 : y1 = h.1 130 (40 * k + (f + 3 * n + 1))) (s2 : y2 = h.1 130 (40 * k + (f + 3 * n + 2))) : (r.toInt < 0 ∧ hy = hx ∧ MSF h hx k f W n ∨ 0 ≤ r.toInt ∧ MRN h hy k f W (n + 1)) ∧ nC h hy := by
  subst e0
  subst e1
  subst e2
  rw [c4, c5] at be
  unfold MSF
  rw [← s0, ← s1, ← s2]
  by_cases g : G9 W y0 y1 y2
  · have g' := g
    unfold G9 at g'
    rw [show (80 + y0.toInt).toNat = 80 + y0.toInt.toNat by (first | decide +kernel | omega), show (64 + y1.toInt).toNat = 64 + y1.toInt.toNat by (first | decide +kernel | omega), show (48 + y1.toInt).toNat = 48 + y1.toInt.toNat by (first | decide +kernel | omega), show (0 + y1.toInt).toNat = 0 + y1.toInt.toNat by (first | decide +kernel | omega)] at be
    have k9 := ST_of (h := hx) (h' := hy) (kp := 117) (kb := 117) (op := 80) (ob := 64) (l := fun i => h.1 117 (48 + i)) (w := fun i => h.1 117 (0 + i)) (W := W) (o := y0) (c := y1) (d := y2) (Or.inr (Or.inr (by decide))) hW be (fun _ => nc _ (by (first | decide +kernel | omega))) (fun _ => nc _ (by (first | decide +kernel | omega)))
    rcases k9 with ⟨k1, k2, k3⟩ | ⟨k1, k2⟩
    · exact ⟨Or.inl ⟨k1, k2, k3⟩, by rw [k2]; exact nc⟩
    · refine ⟨Or.inr ⟨k1, _, _, rn, ?_⟩, ?_⟩
      · show ST1 _ _ _ _ _ (h.1 130 (40 * k + (f + 3 * n))) (h.1 130 (40 * k + (f + 3 * n + 1))) (h.1 130 (40 * k + (f + 3 * n + 2))) _ _ _ _
        rw [← s0, ← s1, ← s2]
        exact k2
      · rcases be with ⟨b1, b2, b3⟩ | ⟨b1, x, b2, b3⟩
        · rw [b2]; exact nc
        · rcases b3 with ⟨_, b4, _⟩ | ⟨_, b4, _⟩
          · rw [b4]; exact nc
          · intro i hi
            rw [b4, pI_at, if_neg (by (first | decide +kernel | omega)), pI_at, if_neg (by (first | decide +kernel | omega))]
            exact nc i hi
  · rcases be with ⟨b1, b2, b3⟩ | ⟨b1, x, b2, b3⟩
    · exact ⟨Or.inl ⟨by (first | decide +kernel | omega), b2, Or.inl g⟩, by rw [b2]; exact nc⟩
    · exact absurd b1 g
/-- bores and purses come back -/
def rst (h hx : Hp) (n : Int) : Prop := ∀ j : Nat, (j : Int) < n → hx.1 117 (64 + j) = h.1 117 (64 + j)
theorem rst_0 {h hx : Hp} : rst h hx 0 := fun j hj => by (first | decide +kernel | omega)
theorem rst_s {h h1 h2 : Hp} {n : Int} {y : Int32} (r : rst h h1 n) (a : ah h h1 20) (hn : 0 ≤ n ∧ n < 20) (e : h2 = pI h1 117 (64 + n).toNat y) (ye : y = h1.1 131 n.toNat) : rst h h2 (n + 1) := fun j hj => by
  rw [e, pI_at]
  by_cases q : j = n.toNat
  · rw [if_pos ⟨rfl, by (first | decide +kernel | omega)⟩, ye, a _ (by (first | decide +kernel | omega)), q]
  · rw [if_neg (by (first | decide +kernel | omega))]; exact r j (by (first | decide +kernel | omega))
def RDm (h h' : Hp) (k : Nat) (l f n W : Int) (r : Int32) : Prop := (∃ m : Nat, (m : Int) = whl (h.1 128 k).toInt (h.1 129 k).toInt l f n ∧ RO (fun i => h.1 117 (48 + i)) (fun i => h.1 117 (0 + i)) (h.1 116 4) (h.1 116 5) W (fun j => h.1 130 (40 * k + j)) f.toNat m (fun i => h.1 117 (80 + i)) (fun i => h.1 117 (64 + i)) r (fun i => h'.1 117 (80 + i)) (fun i => h'.1 117 (64 + i))) ∧ nC h h'
theorem RDm_good {h hx hz : Hp} {k m i' : Nat} {l f nn W : Int} {r x : Int32} (hm : (m : Int) = whl (h.1 128 k).toInt (h.1 129 k).toInt l f nn) (er : r.toInt = (m : Int)) (rn : MRN h hx k f.toNat W m) (nc : nC h hx) (e : hz = pI hx 116 i' x) : RDm h hz k l f nn W r := by
  refine ⟨⟨m, hm, Or.inl ⟨er, ?_⟩⟩, nC_put nc e (Or.inl (by decide))⟩
  rw [e, pI_ne (by decide)]
  exact rn
theorem RDm_bad {h hx hz : Hp} {k m n : Nat} {l f nn W N : Int} {r : Int32} (hm : (m : Int) = whl (h.1 128 k).toInt (h.1 129 k).toInt l f nn) (hn : n < m) (er : r.toInt = -20 - (n : Int)) (rn : MRN h hx k f.toNat W n) (sf : MSF h hx k f.toNat W n) (nc : nC h hz) (rs : rst h hz N) (hN : 20 ≤ N) : RDm h hz k l f nn W r :=
  ⟨⟨m, hm, Or.inr ⟨⟨n, hn, er, _, _, rn, sf⟩, fun i hi => by show h.1 117 (80 + i) = hz.1 117 (80 + i); rw [show 80 + i = 64 + (16 + i) by (first | decide +kernel | omega)]; exact (rs _ (by (first | decide +kernel | omega))).symm, fun i hi => (rs i (by (first | decide +kernel | omega))).symm⟩⟩, nc⟩
/-- the two pass the same number of bores on -/
theorem whl_lt {t s l f n i : Int} (h0 : 0 ≤ i ∧ i < n) (h1 : t = l ∧ 0 ≤ f ∧ f + 3 * i + 2 < s) : i < whl t s l f n := by
  unfold whl
  rw [if_neg (by (first | decide +kernel | omega))]
  split <;> omega
theorem whl_st {t s l f n a b c : Int} (h : a = 0 ∧ b = c ∧ (c = 0 ∨ t = l ∧ 0 ≤ f ∧ f + 3 * c ≤ s) ∨ a ≠ 0 ∧ b = whl t s l f n) (h1 : n ≤ c ∧ c ≤ n) (h0 : 0 ≤ n) : b = whl t s l f n := by
  rcases h with ⟨_, q2, q3⟩ | q
  · have e : c = n := by (first | decide +kernel | omega)
    subst e
    rw [q2]
    exact whl_n h0 q3
  · exact q.2
