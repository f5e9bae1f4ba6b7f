/-! the WALK that SHOWS most, as numbers -/
def bsd (W G c : Int) (y : Nat) : Int := if y = 0 then (if W ≤ c then c - W else -1) else if y = 1 then (if 0 < c % W then c - 1 else -1) else if y = 2 then (if c % W < W - 1 then c + 1 else -1) else (if c + W < W * G then c + W else -1)
def bsdOk (w g : Nat) : Bool := (List.range (w * g)).all (fun c => (List.range 4).all (fun y => decide (bsd (w : Int) (g : Int) (c : Int) y = -1) || (decide (0 ≤ bsd (w : Int) (g : Int) (c : Int) y) && decide (bsd (w : Int) (g : Int) (c : Int) y < ((w * g : Nat) : Int)))) && (decide (0 ≤ bsd (w : Int) (g : Int) (c : Int) 0) || decide (0 ≤ bsd (w : Int) (g : Int) (c : Int) 3)))
theorem bsd_all : ∀ w, w < 5 → 2 ≤ w → ∀ g, g < 5 → 2 ≤ g → bsdOk w g = true := by decide +kernel
theorem bsd_b {W G c : Int} (hW : 2 ≤ W ∧ W ≤ 4) (hG : 2 ≤ G ∧ G ≤ 4) (hc : 0 ≤ c ∧ c < W * G) : (∀ y : Nat, y < 4 → bsd W G c y = -1 ∨ 0 ≤ bsd W G c y ∧ bsd W G c y < W * G) ∧ (0 ≤ bsd W G c 0 ∨ 0 ≤ bsd W G c 3) := by
  have e : ((W.toNat * G.toNat : Nat) : Int) = W * G := by rw [Int.natCast_mul, show ((W.toNat : Nat) : Int) = W by omega, show ((G.toNat : Nat) : Int) = G by omega]
  have h0 := bsd_all W.toNat (by omega) (by omega) G.toNat (by omega) (by omega)
  have h1 := List.all_eq_true.mp h0 c.toNat (List.mem_range.mpr (by omega))
  rw [Bool.and_eq_true] at h1
  have w1 : ((W.toNat : Nat) : Int) = W := by omega
  have w2 : ((G.toNat : Nat) : Int) = G := by omega
  have w3 : ((c.toNat : Nat) : Int) = c := by omega
  refine ⟨fun y hy => ?_, ?_⟩
  · have h2 := List.all_eq_true.mp h1.1 y (List.mem_range.mpr hy)
    rw [w1, w2, w3, e, Bool.or_eq_true, Bool.and_eq_true] at h2
    rcases h2 with h2 | ⟨h2, h3⟩
    · exact Or.inl (of_decide_eq_true h2)
    · exact Or.inr ⟨of_decide_eq_true h2, of_decide_eq_true h3⟩
  · have h2 := h1.2
    rw [w1, w2, w3, Bool.or_eq_true] at h2
    rcases h2 with h2 | h2
    · exact Or.inl (of_decide_eq_true h2)
    · exact Or.inr (of_decide_eq_true h2)
def bbN (f : Nat → Int) (W G c : Int) : Nat → Int
  | 0 => -1
  | y + 1 => if 0 ≤ bsd W G c y ∧ (bbN f W G c y < 0 ∨ f (bbN f W G c y).toNat < f (bsd W G c y).toNat) then bsd W G c y else bbN f W G c y
theorem bbN_s (f : Nat → Int) (W G c : Int) (y : Nat) : bbN f W G c (y + 1) = if 0 ≤ bsd W G c y ∧ (bbN f W G c y < 0 ∨ f (bbN f W G c y).toNat < f (bsd W G c y).toNat) then bsd W G c y else bbN f W G c y := rfl
theorem bbN_b {f : Nat → Int} {W G c : Int} (hW : 2 ≤ W ∧ W ≤ 4) (hG : 2 ≤ G ∧ G ≤ 4) (hc : 0 ≤ c ∧ c < W * G) : ∀ y : Nat, y ≤ 4 → bbN f W G c y = -1 ∨ 0 ≤ bbN f W G c y ∧ bbN f W G c y < W * G := by
  intro y
  induction y with
  | zero => intro _; exact Or.inl rfl
  | succ y ih =>
    intro hy
    have h1 := (bsd_b hW hG hc).1 y (by omega)
    have h2 := ih (by omega)
    rw [bbN_s]
    split
    · next q => omega
    · exact h2
theorem bbN_y {f : Nat → Int} {W G c : Int} {y : Nat} (h : 0 ≤ bsd W G c y) : 0 ≤ bbN f W G c (y + 1) := by
  rw [bbN_s]
  split
  · exact h
  · next q =>
    by_cases z : bbN f W G c y < 0
    · exact absurd ⟨h, Or.inl z⟩ q
    · omega
theorem bbN_up {f : Nat → Int} {W G c : Int} {y : Nat} (h : 0 ≤ bbN f W G c y) : 0 ≤ bbN f W G c (y + 1) := by
  rw [bbN_s]
  split
  · next q => exact q.1
  · exact h
theorem bbN_4 {f : Nat → Int} {W G c : Int} (hW : 2 ≤ W ∧ W ≤ 4) (hG : 2 ≤ G ∧ G ≤ 4) (hc : 0 ≤ c ∧ c < W * G) : 0 ≤ bbN f W G c 4 ∧ bbN f W G c 4 < W * G := by
  have h1 := bbN_b (f := f) hW hG hc 4 (by omega)
  have h2 : 0 ≤ bbN f W G c 4 := by
    rcases (bsd_b hW hG hc).2 with q | q
    · exact bbN_up (bbN_up (bbN_up (bbN_y q)))
    · exact bbN_y q
  omega
theorem bbN_cg {f g : Nat → Int} {W G c : Int} (hW : 2 ≤ W ∧ W ≤ 4) (hG : 2 ≤ G ∧ G ≤ 4) (hc : 0 ≤ c ∧ c < W * G) (e : ∀ i : Nat, (i : Int) < W * G → f i = g i) : ∀ y : Nat, y ≤ 4 → bbN f W G c y = bbN g W G c y := by
  intro y
  induction y with
  | zero => intro _; rfl
  | succ y ih =>
    intro hy
    have h1 := (bsd_b hW hG hc).1 y (by omega)
    have h2 := bbN_b (f := f) hW hG hc y (by omega)
    have h3 := ih (by omega)
    show (if 0 ≤ bsd W G c y ∧ (bbN f W G c y < 0 ∨ f (bbN f W G c y).toNat < f (bsd W G c y).toNat) then bsd W G c y else bbN f W G c y) = (if 0 ≤ bsd W G c y ∧ (bbN g W G c y < 0 ∨ g (bbN g W G c y).toNat < g (bsd W G c y).toNat) then bsd W G c y else bbN g W G c y)
    rw [← h3]
    by_cases q : 0 ≤ bsd W G c y ∧ 0 ≤ bbN f W G c y
    · rw [e (bbN f W G c y).toNat (by omega), e (bsd W G c y).toNat (by omega)]
    · by_cases w : 0 ≤ bsd W G c y ∧ bbN f W G c y < 0
      · rw [if_pos ⟨w.1, Or.inl w.2⟩, if_pos ⟨w.1, Or.inl w.2⟩]
      · rw [if_neg (by omega), if_neg (by omega)]
/-- one way more: the class's step, the reference's -/
theorem bb_y {f : Nat → Int} {W G c K L Y Z : Int} {n : Int} (hn : 0 ≤ n) (hk : K = bsd W G c n.toNat) (hl : L = bbN f W G c n.toNat) (h0 : 0 ≤ K) (h1 : L < 0 ∨ Y = f L.toNat ∧ Z = f K.toNat ∧ Y < Z) : K = bbN f W G c (n + 1).toNat := by
  rw [show (n + 1).toNat = n.toNat + 1 by omega]
  show K = (if 0 ≤ bsd W G c n.toNat ∧ (bbN f W G c n.toNat < 0 ∨ f (bbN f W G c n.toNat).toNat < f (bsd W G c n.toNat).toNat) then bsd W G c n.toNat else bbN f W G c n.toNat)
  rw [← hk, ← hl]
  have h2 : L < 0 ∨ f L.toNat < f K.toNat := by
    rcases h1 with h1 | ⟨a, b, d⟩
    · exact Or.inl h1
    · exact Or.inr (by rw [← a, ← b]; exact d)
  rw [if_pos ⟨h0, h2⟩]
theorem bb_n {f : Nat → Int} {W G c K L Y Z : Int} {n : Int} (hn : 0 ≤ n) (hk : K = bsd W G c n.toNat) (hl : L = bbN f W G c n.toNat) (h1 : K < 0 ∨ 0 ≤ L ∧ Y = f L.toNat ∧ Z = f K.toNat ∧ Z ≤ Y) : L = bbN f W G c (n + 1).toNat := by
  rw [show (n + 1).toNat = n.toNat + 1 by omega]
  show L = (if 0 ≤ bsd W G c n.toNat ∧ (bbN f W G c n.toNat < 0 ∨ f (bbN f W G c n.toNat).toNat < f (bsd W G c n.toNat).toNat) then bsd W G c n.toNat else bbN f W G c n.toNat)
  rw [← hk, ← hl]
  have h2 : ¬ (0 ≤ K ∧ (L < 0 ∨ f L.toNat < f K.toNat)) := by
    rcases h1 with h1 | ⟨z, a, b, d⟩
    · omega
    · rw [← a, ← b]; omega
  rw [if_neg h2]
theorem emod_p {c w : Int} (hc : 0 ≤ c) (h : 0 < c % w) : 1 ≤ c := by
  by_cases z : c = 0
  · rw [z, Int.zero_emod] at h; omega
  · omega
def mb (x : Int) : Int := if x < 0 then -4 else x
theorem mb_s (x : Int) : x < 0 ∧ mb x = -4 ∨ 0 ≤ x ∧ mb x = x := by
  unfold mb
  split <;> omega
/-- what one STEP SHOWS -/
noncomputable def svv (P : Prop) (w : Int) : Int := 2 * (@ite Int P (Classical.propDecidable P) 1 0) - (if 0 < w then 1 else 0)
theorem svv_t {P : Prop} {w : Int} (h : P) : svv P w = 2 - (if 0 < w then 1 else 0) := by unfold svv; rw [if_pos h]; rfl
theorem svv_f {P : Prop} {w : Int} (h : ¬ P) : svv P w = 0 - (if 0 < w then 1 else 0) := by unfold svv; rw [if_neg h]; rfl
theorem svv_b (P : Prop) (w : Int) : -1 ≤ svv P w ∧ svv P w ≤ 2 := by
  by_cases h : P
  · rw [svv_t h]; split <;> omega
  · rw [svv_f h]; split <;> omega
theorem svv_of {P : Prop} {r : Int32} {w x R : Int} (t : twR r P) (rE : r.toInt = R) (h : x = 2 * R - 1 ∧ 0 < w ∨ x = 2 * R ∧ w ≤ 0) : x = svv P w := by
  rcases t with ⟨a, b⟩ | ⟨a, b⟩
  · rw [svv_t b]; split <;> omega
  · rw [svv_f b]; split <;> omega
theorem svv_cg {P Q : Prop} {w : Int} (e : P ↔ Q) : svv P w = svv Q w := by
  by_cases h : P
  · rw [svv_t h, svv_t (e.mp h)]
  · rw [svv_f h, svv_f (fun q => h (e.mpr q))]
noncomputable def svC (h : Hp) (n m o : Int) (c : Nat) (s : Int) : Int := svv (twC h n m c o s) (h.1 2 c).toInt
noncomputable def svM (h : Hp) (n m o : Int) (c : Nat) (s : Int) : Int := svv (twM h n m c o s) (h.1 117 c).toInt
theorem sv_same {h : Hp} (ra : JA h) (rb : JB h) {c : Nat} (hc : c < 16) {n m o s : Int} : svC h n m o c s = svM h n m o c s := by
  unfold svC svM
  rw [svv_cg (tw_same ra rb hc), (JB_w rb hc).1]
theorem svC_fr {S : List (Nat × Option Nat)} {h h' : Hp} (f : fr S h h') (ck : ckS S 0 16 = true) {n m o s : Int} {c : Nat} : svC h' n m o c s = svC h n m o c s := by
  unfold svC twC
  rw [f.1 2 c (ckS_no ck (by omega) (by omega)), f.1 3 c (ckS_no ck (by omega) (by omega)), f.1 5 c (ckS_no ck (by omega) (by omega))]
theorem svM_fr {S : List (Nat × Option Nat)} {h h' : Hp} (f : fr S h h') (ck : ckS S 117 117 = true) {n m o s : Int} {c : Nat} : svM h' n m o c s = svM h n m o c s := by
  unfold svM twM
  rw [f.1 117 c (ckS_no ck (by omega) (by omega)), f.1 117 (16 + c) (ckS_no ck (by omega) (by omega)), f.1 117 (48 + c) (ckS_no ck (by omega) (by omega))]
/-- the most that is SHOWN with so many STEPS behind -/
def vv9 (sv : Nat → Int → Int) (W G n : Int) : Nat → Nat → Int
  | 0, c => sv c n
  | k + 1, c => sv c (n - ((k : Int) + 1)) + vv9 sv W G n k (bbN (vv9 sv W G n k) W G (c : Int) 4).toNat
theorem vv9_b {sv : Nat → Int → Int} {W G n : Int} (hs : ∀ (c : Nat) (s : Int), -1 ≤ sv c s ∧ sv c s ≤ 2) : ∀ (k c : Nat), -((k : Int) + 1) ≤ vv9 sv W G n k c ∧ vv9 sv W G n k c ≤ 2 * ((k : Int) + 1) := by
  intro k
  induction k with
  | zero => intro c; have := hs c n; show _ ≤ sv c n ∧ sv c n ≤ _; omega
  | succ k ih =>
    intro c
    have h1 := hs c (n - ((k : Int) + 1))
    have h2 := ih (bbN (vv9 sv W G n k) W G (c : Int) 4).toNat
    show _ ≤ sv c (n - ((k : Int) + 1)) + vv9 sv W G n k (bbN (vv9 sv W G n k) W G (c : Int) 4).toNat ∧ sv c (n - ((k : Int) + 1)) + vv9 sv W G n k (bbN (vv9 sv W G n k) W G (c : Int) 4).toNat ≤ _
    omega
theorem vv9_cg {sv sw : Nat → Int → Int} {W G n : Int} (hW : 2 ≤ W ∧ W ≤ 4) (hG : 2 ≤ G ∧ G ≤ 4) (e : ∀ (c : Nat) (s : Int), (c : Int) < W * G → sv c s = sw c s) : ∀ (k c : Nat), (c : Int) < W * G → vv9 sv W G n k c = vv9 sw W G n k c := by
  intro k
  induction k with
  | zero => intro c hc; exact e c n hc
  | succ k ih =>
    intro c hc
    have b := bbN_4 (f := vv9 sv W G n k) (W := W) (G := G) (c := (c : Int)) hW hG (by omega)
    show sv c (n - ((k : Int) + 1)) + vv9 sv W G n k (bbN (vv9 sv W G n k) W G (c : Int) 4).toNat = sw c (n - ((k : Int) + 1)) + vv9 sw W G n k (bbN (vv9 sw W G n k) W G (c : Int) 4).toNat
    rw [e c _ hc, ← bbN_cg hW hG (by omega) ih 4 (by omega), ih _ (by omega)]
/-- a row holds that -/
def VR (v : Nat → Nat → Int) (W : Int) (g : Hp) (p o : Nat) (k : Nat) (m : Int) : Prop := ∀ c : Nat, (c : Int) < m → (c : Int) < W → (g.1 p (o + c)).toInt = v k c
theorem VR_0 {v : Nat → Nat → Int} {W : Int} {g : Hp} {p o k : Nat} : VR v W g p o k 0 := fun c hc _ => by omega
theorem VR_s {v : Nat → Nat → Int} {W m X : Int} {g g2 : Hp} {p o k i : Nat} {x : Int32} (r : VR v W g p o k m) (hm : 0 ≤ m) (e : g2 = pI g p i x) (hi : i = o + m.toNat) (xE : x.toInt = X) (hx : X = v k m.toNat) : VR v W g2 p o k (m + 1) := fun c hc hw => by
  rw [e, pI_at]
  by_cases q : c = m.toNat
  · rw [if_pos ⟨rfl, by omega⟩, xE, hx, q]
  · rw [if_neg (by omega)]; exact r c (by omega) hw
theorem VR_ne {v : Nat → Nat → Int} {W m : Int} {g g2 : Hp} {p o k p2 i : Nat} {x : Int32} (r : VR v W g p o k m) (e : g2 = pI g p2 i x) (hp : p ≠ p2 ∨ i < o ∨ o + 16 ≤ i) (hW : W ≤ 16) : VR v W g2 p o k m := fun c hc hw => by
  rw [e, pI_at, if_neg (by omega)]
  exact r c hc hw
theorem vv9_s {sv : Nat → Int → Int} {W G n L : Int} {c : Int} (hc : 0 ≤ c) (hn : L < n - 1) (h0 : 0 ≤ L) : vv9 sv W G n (n - 1 - L).toNat c.toNat = sv c.toNat (L + 1) + vv9 sv W G n (n - 1 - (L + 1)).toNat (bbN (vv9 sv W G n (n - 1 - (L + 1)).toNat) W G c 4).toNat := by
  rw [show (n - 1 - L).toNat = (n - 1 - (L + 1)).toNat + 1 by omega]
  show sv c.toNat (n - (((n - 1 - (L + 1)).toNat : Int) + 1)) + vv9 sv W G n (n - 1 - (L + 1)).toNat (bbN (vv9 sv W G n (n - 1 - (L + 1)).toNat) W G ((c.toNat : Nat) : Int) 4).toNat = _
  rw [show n - (((n - 1 - (L + 1)).toNat : Int) + 1) = L + 1 by omega, show ((c.toNat : Nat) : Int) = c by omega]
theorem vv9_n {sv : Nat → Int → Int} {W G n L : Int} {c : Nat} (hn : L = n - 1) : vv9 sv W G n (n - 1 - L).toNat c = sv c (L + 1) := by
  rw [show (n - 1 - L).toNat = 0 by omega, show L + 1 = n by omega]
  rfl
/-- the path -/
def pth (v : Nat → Nat → Int) (W G n c : Int) : Nat → Int
  | 0 => c
  | i + 1 => bbN (v (n - 1 - ((i : Int) + 1)).toNat) W G (pth v W G n c i) 4
theorem pth_b {v : Nat → Nat → Int} {W G n c : Int} (hW : 2 ≤ W ∧ W ≤ 4) (hG : 2 ≤ G ∧ G ≤ 4) (hc : 0 ≤ c ∧ c < W * G) : ∀ i : Nat, 0 ≤ pth v W G n c i ∧ pth v W G n c i < W * G := by
  intro i
  induction i with
  | zero => exact hc
  | succ i ih => exact bbN_4 hW hG ih
theorem pth_s {v : Nat → Nat → Int} {W G n c L : Int} (hL : 1 ≤ L) : pth v W G n c L.toNat = bbN (v (n - 1 - L).toNat) W G (pth v W G n c (L - 1).toNat) 4 := by
  rw [show L.toNat = (L - 1).toNat + 1 by omega]
  show bbN (v (n - 1 - (((L - 1).toNat : Int) + 1)).toNat) W G (pth v W G n c (L - 1).toNat) 4 = _
  rw [show n - 1 - (((L - 1).toNat : Int) + 1) = n - 1 - L by omega]
theorem pth_cg {v w : Nat → Nat → Int} {W G n c : Int} (hW : 2 ≤ W ∧ W ≤ 4) (hG : 2 ≤ G ∧ G ≤ 4) (hc : 0 ≤ c ∧ c < W * G) (e : ∀ k i : Nat, (i : Int) < W * G → v k i = w k i) : ∀ i : Nat, pth v W G n c i = pth w W G n c i := by
  intro i
  induction i with
  | zero => rfl
  | succ i ih =>
    show bbN (v _) W G (pth v W G n c i) 4 = bbN (w _) W G (pth w W G n c i) 4
    rw [← ih]
    exact bbN_cg hW hG (pth_b hW hG hc i) (fun j hj => e _ j hj) 4 (by omega)
def PT (q : Nat → Int) (g : Hp) (m : Int) : Prop := ∀ i : Nat, (i : Int) < m → (g.1 101 i).toInt = q i
theorem PT_s {q : Nat → Int} {g g2 : Hp} {m X : Int} {x : Int32} (r : PT q g m) (hm : 0 ≤ m) (e : g2 = pI g 101 m.toNat x) (xE : x.toInt = X) (hx : X = q m.toNat) : PT q g2 (m + 1) := fun i hi => by
  rw [e, pI_at]
  by_cases w : i = m.toNat
  · rw [if_pos ⟨rfl, w⟩, xE, hx, w]
  · rw [if_neg (fun c => w c.2)]; exact r i (by omega)
/-- the answer -/
def SWr (v : Nat → Nat → Int) (W G n c a : Int) : Int := if a = 0 then 10 + v (n - 1).toNat c.toNat else pth v W G n c (a - 10).toNat
theorem SW_same {h : Hp} (ra : JA h) (rb : JB h) {W G n c a N M o : Int} (hW : 2 ≤ W ∧ W ≤ 4) (hG : 2 ≤ G ∧ G ≤ 4) (hM : W * G ≤ 16) (hc : 0 ≤ c ∧ c < W * G) : SWr (vv9 (svC h N M o) W G n) W G n c a = SWr (vv9 (svM h N M o) W G n) W G n c a := by
  have e : ∀ k i : Nat, (i : Int) < W * G → vv9 (svC h N M o) W G n k i = vv9 (svM h N M o) W G n k i := fun k i hi => vv9_cg hW hG (fun c s hc => sv_same ra rb (by omega)) k i hi
  unfold SWr
  split
  · rw [e _ _ (by omega)]
  · exact pth_cg hW hG hc e _
