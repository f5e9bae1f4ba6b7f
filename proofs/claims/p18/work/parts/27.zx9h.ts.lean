/-! how many of a set; the next test of the rod -/
noncomputable def cP (P : Nat → Prop) : Nat → Nat
  | 0 => 0
  | n + 1 => cP P n + (@ite Nat (P n) (Classical.propDecidable (P n)) 1 0)
theorem cP_t {P : Nat → Prop} {n : Nat} (h : P n) : cP P (n + 1) = cP P n + 1 := by
  show cP P n + (@ite Nat (P n) (Classical.propDecidable (P n)) 1 0) = _
  rw [if_pos h]
theorem cP_f {P : Nat → Prop} {n : Nat} (h : ¬ P n) : cP P (n + 1) = cP P n := by
  show cP P n + (@ite Nat (P n) (Classical.propDecidable (P n)) 1 0) = _
  rw [if_neg h, Nat.add_zero]
theorem cP_cg {P Q : Nat → Prop} : ∀ n : Nat, (∀ i : Nat, i < n → (P i ↔ Q i)) → cP P n = cP Q n := by
  intro n
  induction n with
  | zero => intro _; rfl
  | succ n ih =>
    intro h
    have i1 := ih (fun i hi => h i (by omega))
    by_cases q : P n
    · rw [cP_t q, cP_t ((h n (by omega)).mp q), i1]
    · rw [cP_f q, cP_f (fun w => q ((h n (by omega)).mpr w)), i1]
theorem cP_le (P : Nat → Prop) : ∀ n : Nat, cP P n ≤ n := by
  intro n
  induction n with
  | zero => exact Nat.le_refl 0
  | succ n ih =>
    by_cases q : P n
    · rw [cP_t q]; omega
    · rw [cP_f q]; omega
theorem cP_add (P : Nat → Prop) (a : Nat) : ∀ b : Nat, cP P (a + b) = cP P a + cP (fun i => P (a + i)) b := by
  intro b
  induction b with
  | zero => rfl
  | succ b ih =>
    by_cases q : P (a + b)
    · rw [show a + (b + 1) = a + b + 1 by omega, cP_t q, cP_t (P := fun i => P (a + i)) q, ih]; omega
    · rw [show a + (b + 1) = a + b + 1 by omega, cP_f q, cP_f (P := fun i => P (a + i)) q, ih]
theorem cP_sp (P Q : Nat → Prop) : ∀ n : Nat, cP P n = cP (fun i => P i ∧ Q i) n + cP (fun i => P i ∧ ¬ Q i) n := by
  intro n
  induction n with
  | zero => rfl
  | succ n ih =>
    by_cases p : P n
    · by_cases q : Q n
      · rw [cP_t p, cP_t (P := fun i => P i ∧ Q i) ⟨p, q⟩, cP_f (P := fun i => P i ∧ ¬ Q i) (fun w => w.2 q), ih]; omega
      · rw [cP_t p, cP_f (P := fun i => P i ∧ Q i) (fun w => q w.2), cP_t (P := fun i => P i ∧ ¬ Q i) ⟨p, q⟩, ih]; omega
    · rw [cP_f p, cP_f (P := fun i => P i ∧ Q i) (fun w => p w.1), cP_f (P := fun i => P i ∧ ¬ Q i) (fun w => p w.1), ih]
theorem cP_no {P : Nat → Prop} : ∀ n : Nat, (∀ i : Nat, i < n → ¬ P i) → cP P n = 0 := by
  intro n
  induction n with
  | zero => intro _; rfl
  | succ n ih => intro h; rw [cP_f (h n (by omega)), ih (fun i hi => h i (by omega))]
theorem BP_ct {x : Int32} {P : Nat → Prop} (b : BP x P) : pcN 32 (uN x) = cP P 32 := by
  rw [pcN_ct]
  have key : ∀ n : Nat, ct (fun j => (uN x).testBit j) n = cP P n := by
    intro n
    induction n with
    | zero => rfl
    | succ n ih =>
      show ct (fun j => (uN x).testBit j) n + (if (uN x).testBit n then 1 else 0) = _
      by_cases q : P n
      · rw [cP_t q, if_pos ((b n).mpr q), ih]
      · rw [cP_f q, if_neg (fun w => q ((b n).mp w)), ih, Nat.add_zero]
  exact key 32
/-- the reference's count over natures and reaches -/
noncomputable def tt (Q : Int → Int → Prop) : Nat → Nat
  | 0 => 0
  | k + 1 => tt Q k + cP (fun r => Q (k : Int) ((r : Int) + 1)) (rO (k : Int)).toNat
theorem tt_s {Q : Int → Int → Prop} {n : Int} (hn : 0 ≤ n) : tt Q (n + 1).toNat = tt Q n.toNat + cP (fun r => Q n ((r : Int) + 1)) (rO n).toNat := by
  rw [show (n + 1).toNat = n.toNat + 1 by omega]
  show tt Q n.toNat + cP (fun r => Q ((n.toNat : Nat) : Int) ((r : Int) + 1)) (rO ((n.toNat : Nat) : Int)).toNat = _
  rw [show ((n.toNat : Nat) : Int) = n by omega]
theorem tt_k {Q : Int → Int → Prop} {A K R : Int} (h : A = (tt Q K.toNat + cP (fun r => Q K ((r : Int) + 1)) (R - 1).toNat : Nat)) (hK : 0 ≤ K) (h1 : rO K < R) (h2 : R ≤ rO K + 1) : A = (tt Q (K + 1).toNat : Nat) := by
  rw [tt_s hK, h, show R - 1 = rO K by omega]
theorem tt_i {Q : Int → Int → Prop} {A K : Int} (h : A = (tt Q K.toNat : Nat)) : A = (tt Q K.toNat + cP (fun r => Q K ((r : Int) + 1)) ((1 : Int) - 1).toNat : Nat) := h
theorem tt_r {Q : Int → Int → Prop} {A K R Z : Int} {z : Int32} (h : A = (tt Q K.toNat + cP (fun r => Q K ((r : Int) + 1)) (R - 1).toNat : Nat)) (hR : 1 ≤ R) (f : twR z (Q K R)) (zE : z.toInt = Z) : A + Z = (tt Q K.toNat + cP (fun r => Q K ((r : Int) + 1)) (R + 1 - 1).toNat : Nat) := by
  rw [show (R + 1 - 1).toNat = (R - 1).toNat + 1 by omega]
  have e : (fun r : Nat => Q K ((r : Int) + 1)) (R - 1).toNat = Q K R := by
    show Q K (((R - 1).toNat : Int) + 1) = Q K R
    rw [show ((R - 1).toNat : Int) + 1 = R by omega]
  rcases f with ⟨f1, f2⟩ | ⟨f1, f2⟩
  · rw [cP_t (P := fun r => Q K ((r : Int) + 1)) (Eq.mpr e f2), h]; omega
  · rw [cP_f (P := fun r => Q K ((r : Int) + 1)) (fun w => f2 (Eq.mp e w)), h]; omega
theorem tb_1 {T : Prop} {r : Int32} {R B : Int} (t : twR r T) (rE : r.toInt = R) (hb : 0 ≤ B ∧ B ≤ 1) (e : R = B) : T ↔ B = 1 := by
  rcases t with ⟨a, b⟩ | ⟨a, b⟩
  · exact ⟨fun _ => by omega, fun _ => b⟩
  · exact ⟨fun q => absurd q b, fun q => by omega⟩
theorem tb_0 {T : Prop} {r : Int32} {R B : Int} (t : twR r T) (rE : r.toInt = R) (hb : 0 ≤ B ∧ B ≤ 1) (e : R ≠ B) : ¬ (T ↔ B = 1) := by
  rcases t with ⟨a, b⟩ | ⟨a, b⟩
  · exact fun q => by have := q.mp b; omega
  · exact fun q => b (q.mpr (by omega))
theorem cP_tt {Q : Int → Int → Prop} (id : idle Q) : cP (fun j => j < 21 ∧ Q (rN j) (rR j)) 32 = tt Q 5 := by
  have a1 := cP_add (fun j => j < 21 ∧ Q (rN j) (rR j)) 21 11
  rw [cP_no 11 (fun i _ w => by have := w.1; omega)] at a1
  have a2 := cP_add (fun j => j < 21 ∧ Q (rN j) (rR j)) 18 3
  have a3 := cP_add (fun j => j < 21 ∧ Q (rN j) (rR j)) 9 9
  have b0 : cP (fun j => j < 21 ∧ Q (rN j) (rR j)) 9 = cP (fun r => Q 0 ((r : Int) + 1)) 9 := cP_cg 9 (fun i hi => by
    have e0 : rN i = 0 := by unfold rN; rw [if_pos hi]
    have e1 : rR i = (i : Int) + 1 := by unfold rR; omega
    rw [e0, e1]
    exact ⟨fun w => w.2, fun w => ⟨by omega, w⟩⟩)
  have b4 : cP (fun i => 9 + i < 21 ∧ Q (rN (9 + i)) (rR (9 + i))) 9 = cP (fun r => Q 4 ((r : Int) + 1)) 9 := cP_cg 9 (fun i hi => by
    have e0 : rN (9 + i) = 4 := by unfold rN; rw [if_neg (by omega), if_pos (by omega)]
    have e1 : rR (9 + i) = (i : Int) + 1 := by unfold rR; omega
    rw [e0, e1]
    exact ⟨fun w => w.2, fun w => ⟨by omega, w⟩⟩)
  have one : ∀ (P : Nat → Prop) (X : Prop), (P 0 ↔ X) → cP P 1 = cP (fun _ => X) 1 := fun P X e => cP_cg 1 (fun i hi => by rw [show i = 0 by omega]; exact e)
  have c1 := cP_add (fun i => 18 + i < 21 ∧ Q (rN (18 + i)) (rR (18 + i))) 1 2
  have c2 := cP_add (fun i => 18 + (1 + i) < 21 ∧ Q (rN (18 + (1 + i))) (rR (18 + (1 + i)))) 1 1
  have d1 := one (fun i => 18 + i < 21 ∧ Q (rN (18 + i)) (rR (18 + i))) (Q 1 1) ⟨fun w => (id 1 _ 1 (by omega) (by omega)).mp w.2, fun w => ⟨by omega, (id 1 _ _ (by omega) (by omega)).mp w⟩⟩
  have d2 := one (fun i => 18 + (1 + i) < 21 ∧ Q (rN (18 + (1 + i))) (rR (18 + (1 + i)))) (Q 2 1) ⟨fun w => (id 2 _ 1 (by omega) (by omega)).mp w.2, fun w => ⟨by omega, (id 2 _ _ (by omega) (by omega)).mp w⟩⟩
  have d3 := one (fun i => 18 + (1 + (1 + i)) < 21 ∧ Q (rN (18 + (1 + (1 + i)))) (rR (18 + (1 + (1 + i))))) (Q 3 1) ⟨fun w => (id 3 _ 1 (by omega) (by omega)).mp w.2, fun w => ⟨by omega, (id 3 _ _ (by omega) (by omega)).mp w⟩⟩
  have t5 : tt Q 5 = 0 + cP (fun r => Q 0 ((r : Int) + 1)) 9 + cP (fun r => Q 1 ((r : Int) + 1)) 1 + cP (fun r => Q 2 ((r : Int) + 1)) 1 + cP (fun r => Q 3 ((r : Int) + 1)) 1 + cP (fun r => Q 4 ((r : Int) + 1)) 9 := rfl
  have f1 := one (fun r => Q 1 ((r : Int) + 1)) (Q 1 1) Iff.rfl
  have f2 := one (fun r => Q 2 ((r : Int) + 1)) (Q 2 1) Iff.rfl
  have f3 := one (fun r => Q 3 ((r : Int) + 1)) (Q 3 1) Iff.rfl
  have a1' : cP (fun j => j < 21 ∧ Q (rN j) (rR j)) 32 = cP (fun j => j < 21 ∧ Q (rN j) (rR j)) 21 + 0 := a1
  have a2' : cP (fun j => j < 21 ∧ Q (rN j) (rR j)) 21 = cP (fun j => j < 21 ∧ Q (rN j) (rR j)) 18 + cP (fun i => 18 + i < 21 ∧ Q (rN (18 + i)) (rR (18 + i))) 3 := a2
  have a3' : cP (fun j => j < 21 ∧ Q (rN j) (rR j)) 18 = cP (fun j => j < 21 ∧ Q (rN j) (rR j)) 9 + cP (fun i => 9 + i < 21 ∧ Q (rN (9 + i)) (rR (9 + i))) 9 := a3
  have c1' : cP (fun i => 18 + i < 21 ∧ Q (rN (18 + i)) (rR (18 + i))) 3 = cP (fun i => 18 + i < 21 ∧ Q (rN (18 + i)) (rR (18 + i))) 1 + cP (fun i => 18 + (1 + i) < 21 ∧ Q (rN (18 + (1 + i))) (rR (18 + (1 + i)))) 2 := c1
  have c2' : cP (fun i => 18 + (1 + i) < 21 ∧ Q (rN (18 + (1 + i))) (rR (18 + (1 + i)))) 2 = cP (fun i => 18 + (1 + i) < 21 ∧ Q (rN (18 + (1 + i))) (rR (18 + (1 + i)))) 1 + cP (fun i => 18 + (1 + (1 + i)) < 21 ∧ Q (rN (18 + (1 + (1 + i)))) (rR (18 + (1 + (1 + i))))) 1 := c2
  rw [t5, f1, f2, f3, a1', a2', a3', b0, b4, c1', c2', d1, d2, d3]
  omega
/-! where the worst is least -/
def ts (w : Nat → Int) (f0 : Int) : Nat → Int × Int
  | 0 => (f0, -4)
  | t + 1 => if w t < (ts w f0 t).1 then (w t, 10 * ((t / 2 : Nat) : Int) + ((t % 2 : Nat) : Int) + 1) else ts w f0 t
theorem ts_cg {w w2 : Nat → Int} {f0 : Int} : ∀ t : Nat, (∀ i : Nat, i < t → w i = w2 i) → ts w f0 t = ts w2 f0 t := by
  intro t
  induction t with
  | zero => intro _; rfl
  | succ t ih =>
    intro h
    show (if w t < (ts w f0 t).1 then _ else _) = (if w2 t < (ts w2 f0 t).1 then _ else _)
    rw [ih (fun i hi => h i (by omega)), h t (by omega)]
def wCf (g : Nat → Int → Int) (t : Nat) : Int := g (t / 2) (((t % 2 : Nat) : Int) + 1)
theorem wCf_at {g : Nat → Int → Int} {C S : Int} (hC : 0 ≤ C) (hS : 1 ≤ S ∧ S ≤ 2) : wCf g (2 * C + S - 1).toNat = g C.toNat S := by
  unfold wCf
  rw [show (2 * C + S - 1).toNat / 2 = C.toNat by omega, show (((2 * C + S - 1).toNat % 2 : Nat) : Int) + 1 = S by omega]
theorem ts_y {g : Nat → Int → Int} {f0 C S A X : Int} (hC : 0 ≤ C) (hS : 1 ≤ S ∧ S ≤ 2) (ha : A = (ts (wCf g) f0 (2 * C + S - 1).toNat).1) (hx : X = g C.toNat S) (c : X < A) : X = (ts (wCf g) f0 (2 * C + (S + 1) - 1).toNat).1 ∧ 10 * C + S = (ts (wCf g) f0 (2 * C + (S + 1) - 1).toNat).2 := by
  rw [show (2 * C + (S + 1) - 1).toNat = (2 * C + S - 1).toNat + 1 by omega]
  have e : ts (wCf g) f0 ((2 * C + S - 1).toNat + 1) = (X, 10 * (((2 * C + S - 1).toNat / 2 : Nat) : Int) + (((2 * C + S - 1).toNat % 2 : Nat) : Int) + 1) := by
    show (if wCf g (2 * C + S - 1).toNat < (ts (wCf g) f0 (2 * C + S - 1).toNat).1 then (wCf g (2 * C + S - 1).toNat, _) else _) = _
    rw [wCf_at hC hS, ← hx, ← ha, if_pos c]
  rw [e]
  exact ⟨rfl, by show 10 * C + S = 10 * (((2 * C + S - 1).toNat / 2 : Nat) : Int) + (((2 * C + S - 1).toNat % 2 : Nat) : Int) + 1; omega⟩
theorem ts_n {g : Nat → Int → Int} {f0 C S A B X : Int} (hC : 0 ≤ C) (hS : 1 ≤ S ∧ S ≤ 2) (ha : A = (ts (wCf g) f0 (2 * C + S - 1).toNat).1) (hb : B = (ts (wCf g) f0 (2 * C + S - 1).toNat).2) (hx : X = g C.toNat S) (c : A ≤ X) : A = (ts (wCf g) f0 (2 * C + (S + 1) - 1).toNat).1 ∧ B = (ts (wCf g) f0 (2 * C + (S + 1) - 1).toNat).2 := by
  rw [show (2 * C + (S + 1) - 1).toNat = (2 * C + S - 1).toNat + 1 by omega]
  have e : ts (wCf g) f0 ((2 * C + S - 1).toNat + 1) = ts (wCf g) f0 (2 * C + S - 1).toNat := by
    show (if wCf g (2 * C + S - 1).toNat < (ts (wCf g) f0 (2 * C + S - 1).toNat).1 then _ else _) = _
    rw [wCf_at hC hS, ← hx, ← ha, if_neg (by omega)]
  rw [e]
  exact ⟨ha, hb⟩
def mx2 (y n : Int) : Int := if n < y then y else n
theorem mx2_1 {y n x : Int} (h : n < y ∧ x = y ∨ y ≤ n ∧ x = n) : x = mx2 y n := by
  unfold mx2
  split <;> omega
def tsr (p : Int × Int) (a : Int) : Int := if p.2 = -4 ∨ a = 0 then p.2 else p.1
theorem tsr_1 {p : Int × Int} {a A B x : Int} (ha : A = p.1) (hb : B = p.2) (h : (B = -4 ∨ a = 0) ∧ x = B ∨ ¬ (B = -4 ∨ a = 0) ∧ x = A) : x = tsr p a := by
  unfold tsr
  rw [← hb, ← ha]
  rcases h with ⟨h1, h2⟩ | ⟨h1, h2⟩
  · rw [if_pos h1, h2]
  · rw [if_neg h1, h2]
/-- the class's and the reference's worst -/
noncomputable def gC (h : Hp) (k : Nat) (o : Int) (c : Nat) (s : Int) : Int := mx2 (cP (fun j => (j < 21 ∧ ftC h (rN j) (rR j) k) ∧ j < 21 ∧ twC h (rN j) (rR j) c o s) 32 : Nat) ((cP (fun j => j < 21 ∧ ftC h (rN j) (rR j) k) 32 : Nat) - (cP (fun j => (j < 21 ∧ ftC h (rN j) (rR j) k) ∧ j < 21 ∧ twC h (rN j) (rR j) c o s) 32 : Nat) : Int)
def QM (h : Hp) (k : Nat) (o : Int) (c : Nat) (s b : Int) (n r : Int) : Prop := ftM h n r k ∧ (twM h n r c o s ↔ b = 1)
noncomputable def gM (h : Hp) (k : Nat) (o : Int) (c : Nat) (s : Int) : Int := mx2 (tt (QM h k o c s 1) 5 : Nat) (tt (QM h k o c s 0) 5 : Nat)
theorem QM_idle {h : Hp} {k : Nat} {o s b : Int} {c : Nat} : idle (QM h k o c s b) := fun n r r2 h1 h3 => and_congr (ftM_idle n r r2 h1 h3) (iff_congr (tw_idle h1 h3) Iff.rfl)
theorem g_same {h : Hp} (hI : Inv h) (ra : JA h) (rb : JB h) {k : Nat} (hk : k ≤ 8 ∧ (k : Int) ≤ (h.1 12 4).toInt) {o s : Int} {c : Nat} (hc : c < 16) : ((cP (fun j => j < 21 ∧ ftC h (rN j) (rR j) k) 32 : Nat) : Int) = (tt (QM h k o c s 1) 5 : Nat) + (tt (QM h k o c s 0) 5 : Nat) ∧ gC h k o c s = gM h k o c s := by
  have y : cP (fun j => (j < 21 ∧ ftC h (rN j) (rR j) k) ∧ j < 21 ∧ twC h (rN j) (rR j) c o s) 32 = tt (QM h k o c s 1) 5 := by
    rw [← cP_tt QM_idle]
    refine cP_cg 32 (fun j _ => ?_)
    unfold QM
    rw [← ft_same hI ra rb hk, ← tw_same ra rb hc]
    exact ⟨fun w => ⟨w.1.1, w.1.2, ⟨fun _ => rfl, fun _ => w.2.2⟩⟩, fun w => ⟨⟨w.1, w.2.1⟩, w.1, w.2.2.mpr rfl⟩⟩
  have n : cP (fun j => (j < 21 ∧ ftC h (rN j) (rR j) k) ∧ ¬ (j < 21 ∧ twC h (rN j) (rR j) c o s)) 32 = tt (QM h k o c s 0) 5 := by
    rw [← cP_tt QM_idle]
    refine cP_cg 32 (fun j _ => ?_)
    unfold QM
    rw [← ft_same hI ra rb hk, ← tw_same ra rb hc]
    exact ⟨fun w => ⟨w.1.1, w.1.2, ⟨fun q => absurd ⟨w.1.1, q⟩ w.2, fun q => by omega⟩⟩, fun w => ⟨⟨w.1, w.2.1⟩, fun q => by have := w.2.2.mp q.2; omega⟩⟩
  have sp := cP_sp (fun j => j < 21 ∧ ftC h (rN j) (rR j) k) (fun j => j < 21 ∧ twC h (rN j) (rR j) c o s) 32
  rw [y, n] at sp
  refine ⟨by rw [sp]; omega, ?_⟩
  unfold gC gM
  rw [y, sp, show (((tt (QM h k o c s 1) 5 + tt (QM h k o c s 0) 5 : Nat) : Int) - (tt (QM h k o c s 1) 5 : Nat)) = (tt (QM h k o c s 0) 5 : Nat) by omega]
def TSa (G : Prop) (r : Int32) (x : Int) : Prop := G ∧ r.toInt = x ∨ ¬ G ∧ r.toInt = -1
theorem TSa_un {G : Prop} {r s : Int32} {x y : Int} (p : TSa G r x) (q : TSa G s y) (e : G → x = y) : r = s := by
  rcases p with ⟨a, b⟩ | ⟨a, b⟩ <;> rcases q with ⟨c, d⟩ | ⟨c, d⟩
  · exact same_of b (d.trans (e a).symm)
  · exact absurd a c
  · exact absurd c a
  · exact same_of b d
theorem test_same {h : Hp} (hI : Inv h) (ra : JA h) (rb : JB h) {o a W : Int} {k : Nat} (hk : k ≤ 8 ∧ (k : Int) ≤ (h.1 12 4).toInt) (hW : 0 ≤ W ∧ W ≤ 16) : tsr (ts (wCf (gC h k o)) (cP (fun j => j < 21 ∧ ftC h (rN j) (rR j) k) 32 : Nat) (2 * W).toNat) a = tsr (ts (wCf (gM h k o)) ((tt (QM h k o 0 1 1) 5 : Nat) + (tt (QM h k o 0 1 0) 5 : Nat) : Int) (2 * W).toNat) a := by
  rw [(g_same hI ra rb hk (o := o) (s := 1) (c := 0) (by omega)).1]
  rw [ts_cg (w := wCf (gC h k o)) (w2 := wCf (gM h k o)) (2 * W).toNat (fun i hi => (g_same hI ra rb hk (by omega)).2)]
