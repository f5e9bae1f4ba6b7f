section
def BP (x : Int32) (P : Nat → Prop) : Prop := ∀ j : Nat, (uN x).testBit j = true ↔ P j
theorem BP_cg {x : Int32} {P Q : Nat → Prop} (b : BP x P) (h : ∀ j : Nat, P j ↔ Q j) : BP x Q := fun j => (b j).trans (h j)
theorem BP_ext {x y : Int32} {P : Nat → Prop} (a : BP x P) (b : BP y P) : x = y := uN_inj (Nat.eq_of_testBit_eq (fun j => Bool.eq_iff_iff.mpr ((a j).trans (b j).symm)))
theorem BP_0 : BP 0 (fun _ => False) := fun j => by
  rw [BS_0 j]
  exact ⟨fun h => (by cases h), fun h => h.elim⟩
theorem BP_or {x y : Int32} {P Q : Nat → Prop} (a : BP x P) (b : BP y Q) : BP (x ||| y) (fun j => P j ∨ Q j) := fun j => by
  rw [uN_or, Nat.testBit_or, Bool.or_eq_true]
  exact or_congr (a j) (b j)
theorem BP_and {x y : Int32} {P Q : Nat → Prop} (a : BP x P) (b : BP y Q) : BP (x &&& y) (fun j => P j ∧ Q j) := fun j => by
  rw [uN_and, Nat.testBit_and, Bool.and_eq_true]
  exact and_congr (a j) (b j)
theorem BP_S {x : Int32} {p : Nat → Bool} (b : BS x p) : BP x (fun j => p j = true) := fun j => by rw [b j]
theorem BP_not {x : Int32} {P : Nat → Prop} (a : BP x P) : BP (x ^^^ -1) (fun j => j < 32 ∧ ¬ P j) := fun j => by
  have b : BS x (fun j => (uN x).testBit j) := fun _ => rfl
  rw [BS_not b j, Bool.and_eq_true, decide_eq_true_iff]
  refine and_congr Iff.rfl ?_
  show (!(uN x).testBit j) = true ↔ ¬ P j
  rw [← a j]
  cases (uN x).testBit j <;> decide
theorem BP_one {i : Int32} {I : Int} (iE : i.toInt = I) (h : 0 ≤ I ∧ I < 32) : BP (1 <<< (i &&& 31)) (fun j => j = I.toNat) := fun j => by
  rw [BS_one iE h j, decide_eq_true_iff]
theorem BP_sh {x i z w : Int32} {I W : Int} {P : Nat → Prop} (b : BP x P) (iE : i.toInt = I) (h : 0 ≤ I ∧ I < 32) (e1 : z = x >>> (i &&& 31)) (e2 : w = z &&& 1) (wE : w.toInt = W) : W = 1 ∧ P I.toNat ∨ W = 0 ∧ ¬ P I.toNat := by
  have b2 : BS x (fun j => (uN x).testBit j) := fun _ => rfl
  have := BS_sh b2 iE h e1 e2 wE
  have c := b I.toNat
  by_cases q : (uN x).testBit I.toNat = true
  · rw [if_pos q] at this; exact Or.inl ⟨this, c.mp q⟩
  · rw [if_neg q] at this; exact Or.inr ⟨this, fun d => q (c.mpr d)⟩
theorem BP_flag {f k z : Int32} {K : Int} {P : Prop} (hf : twR f P) (kE : k.toInt = K) (hk : 0 ≤ K ∧ K < 32) (e : z = f <<< (k &&& 31)) : BP z (fun j => P ∧ j = K.toNat) := by
  rcases hf with ⟨a, b⟩ | ⟨a, b⟩
  · have : f = 1 := same_of a rfl
    rw [e, this]
    exact BP_cg (BP_one kE hk) (fun j => ⟨fun q => ⟨b, q⟩, fun q => q.2⟩)
  · have : f = 0 := same_of a rfl
    rw [e, this, Int32.zero_shiftLeft]
    exact BP_cg BP_0 (fun j => ⟨fun q => q.elim, fun q => b q.1⟩)
theorem BP_add {x c s y : Int32} {P : Nat → Prop} {n : Int} (r : BP x (fun j => j < n.toNat ∧ P j)) (cE : c.toInt = n) (hn : 0 ≤ n ∧ n < 32) (g : P n.toNat) (e1 : s = 1 <<< (c &&& 31)) (e2 : y = x ||| s) : BP y (fun j => j < (n + 1).toNat ∧ P j) := by
  rw [e2, e1]
  refine BP_cg (BP_or r (BP_one cE hn)) (fun j => ⟨fun q => ?_, fun q => ?_⟩)
  · rcases q with q | q
    · exact ⟨by (first | decide +kernel | omega), q.2⟩
    · exact ⟨by (first | decide +kernel | omega), by rw [q]; exact g⟩
  · by_cases w : j = n.toNat
    · exact Or.inr w
    · exact Or.inl ⟨by (first | decide +kernel | omega), q.2⟩
theorem BP_skip {x : Int32} {P : Nat → Prop} {n : Int} (r : BP x (fun j => j < n.toNat ∧ P j)) (hn : 0 ≤ n) (g : ¬ P n.toNat) : BP x (fun j => j < (n + 1).toNat ∧ P j) := by
  refine BP_cg r (fun j => ⟨fun q => ⟨by (first | decide +kernel | omega), q.2⟩, fun q => ?_⟩)
  by_cases w : j = n.toNat
  · rw [w] at q; exact absurd q.2 g
  · exact ⟨by (first | decide +kernel | omega), q.2⟩
theorem BP_none {P : Nat → Prop} : BP 0 (fun j => j < (0 : Int).toNat ∧ P j) := BP_cg BP_0 (fun j => ⟨fun q => q.elim, fun q => by have := q.1; omega⟩)
def rN (r : Nat) : Int := if r < 9 then 0 else if r < 18 then 4 else (r : Int) - 17
def rR (r : Nat) : Int := (r : Int) % 9 + 1
theorem rN_0 {r : Nat} {d x : Int} (h : 0 ≤ d ∧ d < 9) (hr : d = r) (e : x = 0) : x = rN r := by unfold rN; rw [if_pos (by (first | decide +kernel | omega)), e]
theorem rN_4 {r : Nat} {d x : Int} (h : 9 ≤ d ∧ d < 18) (hr : d = r) (e : x = 4) : x = rN r := by unfold rN; rw [if_neg (by (first | decide +kernel | omega)), if_pos (by (first | decide +kernel | omega)), e]
theorem rN_u {r : Nat} {d x : Int} (h : 18 ≤ d) (hr : d = r) (e : x = d - 18 + 1) : x = rN r := by unfold rN; rw [if_neg (by (first | decide +kernel | omega)), if_neg (by (first | decide +kernel | omega)), e]; omega
theorem rN_b (r : Nat) (h : r < 21) : 0 ≤ rN r ∧ rN r ≤ 4 := by unfold rN; split; omega; split <;> omega
/-- all that was SEEN, the first k, is so by a rod: the class's, the reference's -/
def ftC (h : Hp) (n rc : Int) (k : Nat) : Prop := ∀ i : Nat, i < k → (twC h n rc (h.1 13 i).toInt.toNat (h.1 14 i).toInt (h.1 15 i).toInt ↔ (h.1 16 i).toInt = 1)
def ftM (h : Hp) (n rc : Int) (k : Nat) : Prop := ∀ i : Nat, i < k → (twM h n rc (h.1 117 (112 + 4 * i)).toInt.toNat (h.1 117 (113 + 4 * i)).toInt (h.1 117 (114 + 4 * i)).toInt ↔ (h.1 117 (115 + 4 * i)).toInt = 1)
theorem ft_s {f : Nat → Prop} {n : Int} (hn : 0 ≤ n) : (∀ i : Nat, i < (n + 1).toNat → f i) ↔ (∀ i : Nat, i < n.toNat → f i) ∧ f n.toNat := by
  refine ⟨fun q => ⟨fun i hi => q i (by (first | decide +kernel | omega)), q _ (by (first | decide +kernel | omega))⟩, fun q i hi => ?_⟩
  by_cases w : i = n.toNat
  · rw [w]; exact q.2
  · exact q.1 i (by (first | decide +kernel | omega))
theorem FT_0 {h : Hp} : BP 2097151 (fun j => j < 21 ∧ ftC h (rN j) (rR j) (0 : Int).toNat) := fun j => by
  rw [show uN 2097151 = 2 ^ 21 - 1 by decide, Nat.testBit_two_pow_sub_one, decide_eq_true_iff]
  exact ⟨fun q => ⟨q, fun i hi => by (first | decide +kernel | omega)⟩, fun q => q.1⟩
theorem FT_1 {h : Hp} {x t y c o s w : Int32} {n C O S W : Int} (hn : 0 ≤ n) (r : BP x (fun j => j < 21 ∧ ftC h (rN j) (rR j) n.toNat)) (b : BP t (fun j => j < 21 ∧ twC h (rN j) (rR j) C.toNat O S)) (ce : c = h.1 13 n.toNat) (cE : c.toInt = C) (oe : o = h.1 14 n.toNat) (oE : o.toInt = O) (se : s = h.1 15 n.toNat) (sE : s.toInt = S) (we : w = h.1 16 n.toNat) (wE : w.toInt = W) (hw : W = 1) (e : y = x &&& t) : BP y (fun j => j < 21 ∧ ftC h (rN j) (rR j) (n + 1).toNat) := by
  rw [e]
  refine BP_cg (BP_and r b) (fun j => ?_)
  unfold ftC
  rw [ft_s hn, ← ce, ← oe, ← se, ← we, cE, oE, sE, wE]
  exact ⟨fun q => ⟨q.1.1, q.1.2, ⟨fun _ => hw, fun _ => q.2.2⟩⟩, fun q => ⟨⟨q.1, q.2.1⟩, q.1, q.2.2.mpr hw⟩⟩
theorem FT_n {h : Hp} {x t t2 y c o s w : Int32} {n C O S W : Int} (hn : 0 ≤ n) (r : BP x (fun j => j < 21 ∧ ftC h (rN j) (rR j) n.toNat)) (b : BP t (fun j => j < 21 ∧ twC h (rN j) (rR j) C.toNat O S)) (ce : c = h.1 13 n.toNat) (cE : c.toInt = C) (oe : o = h.1 14 n.toNat) (oE : o.toInt = O) (se : s = h.1 15 n.toNat) (sE : s.toInt = S) (we : w = h.1 16 n.toNat) (wE : w.toInt = W) (hw : W = 0) (e0 : t2 = t ^^^ -1) (e : y = x &&& t2) : BP y (fun j => j < 21 ∧ ftC h (rN j) (rR j) (n + 1).toNat) := by
  rw [e, e0]
  refine BP_cg (BP_and r (BP_not b)) (fun j => ?_)
  unfold ftC
  rw [ft_s hn, ← ce, ← oe, ← se, ← we, cE, oE, sE, wE]
  refine ⟨fun q => ⟨q.1.1, q.1.2, ⟨fun k => absurd ⟨q.1.1, k⟩ q.2.2, fun k => ?_⟩⟩, fun q => ⟨⟨q.1, q.2.1⟩, by (first | decide +kernel | omega), fun k => ?_⟩⟩
  · omega
  · have := q.2.2.mp k.2; omega
theorem FM_s {h : Hp} {n m K : Int} {f g c o s w r z : Int32} {R F C O S W : Int} (hK : 0 ≤ K) (a : twR f (ftM h n m K.toNat)) (fE : f.toInt = F) (hF : F ≠ 0) (t : twR r (twM h n m C.toNat O S)) (rE : r.toInt = R) (fl : R ≠ 0 ∧ z.toInt = 1 ∨ R = 0 ∧ z.toInt = 0) (ce : c = h.1 117 (112 + 4 * K).toNat) (cE : c.toInt = C) (oe : o = h.1 117 (112 + 4 * K + 1).toNat) (oE : o.toInt = O) (se : s = h.1 117 (112 + 4 * K + 2).toNat) (sE : s.toInt = S) (we : w = h.1 117 (112 + 4 * K + 3).toNat) (wE : w.toInt = W) (wb : 0 ≤ W ∧ W ≤ 1) {Z G : Int} (zE : z.toInt = Z) (gE : g.toInt = G) (hg : Z = W ∧ G = 1 ∨ Z ≠ W ∧ G = 0) : twR g (ftM h n m (K + 1).toNat) := by
  rw [show (112 + 4 * K).toNat = 112 + 4 * K.toNat by (first | decide +kernel | omega)] at ce
  rw [show (112 + 4 * K + 1).toNat = 113 + 4 * K.toNat by (first | decide +kernel | omega)] at oe
  rw [show (112 + 4 * K + 2).toNat = 114 + 4 * K.toNat by (first | decide +kernel | omega)] at se
  rw [show (112 + 4 * K + 3).toNat = 115 + 4 * K.toNat by (first | decide +kernel | omega)] at we
  have ha : ftM h n m K.toNat := by
    rcases a with ⟨_, a⟩ | ⟨a, _⟩
    · exact a
    · omega
  have q := ft_s (f := fun i => (twM h n m (h.1 117 (112 + 4 * i)).toInt.toNat (h.1 117 (113 + 4 * i)).toInt (h.1 117 (114 + 4 * i)).toInt ↔ (h.1 117 (115 + 4 * i)).toInt = 1)) hK
  have q2 : ftM h n m (K + 1).toNat ↔ ftM h n m K.toNat ∧ (twM h n m C.toNat O S ↔ W = 1) := by
    rw [← ce, ← oe, ← se, ← we, cE, oE, sE, wE] at q
    exact q
  refine twR_cg (P := (twM h n m C.toNat O S ↔ W = 1)) ?_ (by rw [q2]; exact ⟨fun k => ⟨ha, k⟩, fun k => k.2⟩)
  unfold twR
  rw [gE]
  rcases t with ⟨t1, t2⟩ | ⟨t1, t2⟩
  · rcases hg with ⟨g1, g2⟩ | ⟨g1, g2⟩
    · exact Or.inl ⟨g2, ⟨fun _ => by (first | decide +kernel | omega), fun _ => t2⟩⟩
    · exact Or.inr ⟨g2, fun k => by have := k.mp t2; omega⟩
  · rcases hg with ⟨g1, g2⟩ | ⟨g1, g2⟩
    · exact Or.inl ⟨g2, ⟨fun k => absurd k t2, fun k => by (first | decide +kernel | omega)⟩⟩
    · exact Or.inr ⟨g2, fun k => t2 (k.mpr (by (first | decide +kernel | omega)))⟩
theorem FM_n {h : Hp} {n m K F : Int} {f : Int32} (hK : 0 ≤ K) (a : twR f (ftM h n m K.toNat)) (fE : f.toInt = F) (hF : F = 0) : twR 0 (ftM h n m (K + 1).toNat) := by
  rcases a with ⟨a, _⟩ | ⟨_, a⟩
  · omega
  · exact Or.inr ⟨rfl, fun q => a (fun i hi => q i (by (first | decide +kernel | omega)))⟩
theorem FM_0 {h : Hp} {n m : Int} : twR 1 (ftM h n m (0 : Int).toNat) := Or.inl ⟨rfl, fun i hi => by (first | decide +kernel | omega)⟩
def NQ (F : Int → Int → Prop) (n : Nat) (j : Nat) : Prop := ∃ q : Nat, q < n ∧ F (rN q) (rR q) ∧ rN q = (j : Int)
theorem NQ_0 {F : Int → Int → Prop} : BP 0 (NQ F (0 : Int).toNat) := BP_cg BP_0 (fun j => ⟨fun q => q.elim, fun ⟨q, a, _⟩ => by (first | decide +kernel | omega)⟩)
theorem NQ_n {F : Int → Int → Prop} {x : Int32} {n : Int} (r : BP x (NQ F n.toNat)) (hn : 0 ≤ n) (g : ¬ F (rN n.toNat) (rR n.toNat)) : BP x (NQ F (n + 1).toNat) := by
  refine BP_cg r (fun j => ⟨fun ⟨q, a, b⟩ => ⟨q, by (first | decide +kernel | omega), b⟩, fun ⟨q, a, b, c⟩ => ?_⟩)
  by_cases w : q = n.toNat
  · rw [w] at b; exact absurd b g
  · exact ⟨q, by (first | decide +kernel | omega), b, c⟩
theorem NQ_1 {F : Int → Int → Prop} {x k s y : Int32} {n : Int} (r : BP x (NQ F n.toNat)) (hn : 0 ≤ n ∧ n < 21) (g : F (rN n.toNat) (rR n.toNat)) (ke : k.toInt = rN n.toNat) (e1 : s = 1 <<< (k &&& 31)) (e2 : y = x ||| s) : BP y (NQ F (n + 1).toNat) := by
  have b := rN_b n.toNat (by (first | decide +kernel | omega))
  rw [e2, e1]
  refine BP_cg (BP_or r (BP_one ke (by (first | decide +kernel | omega)))) (fun j => ⟨fun q => ?_, fun ⟨q, a, c, d⟩ => ?_⟩)
  · rcases q with ⟨q, a, c⟩ | q
    · exact ⟨q, by (first | decide +kernel | omega), c⟩
    · exact ⟨n.toNat, by (first | decide +kernel | omega), g, by (first | decide +kernel | omega)⟩
  · by_cases w : q = n.toNat
    · rw [w] at d; exact Or.inr (by (first | decide +kernel | omega))
    · exact Or.inl ⟨q, by (first | decide +kernel | omega), c, d⟩
def rO (k : Int) : Int := if k = 0 ∨ k = 4 then 9 else 1
/-- the reference's: all of the natures below K, and of K the reaches below R -/
def MQ2 (F : Int → Int → Prop) (K R : Int) (j : Nat) : Prop := ∃ k r : Int, 0 ≤ k ∧ (k < K ∧ r ≤ rO k ∨ k = K ∧ r < R) ∧ 1 ≤ r ∧ F k r ∧ k = (j : Int)
theorem MQ2_0 {F : Int → Int → Prop} : BP 0 (MQ2 F 0 1) := BP_cg BP_0 (fun j => ⟨fun q => q.elim, fun ⟨k, r, a, b, c, _⟩ => by (first | decide +kernel | omega)⟩)
theorem MQ2_k {F : Int → Int → Prop} {x : Int32} {K R : Int} (r : BP x (MQ2 F K R)) (hR : rO K < R) (hK : 0 ≤ K) (hR2 : R ≤ rO K + 1) : BP x (MQ2 F (K + 1) 1) := by
  refine BP_cg r (fun j => ⟨fun ⟨k, q, a, b, c⟩ => ⟨k, q, a, ?_, c⟩, fun ⟨k, q, a, b, c⟩ => ⟨k, q, a, ?_, c⟩⟩)
  · rcases b with b | ⟨b1, b2⟩
    · exact Or.inl ⟨by (first | decide +kernel | omega), b.2⟩
    · subst b1; exact Or.inl ⟨by (first | decide +kernel | omega), by (first | decide +kernel | omega)⟩
  · rcases b with b | b
    · by_cases w : k = K
      · subst w; exact Or.inr ⟨rfl, by (first | decide +kernel | omega)⟩
      · exact Or.inl ⟨by (first | decide +kernel | omega), b.2⟩
    · omega
theorem MQ2_r {F : Int → Int → Prop} {x f k s y : Int32} {K R : Int} (r : BP x (MQ2 F K R)) (hf : twR f (F K R)) (kE : k.toInt = K) (hK : 0 ≤ K ∧ K ≤ 4) (hR : 1 ≤ R) (e1 : s = f <<< (k &&& 31)) (e2 : y = x ||| s) : BP y (MQ2 F K (R + 1)) := by
  rw [e2]
  refine BP_cg (BP_or r (BP_flag hf kE (by (first | decide +kernel | omega)) e1)) (fun j => ⟨fun q => ?_, fun ⟨k, q, a, b, c, d, e⟩ => ?_⟩)
  · rcases q with ⟨k, q, a, b, c⟩ | ⟨q, w⟩
    · exact ⟨k, q, a, by (first | decide +kernel | omega), c⟩
    · exact ⟨K, R, hK.1, Or.inr ⟨rfl, by (first | decide +kernel | omega)⟩, hR, q, by (first | decide +kernel | omega)⟩
  · by_cases w : k = K ∧ q = R
    · obtain ⟨rfl, rfl⟩ := w
      exact Or.inr ⟨d, by (first | decide +kernel | omega)⟩
    · exact Or.inl ⟨k, q, a, by (first | decide +kernel | omega), c, d, e⟩
def RQ (F : Int → Int → Prop) (k : Int) (n : Nat) (j : Nat) : Prop := ∃ q : Nat, q < n ∧ F (rN q) (rR q) ∧ rN q = k ∧ (q < 18 ∧ rR q = (j : Int) ∨ 18 ≤ q ∧ 1 ≤ j ∧ j ≤ 9)
theorem RQ_0 {F : Int → Int → Prop} {k : Int} : BP 0 (RQ F k (0 : Int).toNat) := BP_cg BP_0 (fun j => ⟨fun q => q.elim, fun ⟨q, a, _⟩ => by (first | decide +kernel | omega)⟩)
theorem RQ_n {F : Int → Int → Prop} {k : Int} {x : Int32} {n : Int} (r : BP x (RQ F k n.toNat)) (hn : 0 ≤ n) (g : ¬ (F (rN n.toNat) (rR n.toNat) ∧ rN n.toNat = k)) : BP x (RQ F k (n + 1).toNat) := by
  refine BP_cg r (fun j => ⟨fun ⟨q, a, b⟩ => ⟨q, by (first | decide +kernel | omega), b⟩, fun ⟨q, a, b, c, d⟩ => ?_⟩)
  by_cases w : q = n.toNat
  · rw [w] at b c; exact absurd ⟨b, c⟩ g
  · exact ⟨q, by (first | decide +kernel | omega), b, c, d⟩
theorem RQ_1 {F : Int → Int → Prop} {k : Int} {x s y : Int32} {n : Int} (r : BP x (RQ F k n.toNat)) (hn : 0 ≤ n ∧ n < 21) (g : F (rN n.toNat) (rR n.toNat)) (g2 : rN n.toNat = k) (b : BP s (fun j => n < 18 ∧ rR n.toNat = (j : Int) ∨ 18 ≤ n ∧ 1 ≤ j ∧ j ≤ 9)) (e2 : y = x ||| s) : BP y (RQ F k (n + 1).toNat) := by
  rw [e2]
  refine BP_cg (BP_or r b) (fun j => ⟨fun q => ?_, fun ⟨q, a, c, d, e⟩ => ?_⟩)
  · rcases q with ⟨q, a, c⟩ | q
    · exact ⟨q, by (first | decide +kernel | omega), c⟩
    · exact ⟨n.toNat, by (first | decide +kernel | omega), g, g2, by (first | decide +kernel | omega)⟩
  · by_cases w : q = n.toNat
    · rw [w] at e; exact Or.inr (by (first | decide +kernel | omega))
    · exact Or.inl ⟨q, by (first | decide +kernel | omega), c, d, e⟩
theorem rB_1 {d r z : Int32} {D : Int} (hd : 0 ≤ D ∧ D < 18) (re : r.toInt = rR D.toNat) (e : z = 1 <<< (r &&& 31)) : BP z (fun j => D < 18 ∧ rR D.toNat = (j : Int) ∨ 18 ≤ D ∧ 1 ≤ j ∧ j ≤ 9) := by
  have b : 0 ≤ rR D.toNat ∧ rR D.toNat < 32 := by unfold rR; omega
  rw [e]
  exact BP_cg (BP_one re b) (fun j => ⟨fun q => Or.inl ⟨hd.2, by (first | decide +kernel | omega)⟩, fun q => by (first | decide +kernel | omega)⟩)
theorem all9 : ∀ j, j < 32 → ((uN 1022).testBit j = true ↔ 1 ≤ j ∧ j ≤ 9) := by decide +kernel
theorem rB_9 {D : Int} (hd : 18 ≤ D) : BP 1022 (fun j => D < 18 ∧ rR D.toNat = (j : Int) ∨ 18 ≤ D ∧ 1 ≤ j ∧ j ≤ 9) := fun j => by
  by_cases q : j < 32
  · rw [all9 j q]; omega
  · rw [Nat.testBit_lt_two_pow (Nat.lt_of_lt_of_le (uN_lt 1022) (Nat.pow_le_pow_right (by decide) (by (first | decide +kernel | omega))))]
    exact ⟨fun h => (by cases h), fun h => by (first | decide +kernel | omega)⟩
def MR3 (F : Int → Int → Prop) (k R : Int) (j : Nat) : Prop := ∃ r : Int, 1 ≤ r ∧ r < R ∧ F k r ∧ r = (j : Int)
theorem MR3_0 {F : Int → Int → Prop} {k : Int} : BP 0 (MR3 F k 1) := BP_cg BP_0 (fun j => ⟨fun q => q.elim, fun ⟨r, a, b, _⟩ => by (first | decide +kernel | omega)⟩)
theorem MR3_r {F : Int → Int → Prop} {x f c s y : Int32} {k R : Int} (r : BP x (MR3 F k R)) (hf : twR f (F k R)) (cE : c.toInt = R) (hR : 1 ≤ R ∧ R ≤ 9) (e1 : s = f <<< (c &&& 31)) (e2 : y = x ||| s) : BP y (MR3 F k (R + 1)) := by
  rw [e2]
  refine BP_cg (BP_or r (BP_flag hf cE (by (first | decide +kernel | omega)) e1)) (fun j => ⟨fun q => ?_, fun ⟨q, a, b, c, d⟩ => ?_⟩)
  · rcases q with ⟨q, a, b, c⟩ | ⟨q, w⟩
    · exact ⟨q, a, by (first | decide +kernel | omega), c⟩
    · exact ⟨R, by (first | decide +kernel | omega), by (first | decide +kernel | omega), q, by (first | decide +kernel | omega)⟩
  · by_cases w : q = R
    · subst w; exact Or.inr ⟨c, by (first | decide +kernel | omega)⟩
    · exact Or.inl ⟨q, a, by (first | decide +kernel | omega), c, d⟩
end
section
abbrev q_Rod_natureOfX (h : Hp) (d : Int32) (dZ : Int) : Option Value → Hp → Prop := pInt (fun r h' => h = h' ∧ (r.toInt = rN dZ.toNat))
set_option maxRecDepth 100000 in
theorem c_Rod_natureOfX (h : Hp) (d : Int32) (dZ : Int) (dE : d.toInt = dZ) (hy0 : 0 ≤ dZ ∧ dZ ≤ 20) : Ct y_Rod_natureOf b_Rod_natureOf 1 (some .int) 0 0 [.int d] h (q_Rod_natureOfX h d dZ) := by
  refine ct_ow R_Rod [some (.int d)] rfl (by decide) rfl (Nat.le_of_ble_eq_true rfl) ?_
  have f0 : fr [] h h := fr_rf
  refine V_iload_n 0 d_Rod_natureOf_0 rfl rfl ?_
  refine V_bipush 9 d_Rod_natureOf_1 (by decide) ?_
  refine V_icmp_ge 8 dE tc_9 d_Rod_natureOf_3 (by decide) (fun c1 => ?_) (fun c1 => ?_)
  ·
    refine V_iload_n 0 d_Rod_natureOf_8 rfl rfl ?_
    refine V_bipush 18 d_Rod_natureOf_9 (by decide) ?_
    refine V_icmp_ge 18 dE tc_18 d_Rod_natureOf_11 (by decide) (fun c2 => ?_) (fun c2 => ?_)
    ·
      refine V_iload_n 0 d_Rod_natureOf_18 rfl rfl ?_
      refine V_bipush 18 d_Rod_natureOf_19 (by decide) ?_
      refine V_isub dE tc_18 (by (first | decide +kernel | omega)) d_Rod_natureOf_21 (fun z3 z3e z3E => ?_)
      refine V_iconst 1 d_Rod_natureOf_22 (by decide) ?_
      refine V_iadd z3E tc_1 (by (first | decide +kernel | omega)) d_Rod_natureOf_23 (fun z4 z4e z4E => ?_)
      exact V_iret rfl d_Rod_natureOf_24 ⟨z4, rfl, ⟨rfl, (rN_u (d := dZ) (by (first | decide +kernel | omega)) (by (first | decide +kernel | omega)) z4E)⟩⟩
    ·
      refine V_iconst 4 d_Rod_natureOf_14 (by decide) ?_
      refine V_goto 24 d_Rod_natureOf_15 (by decide) ?_
      exact V_iret rfl d_Rod_natureOf_24 ⟨4, rfl, ⟨rfl, (rN_4 (d := dZ) (by (first | decide +kernel | omega)) (by (first | decide +kernel | omega)) tc_4)⟩⟩
  ·
    refine V_iconst 0 d_Rod_natureOf_6 (by decide) ?_
    exact V_iret rfl d_Rod_natureOf_7 ⟨0, rfl, ⟨rfl, (rN_0 (d := dZ) (by (first | decide +kernel | omega)) (by (first | decide +kernel | omega)) tc_0)⟩⟩
abbrev q_Rod_reachOfX (h : Hp) (d : Int32) (dZ : Int) : Option Value → Hp → Prop := pInt (fun r h' => h = h' ∧ (r.toInt = rR dZ.toNat))
set_option maxRecDepth 100000 in
theorem c_Rod_reachOfX (h : Hp) (d : Int32) (dZ : Int) (dE : d.toInt = dZ) (hy0 : 0 ≤ dZ ∧ dZ ≤ 20) : Ct y_Rod_reachOf b_Rod_reachOf 1 (some .int) 0 0 [.int d] h (q_Rod_reachOfX h d dZ) := by
  refine ct_ow R_Rod [some (.int d)] rfl (by decide) rfl (Nat.le_of_ble_eq_true rfl) ?_
  have f0 : fr [] h h := fr_rf
  refine V_iload_n 0 d_Rod_reachOf_0 rfl rfl ?_
  refine V_bipush 9 d_Rod_reachOf_1 (by decide) ?_
  refine N_irem dE tc_9 (by (first | decide +kernel | omega)) d_Rod_reachOf_3 (fun z1 z1e z1E => ?_)
  refine V_iconst 1 d_Rod_reachOf_4 (by decide) ?_
  refine V_iadd z1E tc_1 (by (first | decide +kernel | omega)) d_Rod_reachOf_5 (fun z2 z2e z2E => ?_)
  exact V_iret rfl d_Rod_reachOf_6 ⟨z2, rfl, ⟨rfl, (by rw [z2E]; unfold rR; omega)⟩⟩
abbrev q_Rod_reachBitsX (h : Hp) (d : Int32) (dZ : Int) : Option Value → Hp → Prop := pInt (fun r h' => h = h' ∧ (BP r (fun j => dZ < 18 ∧ rR dZ.toNat = (j : Int) ∨ 18 ≤ dZ ∧ 1 ≤ j ∧ j ≤ 9)))
set_option maxRecDepth 100000 in
theorem c_Rod_reachBitsX (h : Hp) (d : Int32) (dZ : Int) (dE : d.toInt = dZ) (hy0 : 0 ≤ dZ ∧ dZ ≤ 20) : Ct y_Rod_reachBits b_Rod_reachBits 1 (some .int) 1 20 [.int d] h (q_Rod_reachBitsX h d dZ) := by
  refine ct_ow R_Rod [some (.int d)] rfl (by decide) rfl (Nat.le_of_ble_eq_true rfl) ?_
  have f0 : fr [] h h := fr_rf
  refine V_iload_n 0 d_Rod_reachBits_0 rfl rfl ?_
  refine V_bipush 18 d_Rod_reachBits_1 (by decide) ?_
  refine V_icmp_ge 15 dE tc_18 d_Rod_reachBits_3 (by decide) (fun c1 => ?_) (fun c1 => ?_)
  ·
    refine V_sipush 1022 d_Rod_reachBits_15 (by decide) ?_
    exact V_iret rfl d_Rod_reachBits_18 ⟨1022, rfl, ⟨rfl, (rB_9 (by (first | decide +kernel | omega)))⟩⟩
  ·
    refine V_iconst 1 d_Rod_reachBits_6 (by decide) ?_
    refine V_iload_n 0 d_Rod_reachBits_7 rfl rfl ?_
    refine N_callSI [.int d] [.int 1] cs_Rod_318 d_Rod_reachBits_8 rfl (Nat.le_of_ble_eq_true rfl) (by decide) (by decide) (c_Rod_reachOfX h d dZ dE (by (first | decide +kernel | omega))) (fun z2 h3 z2Z z2E p4 => ?_)
    obtain ⟨eh3, p4⟩ := p4
    subst eh3
    refine N_ishl d_Rod_reachBits_11 (fun z5 z5Z z5E z5e => ?_)
    refine V_goto 18 d_Rod_reachBits_12 (by decide) ?_
    exact V_iret rfl d_Rod_reachBits_18 ⟨z5, rfl, ⟨rfl, (rB_1 (d := d) (by (first | decide +kernel | omega)) p4 z5e)⟩⟩
abbrev q_Land_twitchingRodsX_0 (h : Hp) (c : Int32) (cZ : Int) (o : Int32) (oZ : Int) (s : Int32) (sZ : Int) : Option Value → Hp → Prop := pInt (fun r h' => h = h' ∧ (BP r (fun j => j < 21 ∧ twC h (rN j) (rR j) cZ.toNat oZ sZ)))
set_option maxRecDepth 100000 in
theorem c_Land_twitchingRodsX_0 (h : Hp) (hI : Inv h) (c : Int32) (cZ : Int) (cE : c.toInt = cZ) (o : Int32) (oZ : Int) (oE : o.toInt = oZ) (s : Int32) (sZ : Int) (sE : s.toInt = sZ) (hy0 : 0 ≤ cZ ∧ cZ ≤ 15) (hy1 : 0 ≤ sZ) (hy2 : ∀ i : Nat, i < 16 → 0 ≤ (h.1 3 i).toInt ∧ (h.1 3 i).toInt ≤ 1) : Ct y_Land_twitchingRods b_Land_twitchingRods 6 (some .int) 1 27 [.ref 1, .int c, .int o, .int s] h (q_Land_twitchingRodsX_0 h c cZ o oZ s sZ) := by
  refine ct_ow R_Land [some (.ref 1), some (.int c), some (.int o), some (.int s), none, none] rfl (by decide) rfl (Nat.le_of_ble_eq_true rfl) ?_
  have f0 : fr [] h h := fr_rf
  refine V_iconst 0 d_Land_twitchingRods_0 (by decide) ?_
  refine V_istore 4 [some (.ref 1), some (.int c), some (.int o), some (.int s), some (.int 0), none] d_Land_twitchingRods_1 (by decide) rfl rfl ?_
  refine V_iconst 0 d_Land_twitchingRods_3 (by decide) ?_
  refine V_istore 5 [some (.ref 1), some (.int c), some (.int o), some (.int s), some (.int 0), some (.int 0)] d_Land_twitchingRods_4 (by decide) rfl rfl ?_
  have L1 : ∀ (nn : Nat) (v3 : Int32) (v3Z : Int) (v4 : Int32) (v4Z : Int), v3.toInt = v3Z → v4.toInt = v4Z → 0 ≤ v4Z ∧ v4Z ≤ 21 → BP v3 (fun j => j < (v4Z).toNat ∧ twC h (rN j) (rR j) cZ.toNat oZ sZ) → 21 - v4Z < (nn : Int) → V R_Land b_Land_twitchingRods 6 (some .int) 1 27 (q_Land_twitchingRodsX_0 h c cZ o oZ s sZ) h 6 [some (.ref 1), some (.int c), some (.int o), some (.int s), some (.int v3), some (.int v4)] [] := by
    intro nn
    induction nn with
    | zero => intro v3 v3Z v4 v4Z v3E v4E q5 q6 hm7; exact absurd hm7 (by (first | decide +kernel | omega))
    | succ nn ihL1 =>
      intro v3 v3Z v4 v4Z v3E v4E q5 q6 hm7
      refine V_iload d_Land_twitchingRods_6 rfl ?_
      refine V_bipush 21 d_Land_twitchingRods_8 (by decide) ?_
      refine V_icmp_ge 48 v4E tc_21 d_Land_twitchingRods_10 (by decide) (fun c8 => ?_) (fun c8 => ?_)
      ·
        refine V_iload d_Land_twitchingRods_48 rfl ?_
        exact V_iret rfl d_Land_twitchingRods_50 ⟨v3, rfl, ⟨rfl, (by rw [show (21 : Nat) = (v4Z).toNat by (first | decide +kernel | omega)]; assumption)⟩⟩
      ·
        refine V_aload_n 0 d_Land_twitchingRods_13 rfl rfl ?_
        refine V_iload d_Land_twitchingRods_14 rfl ?_
        refine N_callSI [.int v4] [.ref 1] cs_Land_78 d_Land_twitchingRods_16 rfl (Nat.le_of_ble_eq_true rfl) (by decide) (by decide) (c_Rod_natureOfX h v4 v4Z v4E (by (first | decide +kernel | omega))) (fun z9 h10 z9Z z9E p11 => ?_)
        obtain ⟨eh10, p11⟩ := p11
        subst eh10
        refine V_iload d_Land_twitchingRods_19 rfl ?_
        refine N_callSI [.int v4] [.int z9, .ref 1] cs_Land_81 d_Land_twitchingRods_21 rfl (Nat.le_of_ble_eq_true rfl) (by decide) (by decide) (c_Rod_reachOfX h v4 v4Z v4E (by (first | decide +kernel | omega))) (fun z12 h13 z12Z z12E p14 => ?_)
        obtain ⟨eh13, p14⟩ := p14
        subst eh13
        refine V_iload_n 1 d_Land_twitchingRods_24 rfl rfl ?_
        refine V_iload_n 2 d_Land_twitchingRods_25 rfl rfl ?_
        refine V_iload_n 3 d_Land_twitchingRods_26 rfl rfl ?_
        refine N_callVI [.int z9, .int z12, .int c, .int o, .int s] [] cv_Land_84 sk_1 rfl d_Land_twitchingRods_27 rfl (Nat.le_of_ble_eq_true rfl) (by decide) (by decide) (c_Land_twitchesX_0 h hI z9 z9Z z9E z12 z12Z z12E c cZ cE o oZ oE s sZ sE (by (first | decide +kernel | omega)) (by (first | decide +kernel | omega)) (hy2 _ (by (first | decide +kernel | omega)))) (fun z15 h16 z15Z z15E p17 => ?_)
        obtain ⟨eh16, p17⟩ := p17
        subst eh16
        have := twR_01 p17
        rw [show z9Z = rN (v4Z).toNat from z9E.symm.trans p11, show z12Z = rR (v4Z).toNat from z12E.symm.trans p14] at p17
        refine V_if_eq 42 z15E d_Land_twitchingRods_30 (by decide) (fun c18 => ?_) (fun c18 => ?_)
        ·
          obtain ⟨z19, z19E, z19e⟩ : ∃ y : Int32, y.toInt = v4Z + 1 ∧ y = v4 + Int32.ofInt 1 := ⟨_, ti_add v4E (by decide) (by (first | decide +kernel | omega)), rfl⟩
          refine V_iinc 5 [some (.ref 1), some (.int c), some (.int o), some (.int s), some (.int v3), some (.int z19)] d_Land_twitchingRods_42 rfl z19e.symm (by decide) rfl rfl ?_
          refine V_goto 6 d_Land_twitchingRods_45 (by decide) ?_
          exact ihL1 v3 v3Z z19 ((v4Z + 1)) v3E z19E (by (first | decide +kernel | omega)) (BP_skip (by assumption) (by (first | decide +kernel | omega)) (p17.resolve_left (fun q => absurd q.1 (by (first | decide +kernel | omega)))).2) (by (first | decide +kernel | omega))
        ·
          refine V_iload d_Land_twitchingRods_33 rfl ?_
          refine V_iconst 1 d_Land_twitchingRods_35 (by decide) ?_
          refine V_iload d_Land_twitchingRods_36 rfl ?_
          refine N_ishl d_Land_twitchingRods_38 (fun z20 z20Z z20E z20e => ?_)
          refine N_ior d_Land_twitchingRods_39 (fun z21 z21Z z21E z21e => ?_)
          refine V_istore 4 [some (.ref 1), some (.int c), some (.int o), some (.int s), some (.int z21), some (.int v4)] d_Land_twitchingRods_40 (by decide) rfl rfl ?_
          obtain ⟨z22, z22E, z22e⟩ : ∃ y : Int32, y.toInt = v4Z + 1 ∧ y = v4 + Int32.ofInt 1 := ⟨_, ti_add v4E (by decide) (by (first | decide +kernel | omega)), rfl⟩
          refine V_iinc 5 [some (.ref 1), some (.int c), some (.int o), some (.int s), some (.int z21), some (.int z22)] d_Land_twitchingRods_42 rfl z22e.symm (by decide) rfl rfl ?_
          refine V_goto 6 d_Land_twitchingRods_45 (by decide) ?_
          exact ihL1 z21 z21Z z22 ((v4Z + 1)) z21E z22E (by (first | decide +kernel | omega)) (BP_add (by assumption) v4E (by (first | decide +kernel | omega)) (p17.resolve_right (fun q => absurd q.1 (by (first | decide +kernel | omega)))).2 z20e z21e) (by (first | decide +kernel | omega))
  exact L1 (Int.toNat ((21 - 0 : Int) + 1)) 0 0 0 0 tc_0 tc_0 (by (first | decide +kernel | omega)) BP_none (by (first | decide +kernel | omega))
abbrev q_County_fittingRodsX_0 (h : Hp) (t : Int32) (tZ : Int) : Option Value → Hp → Prop := pInt (fun r h' => h = h' ∧ (BP r (fun j => j < 21 ∧ ftC h (rN j) (rR j) tZ.toNat)))
set_option maxRecDepth 100000 in
theorem c_County_fittingRodsX_0 (h : Hp) (hI : Inv h) (t : Int32) (tZ : Int) (tE : t.toInt = tZ) (tK : h.1 12 4 = t) (hy0 : ∀ i : Nat, i < 16 → 0 ≤ (h.1 3 i).toInt ∧ (h.1 3 i).toInt ≤ 1) (hy1 : ∀ i : Nat, i < 8 → (i : Int) < (h.1 12 4).toInt → (0 ≤ (h.1 16 i).toInt ∧ (h.1 16 i).toInt ≤ 1) ∧ 0 ≤ (h.1 15 i).toInt) : Ct y_County_fittingRods b_County_fittingRods 4 (some .int) 2 52 [.ref 0] h (q_County_fittingRodsX_0 h t tZ) := by
  refine ct_ow R_County [some (.ref 0), none, none, none] rfl (by decide) rfl (Nat.le_of_ble_eq_true rfl) ?_
  have f0 : fr [] h h := fr_rf
  have g1 : 0 ≤ tZ ∧ tZ ≤ 8 := inv_at hI tE tK.symm rfl
  refine V_ldc d_County_fittingRods_0 wc_County_61 ?_
  refine V_istore_n 1 [some (.ref 0), some (.int 2097151), none, none] d_County_fittingRods_2 rfl (by decide) rfl rfl ?_
  refine V_iconst 0 d_County_fittingRods_3 (by decide) ?_
  refine V_istore_n 2 [some (.ref 0), some (.int 2097151), some (.int 0), none] d_County_fittingRods_4 rfl (by decide) rfl rfl ?_
  have L2 : ∀ (nn : Nat) (v4 : Int32) (v4Z : Int) (v5 : Int32) (v5Z : Int), v4.toInt = v4Z → v5.toInt = v5Z → 0 ≤ v5Z ∧ v5Z ≤ tZ → BP v4 (fun j => j < 21 ∧ ftC h (rN j) (rR j) (v5Z).toNat) → 8 - v5Z < (nn : Int) → V R_County b_County_fittingRods 4 (some .int) 2 52 (q_County_fittingRodsX_0 h t tZ) h 5 [some (.ref 0), some (.int v4), some (.int v5), none] [] := by
    intro nn
    induction nn with
    | zero => intro v4 v4Z v5 v5Z v4E v5E q6 q7 hm8; exact absurd hm8 (by (first | decide +kernel | omega))
    | succ nn ihL2 =>
      intro v4 v4Z v5 v5Z v4E v5E q6 q7 hm8
      refine V_iload_n 2 d_County_fittingRods_5 rfl rfl ?_
      refine V_aload_n 0 d_County_fittingRods_6 rfl rfl ?_
      refine V_getR fa_County_28 sk_0 rfl d_County_fittingRods_7 ?_
      refine N_getK fa_County_37 sk_12 rfl d_County_fittingRods_10 tK ?_
      refine V_icmp_ge 79 v5E tE d_County_fittingRods_13 (by decide) (fun c9 => ?_) (fun c9 => ?_)
      ·
        refine V_iload_n 1 d_County_fittingRods_79 rfl rfl ?_
        exact V_iret rfl d_County_fittingRods_80 ⟨v4, rfl, ⟨rfl, (by rw [show tZ.toNat = (v5Z).toNat by (first | decide +kernel | omega)]; assumption)⟩⟩
      ·
        refine V_aload_n 0 d_County_fittingRods_16 rfl rfl ?_
        refine V_getR fa_County_12 sk_0 rfl d_County_fittingRods_17 ?_
        refine V_aload_n 0 d_County_fittingRods_20 rfl rfl ?_
        refine V_getR fa_County_28 sk_0 rfl d_County_fittingRods_21 ?_
        refine V_getR fa_County_62 sk_12 rfl d_County_fittingRods_24 ?_
        refine V_iload_n 2 d_County_fittingRods_27 rfl rfl ?_
        refine N_iald sk_13 v5E (by (first | decide +kernel | omega)) d_County_fittingRods_28 (fun z10 z10Z z10E z10e => ?_)
        have g11 : 0 ≤ z10Z ∧ z10Z ≤ 15 := inv_at hI z10E z10e rfl
        refine V_aload_n 0 d_County_fittingRods_29 rfl rfl ?_
        refine V_getR fa_County_28 sk_0 rfl d_County_fittingRods_30 ?_
        refine V_getR fa_County_66 sk_12 rfl d_County_fittingRods_33 ?_
        refine V_iload_n 2 d_County_fittingRods_36 rfl rfl ?_
        refine N_iald sk_14 v5E (by (first | decide +kernel | omega)) d_County_fittingRods_37 (fun z12 z12Z z12E z12e => ?_)
        refine V_aload_n 0 d_County_fittingRods_38 rfl rfl ?_
        refine V_getR fa_County_28 sk_0 rfl d_County_fittingRods_39 ?_
        refine V_getR fa_County_69 sk_12 rfl d_County_fittingRods_42 ?_
        refine V_iload_n 2 d_County_fittingRods_45 rfl rfl ?_
        refine N_iald sk_15 v5E (by (first | decide +kernel | omega)) d_County_fittingRods_46 (fun z13 z13Z z13E z13e => ?_)
        have hq9 := hy1 (v5Z).toNat (by (first | decide +kernel | omega)) (by rw [tK, tE]; omega)
        rw [← z13e, z13E] at hq9
        refine N_callVI [.int z10, .int z12, .int z13] [] cv_County_72 sk_1 rfl d_County_fittingRods_47 rfl (Nat.le_of_ble_eq_true rfl) (by decide) (by decide) (c_Land_twitchingRodsX_0 h hI z10 z10Z z10E z12 z12Z z12E z13 z13Z z13E (by (first | decide +kernel | omega)) hq9.2 hy0) (fun z14 h15 z14Z z14E p16 => ?_)
        obtain ⟨eh15, p16⟩ := p16
        subst eh15
        refine V_istore_n 3 [some (.ref 0), some (.int v4), some (.int v5), some (.int z14)] d_County_fittingRods_50 rfl (by decide) rfl rfl ?_
        refine V_iload_n 1 d_County_fittingRods_51 rfl rfl ?_
        refine V_aload_n 0 d_County_fittingRods_52 rfl rfl ?_
        refine V_getR fa_County_28 sk_0 rfl d_County_fittingRods_53 ?_
        refine V_getR fa_County_76 sk_12 rfl d_County_fittingRods_56 ?_
        refine V_iload_n 2 d_County_fittingRods_59 rfl rfl ?_
        refine N_iald sk_16 v5E (by (first | decide +kernel | omega)) d_County_fittingRods_60 (fun z17 z17Z z17E z17e => ?_)
        rw [← z17e, z17E] at hq9
        refine V_if_eq 68 z17E d_County_fittingRods_61 (by decide) (fun c18 => ?_) (fun c18 => ?_)
        ·
          refine V_iload_n 3 d_County_fittingRods_68 rfl rfl ?_
          refine V_iconst (-1) d_County_fittingRods_69 (by decide) ?_
          refine N_ixor d_County_fittingRods_70 (fun z19 z19Z z19E z19e => ?_)
          refine N_iand d_County_fittingRods_71 (fun z20 z20Z z20E z20e => ?_)
          refine V_istore_n 1 [some (.ref 0), some (.int z20), some (.int v5), some (.int z14)] d_County_fittingRods_72 rfl (by decide) rfl rfl ?_
          obtain ⟨z21, z21E, z21e⟩ : ∃ y : Int32, y.toInt = v5Z + 1 ∧ y = v5 + Int32.ofInt 1 := ⟨_, ti_add v5E (by decide) (by (first | decide +kernel | omega)), rfl⟩
          refine V_iinc 2 [some (.ref 0), some (.int z20), some (.int z21), some (.int z14)] d_County_fittingRods_73 rfl z21e.symm (by decide) rfl rfl ?_
          refine V_goto 5 d_County_fittingRods_76 (by decide) ?_
          refine V_drop 3 [some (.ref 0), some (.int z20), some (.int z21), none] rfl ?_
          exact ihL2 z20 z20Z z21 ((v5Z + 1)) z20E z21E (by (first | decide +kernel | omega)) (FT_n (by (first | decide +kernel | omega)) (by assumption) p16 z10e z10E z12e z12E z13e z13E z17e z17E (by (first | decide +kernel | omega)) z19e z20e) (by (first | decide +kernel | omega))
        ·
          refine V_iload_n 3 d_County_fittingRods_64 rfl rfl ?_
          refine V_goto 71 d_County_fittingRods_65 (by decide) ?_
          refine N_iand d_County_fittingRods_71 (fun z22 z22Z z22E z22e => ?_)
          refine V_istore_n 1 [some (.ref 0), some (.int z22), some (.int v5), some (.int z14)] d_County_fittingRods_72 rfl (by decide) rfl rfl ?_
          obtain ⟨z23, z23E, z23e⟩ : ∃ y : Int32, y.toInt = v5Z + 1 ∧ y = v5 + Int32.ofInt 1 := ⟨_, ti_add v5E (by decide) (by (first | decide +kernel | omega)), rfl⟩
          refine V_iinc 2 [some (.ref 0), some (.int z22), some (.int z23), some (.int z14)] d_County_fittingRods_73 rfl z23e.symm (by decide) rfl rfl ?_
          refine V_goto 5 d_County_fittingRods_76 (by decide) ?_
          refine V_drop 3 [some (.ref 0), some (.int z22), some (.int z23), none] rfl ?_
          exact ihL2 z22 z22Z z23 ((v5Z + 1)) z22E z23E (by (first | decide +kernel | omega)) (FT_1 (by (first | decide +kernel | omega)) (by assumption) p16 z10e z10E z12e z12E z13e z13E z17e z17E (by (first | decide +kernel | omega)) z22e) (by (first | decide +kernel | omega))
  exact L2 (Int.toNat ((8 - 0 : Int) + 1)) 2097151 2097151 0 0 tc_2097151 tc_0 (by (first | decide +kernel | omega)) FT_0 (by (first | decide +kernel | omega))
abbrev q_Rod_naturesX (h : Hp) (t : Int32) (tZ : Int) : Option Value → Hp → Prop := pInt (fun r h' => h = h' ∧ (BP r (NQ (fun a b => ftC h a b tZ.toNat) 21)))
set_option maxRecDepth 100000 in
theorem c_Rod_naturesX (h : Hp) (hI : Inv h) (t : Int32) (tZ : Int) (tE : t.toInt = tZ) (tK : h.1 12 4 = t) (hy0 : ∀ i : Nat, i < 16 → 0 ≤ (h.1 3 i).toInt ∧ (h.1 3 i).toInt ≤ 1) (hy1 : ∀ i : Nat, i < 8 → (i : Int) < (h.1 12 4).toInt → (0 ≤ (h.1 16 i).toInt ∧ (h.1 16 i).toInt ≤ 1) ∧ 0 ≤ (h.1 15 i).toInt) : Ct y_Rod_natures b_Rod_natures 4 (some .int) 3 75 [.ref 85] h (q_Rod_naturesX h t tZ) := by
  refine ct_ow R_Rod [some (.ref 85), none, none, none] rfl (by decide) rfl (Nat.le_of_ble_eq_true rfl) ?_
  have f0 : fr [] h h := fr_rf
  have g1 : 0 ≤ tZ ∧ tZ ≤ 8 := inv_at hI tE tK.symm rfl
  refine V_aload_n 0 d_Rod_natures_0 rfl rfl ?_
  refine V_getR fa_Rod_12 sk_85 rfl d_Rod_natures_1 ?_
  refine N_callVI [] [] cv_Rod_189 sk_0 rfl d_Rod_natures_4 rfl (Nat.le_of_ble_eq_true rfl) (by decide) (by decide) (c_County_fittingRodsX_0 h hI t tZ tE tK hy0 hy1) (fun z2 h3 z2Z z2E p4 => ?_)
  obtain ⟨eh3, p4⟩ := p4
  subst eh3
  refine V_istore_n 1 [some (.ref 85), some (.int z2), none, none] d_Rod_natures_7 rfl (by decide) rfl rfl ?_
  refine V_iconst 0 d_Rod_natures_8 (by decide) ?_
  refine V_istore_n 2 [some (.ref 85), some (.int z2), some (.int 0), none] d_Rod_natures_9 rfl (by decide) rfl rfl ?_
  refine V_iconst 0 d_Rod_natures_10 (by decide) ?_
  refine V_istore_n 3 [some (.ref 85), some (.int z2), some (.int 0), some (.int 0)] d_Rod_natures_11 rfl (by decide) rfl rfl ?_
  have L5 : ∀ (nn : Nat) (v7 : Int32) (v7Z : Int) (v8 : Int32) (v8Z : Int), v7.toInt = v7Z → v8.toInt = v8Z → 0 ≤ v8Z ∧ v8Z ≤ 21 → BP v7 (NQ (fun a b => ftC h a b tZ.toNat) (v8Z).toNat) → 21 - v8Z < (nn : Int) → V R_Rod b_Rod_natures 4 (some .int) 3 75 (q_Rod_naturesX h t tZ) h 12 [some (.ref 85), some (.int z2), some (.int v7), some (.int v8)] [] := by
    intro nn
    induction nn with
    | zero => intro v7 v7Z v8 v8Z v7E v8E q9 q10 hm11; exact absurd hm11 (by (first | decide +kernel | omega))
    | succ nn ihL5 =>
      intro v7 v7Z v8 v8Z v7E v8E q9 q10 hm11
      refine V_iload_n 3 d_Rod_natures_12 rfl rfl ?_
      refine V_bipush 21 d_Rod_natures_13 (by decide) ?_
      refine V_icmp_ge 41 v8E tc_21 d_Rod_natures_15 (by decide) (fun c12 => ?_) (fun c12 => ?_)
      ·
        refine V_iload_n 2 d_Rod_natures_41 rfl rfl ?_
        exact V_iret rfl d_Rod_natures_42 ⟨v7, rfl, ⟨rfl, (by rw [show (21 : Nat) = (v8Z).toNat by (first | decide +kernel | omega)]; assumption)⟩⟩
      ·
        refine V_iload_n 1 d_Rod_natures_18 rfl rfl ?_
        refine V_iload_n 3 d_Rod_natures_19 rfl rfl ?_
        refine N_ishr d_Rod_natures_20 (fun z13 z13Z z13E z13e => ?_)
        refine V_iconst 1 d_Rod_natures_21 (by decide) ?_
        refine N_iand d_Rod_natures_22 (fun z14 z14Z z14E z14e => ?_)
        have hbit := BP_sh p4 v8E (by (first | decide +kernel | omega)) z13e z14e z14E
        refine V_if_eq 35 z14E d_Rod_natures_23 (by decide) (fun c15 => ?_) (fun c15 => ?_)
        ·
          obtain ⟨z16, z16E, z16e⟩ : ∃ y : Int32, y.toInt = v8Z + 1 ∧ y = v8 + Int32.ofInt 1 := ⟨_, ti_add v8E (by decide) (by (first | decide +kernel | omega)), rfl⟩
          refine V_iinc 3 [some (.ref 85), some (.int z2), some (.int v7), some (.int z16)] d_Rod_natures_35 rfl z16e.symm (by decide) rfl rfl ?_
          refine V_goto 12 d_Rod_natures_38 (by decide) ?_
          exact ihL5 v7 v7Z z16 ((v8Z + 1)) v7E z16E (by (first | decide +kernel | omega)) (NQ_n (F := (fun a b => ftC h a b tZ.toNat)) (by assumption) (by (first | decide +kernel | omega)) (fun q => (hbit.resolve_left (fun w => absurd w.1 (by (first | decide +kernel | omega)))).2 ⟨by (first | decide +kernel | omega), q⟩)) (by (first | decide +kernel | omega))
        ·
          refine V_iload_n 2 d_Rod_natures_26 rfl rfl ?_
          refine V_iconst 1 d_Rod_natures_27 (by decide) ?_
          refine V_iload_n 3 d_Rod_natures_28 rfl rfl ?_
          refine N_callSI [.int v8] [.int 1, .int v7] cs_Rod_192 d_Rod_natures_29 rfl (Nat.le_of_ble_eq_true rfl) (by decide) (by decide) (c_Rod_natureOfX h v8 v8Z v8E (by (first | decide +kernel | omega))) (fun z17 h18 z17Z z17E p19 => ?_)
          obtain ⟨eh18, p19⟩ := p19
          subst eh18
          refine N_ishl d_Rod_natures_32 (fun z20 z20Z z20E z20e => ?_)
          refine N_ior d_Rod_natures_33 (fun z21 z21Z z21E z21e => ?_)
          refine V_istore_n 2 [some (.ref 85), some (.int z2), some (.int z21), some (.int v8)] d_Rod_natures_34 rfl (by decide) rfl rfl ?_
          obtain ⟨z22, z22E, z22e⟩ : ∃ y : Int32, y.toInt = v8Z + 1 ∧ y = v8 + Int32.ofInt 1 := ⟨_, ti_add v8E (by decide) (by (first | decide +kernel | omega)), rfl⟩
          refine V_iinc 3 [some (.ref 85), some (.int z2), some (.int z21), some (.int z22)] d_Rod_natures_35 rfl z22e.symm (by decide) rfl rfl ?_
          refine V_goto 12 d_Rod_natures_38 (by decide) ?_
          exact ihL5 z21 z21Z z22 ((v8Z + 1)) z21E z22E (by (first | decide +kernel | omega)) (NQ_1 (F := (fun a b => ftC h a b tZ.toNat)) (by assumption) (by (first | decide +kernel | omega)) (hbit.resolve_right (fun q => absurd q.1 (by (first | decide +kernel | omega)))).2.2 p19 z20e z21e) (by (first | decide +kernel | omega))
  exact L5 (Int.toNat ((21 - 0 : Int) + 1)) 0 0 0 0 tc_0 tc_0 (by (first | decide +kernel | omega)) NQ_0 (by (first | decide +kernel | omega))
abbrev q_Rod_reachesX (h : Hp) (n : Int32) (nZ : Int) (t : Int32) (tZ : Int) : Option Value → Hp → Prop := pInt (fun r h' => h = h' ∧ ((0 ≤ nZ ∧ nZ ≤ 4) ∧ BP r (RQ (fun a b => ftC h a b tZ.toNat) nZ 21) ∨ ¬ (0 ≤ nZ ∧ nZ ≤ 4) ∧ r.toInt = -1))
set_option maxRecDepth 100000 in
theorem c_Rod_reachesX (h : Hp) (hI : Inv h) (n : Int32) (nZ : Int) (nE : n.toInt = nZ) (t : Int32) (tZ : Int) (tE : t.toInt = tZ) (tK : h.1 12 4 = t) (hy0 : ∀ i : Nat, i < 16 → 0 ≤ (h.1 3 i).toInt ∧ (h.1 3 i).toInt ≤ 1) (hy1 : ∀ i : Nat, i < 8 → (i : Int) < (h.1 12 4).toInt → (0 ≤ (h.1 16 i).toInt ∧ (h.1 16 i).toInt ≤ 1) ∧ 0 ≤ (h.1 15 i).toInt) : Ct y_Rod_reaches b_Rod_reaches 5 (some .int) 3 75 [.ref 85, .int n] h (q_Rod_reachesX h n nZ t tZ) := by
  refine ct_ow R_Rod [some (.ref 85), some (.int n), none, none, none] rfl (by decide) rfl (Nat.le_of_ble_eq_true rfl) ?_
  have f0 : fr [] h h := fr_rf
  have g1 : 0 ≤ tZ ∧ tZ ≤ 8 := inv_at hI tE tK.symm rfl
  refine V_iload_n 1 d_Rod_reaches_0 rfl rfl ?_
  refine N_callSI [.int n] [] cs_Rod_157 d_Rod_reaches_1 rfl (Nat.le_of_ble_eq_true rfl) (by decide) (by decide) (c_Rod_isNature h n nZ nE) (fun z2 h3 z2Z z2E p4 => ?_)
  obtain ⟨eh3, p4⟩ := p4
  subst eh3
  refine V_if_ne 9 z2E d_Rod_reaches_4 (by decide) (fun c5 => ?_) (fun c5 => ?_)
  ·
    refine V_aload_n 0 d_Rod_reaches_9 rfl rfl ?_
    refine V_getR fa_Rod_12 sk_85 rfl d_Rod_reaches_10 ?_
    refine N_callVI [] [] cv_Rod_189 sk_0 rfl d_Rod_reaches_13 rfl (Nat.le_of_ble_eq_true rfl) (by decide) (by decide) (c_County_fittingRodsX_0 h hI t tZ tE tK hy0 hy1) (fun z6 h7 z6Z z6E p8 => ?_)
    obtain ⟨eh7, p8⟩ := p8
    subst eh7
    refine V_istore_n 2 [some (.ref 85), some (.int n), some (.int z6), none, none] d_Rod_reaches_16 rfl (by decide) rfl rfl ?_
    refine V_iconst 0 d_Rod_reaches_17 (by decide) ?_
    refine V_istore_n 3 [some (.ref 85), some (.int n), some (.int z6), some (.int 0), none] d_Rod_reaches_18 rfl (by decide) rfl rfl ?_
    refine V_iconst 0 d_Rod_reaches_19 (by decide) ?_
    refine V_istore 4 [some (.ref 85), some (.int n), some (.int z6), some (.int 0), some (.int 0)] d_Rod_reaches_20 (by decide) rfl rfl ?_
    have L9 : ∀ (nn : Nat) (v11 : Int32) (v11Z : Int) (v12 : Int32) (v12Z : Int), v11.toInt = v11Z → v12.toInt = v12Z → 0 ≤ v12Z ∧ v12Z ≤ 21 → BP v11 (RQ (fun a b => ftC h a b tZ.toNat) nZ (v12Z).toNat) → 21 - v12Z < (nn : Int) → V R_Rod b_Rod_reaches 5 (some .int) 3 75 (q_Rod_reachesX h n nZ t tZ) h 22 [some (.ref 85), some (.int n), some (.int z6), some (.int v11), some (.int v12)] [] := by
      intro nn
      induction nn with
      | zero => intro v11 v11Z v12 v12Z v11E v12E q13 q14 hm15; exact absurd hm15 (by (first | decide +kernel | omega))
      | succ nn ihL9 =>
        intro v11 v11Z v12 v12Z v11E v12E q13 q14 hm15
        refine V_iload d_Rod_reaches_22 rfl ?_
        refine V_bipush 21 d_Rod_reaches_24 (by decide) ?_
        refine V_icmp_ge 61 v12E tc_21 d_Rod_reaches_26 (by decide) (fun c16 => ?_) (fun c16 => ?_)
        ·
          refine V_iload_n 3 d_Rod_reaches_61 rfl rfl ?_
          exact V_iret rfl d_Rod_reaches_62 ⟨v11, rfl, ⟨rfl, (Or.inl ⟨by (first | decide +kernel | omega), by rw [show (21 : Nat) = (v12Z).toNat by (first | decide +kernel | omega)]; assumption⟩)⟩⟩
        ·
          refine V_iload_n 2 d_Rod_reaches_29 rfl rfl ?_
          refine V_iload d_Rod_reaches_30 rfl ?_
          refine N_ishr d_Rod_reaches_32 (fun z17 z17Z z17E z17e => ?_)
          refine V_iconst 1 d_Rod_reaches_33 (by decide) ?_
          refine N_iand d_Rod_reaches_34 (fun z18 z18Z z18E z18e => ?_)
          have hbit := BP_sh p8 v12E (by (first | decide +kernel | omega)) z17e z18e z18E
          refine V_if_eq 55 z18E d_Rod_reaches_35 (by decide) (fun c19 => ?_) (fun c19 => ?_)
          ·
            obtain ⟨z20, z20E, z20e⟩ : ∃ y : Int32, y.toInt = v12Z + 1 ∧ y = v12 + Int32.ofInt 1 := ⟨_, ti_add v12E (by decide) (by (first | decide +kernel | omega)), rfl⟩
            refine V_iinc 4 [some (.ref 85), some (.int n), some (.int z6), some (.int v11), some (.int z20)] d_Rod_reaches_55 rfl z20e.symm (by decide) rfl rfl ?_
            refine V_goto 22 d_Rod_reaches_58 (by decide) ?_
            exact ihL9 v11 v11Z z20 ((v12Z + 1)) v11E z20E (by (first | decide +kernel | omega)) (RQ_n (F := (fun a b => ftC h a b tZ.toNat)) (by assumption) (by (first | decide +kernel | omega)) (fun q => (hbit.resolve_left (fun w => absurd w.1 (by (first | decide +kernel | omega)))).2 ⟨by (first | decide +kernel | omega), q.1⟩)) (by (first | decide +kernel | omega))
          ·
            refine V_iload d_Rod_reaches_38 rfl ?_
            refine N_callSI [.int v12] [] cs_Rod_192 d_Rod_reaches_40 rfl (Nat.le_of_ble_eq_true rfl) (by decide) (by decide) (c_Rod_natureOfX h v12 v12Z v12E (by (first | decide +kernel | omega))) (fun z21 h22 z21Z z21E p23 => ?_)
            obtain ⟨eh22, p23⟩ := p23
            subst eh22
            rw [z21E] at p23
            refine V_iload_n 1 d_Rod_reaches_43 rfl rfl ?_
            refine V_icmp_ne 55 z21E nE d_Rod_reaches_44 (by decide) (fun c24 => ?_) (fun c24 => ?_)
            ·
              obtain ⟨z25, z25E, z25e⟩ : ∃ y : Int32, y.toInt = v12Z + 1 ∧ y = v12 + Int32.ofInt 1 := ⟨_, ti_add v12E (by decide) (by (first | decide +kernel | omega)), rfl⟩
              refine V_iinc 4 [some (.ref 85), some (.int n), some (.int z6), some (.int v11), some (.int z25)] d_Rod_reaches_55 rfl z25e.symm (by decide) rfl rfl ?_
              refine V_goto 22 d_Rod_reaches_58 (by decide) ?_
              exact ihL9 v11 v11Z z25 ((v12Z + 1)) v11E z25E (by (first | decide +kernel | omega)) (RQ_n (F := (fun a b => ftC h a b tZ.toNat)) (by assumption) (by (first | decide +kernel | omega)) (fun q => by have := q.2; omega)) (by (first | decide +kernel | omega))
            ·
              refine V_iload_n 3 d_Rod_reaches_47 rfl rfl ?_
              refine V_iload d_Rod_reaches_48 rfl ?_
              refine N_callSI [.int v12] [.int v11] cs_Rod_196 d_Rod_reaches_50 rfl (Nat.le_of_ble_eq_true rfl) (by decide) (by decide) (c_Rod_reachBitsX h v12 v12Z v12E (by (first | decide +kernel | omega))) (fun z26 h27 z26Z z26E p28 => ?_)
              obtain ⟨eh27, p28⟩ := p28
              subst eh27
              refine N_ior d_Rod_reaches_53 (fun z29 z29Z z29E z29e => ?_)
              refine V_istore_n 3 [some (.ref 85), some (.int n), some (.int z6), some (.int z29), some (.int v12)] d_Rod_reaches_54 rfl (by decide) rfl rfl ?_
              obtain ⟨z30, z30E, z30e⟩ : ∃ y : Int32, y.toInt = v12Z + 1 ∧ y = v12 + Int32.ofInt 1 := ⟨_, ti_add v12E (by decide) (by (first | decide +kernel | omega)), rfl⟩
              refine V_iinc 4 [some (.ref 85), some (.int n), some (.int z6), some (.int z29), some (.int z30)] d_Rod_reaches_55 rfl z30e.symm (by decide) rfl rfl ?_
              refine V_goto 22 d_Rod_reaches_58 (by decide) ?_
              exact ihL9 z29 z29Z z30 ((v12Z + 1)) z29E z30E (by (first | decide +kernel | omega)) (RQ_1 (F := (fun a b => ftC h a b tZ.toNat)) (by assumption) (by (first | decide +kernel | omega)) (hbit.resolve_right (fun q => absurd q.1 (by (first | decide +kernel | omega)))).2.2 (by (first | decide +kernel | omega)) p28 z29e) (by (first | decide +kernel | omega))
    exact L9 (Int.toNat ((21 - 0 : Int) + 1)) 0 0 0 0 tc_0 tc_0 (by (first | decide +kernel | omega)) RQ_0 (by (first | decide +kernel | omega))
  ·
    refine V_iconst (-1) d_Rod_reaches_7 (by decide) ?_
    exact V_iret rfl d_Rod_reaches_8 ⟨(-1), rfl, ⟨rfl, (Or.inr ⟨by (first | decide +kernel | omega), tc_m1⟩)⟩⟩
abbrev q_Mod_doesFitX (h : Hp) (n : Int32) (nZ : Int) (m : Int32) (mZ : Int) (t : Int32) (tZ : Int) : Option Value → Hp → Prop := pInt (fun r h' => h = h' ∧ (twR r (ftM h nZ mZ tZ.toNat)))
set_option maxRecDepth 100000 in
theorem c_Mod_doesFitX (h : Hp) (hI : Inv h) (n : Int32) (nZ : Int) (nE : n.toInt = nZ) (m : Int32) (mZ : Int) (mE : m.toInt = mZ) (t : Int32) (tZ : Int) (tE : t.toInt = tZ) (tK : h.1 117 111 = t) (hy0 : ∀ i : Nat, i < 8 → (i : Int) < (h.1 117 111).toInt → (0 ≤ (h.1 117 (115 + 4 * i)).toInt ∧ (h.1 117 (115 + 4 * i)).toInt ≤ 1) ∧ 0 ≤ (h.1 117 (114 + 4 * i)).toInt) : Ct y_Mod_doesFit b_Mod_doesFit 6 (some .boolean) 1 27 [.ref 116, .int n, .int m] h (q_Mod_doesFitX h n nZ m mZ t tZ) := by
  refine ct_ow R_Mod [some (.ref 116), some (.int n), some (.int m), none, none, none] rfl (by decide) rfl (Nat.le_of_ble_eq_true rfl) ?_
  have f0 : fr [] h h := fr_rf
  have tB : 0 ≤ tZ ∧ tZ ≤ 8 := inv_at hI tE tK.symm rfl
  refine V_iconst 1 d_Mod_doesFit_0 (by decide) ?_
  refine V_istore_n 3 [some (.ref 116), some (.int n), some (.int m), some (.int 1), none, none] d_Mod_doesFit_1 rfl (by decide) rfl rfl ?_
  refine V_iconst 0 d_Mod_doesFit_2 (by decide) ?_
  refine V_istore 4 [some (.ref 116), some (.int n), some (.int m), some (.int 1), some (.int 0), none] d_Mod_doesFit_3 (by decide) rfl rfl ?_
  have L1 : ∀ (nn : Nat) (v3 : Int32) (v3Z : Int) (v4 : Int32) (v4Z : Int), v3.toInt = v3Z → v4.toInt = v4Z → 0 ≤ v4Z ∧ v4Z ≤ tZ → twR v3 (ftM h nZ mZ (v4Z).toNat) → 0 ≤ v3Z ∧ v3Z ≤ 1 → 8 - v4Z < (nn : Int) → V R_Mod b_Mod_doesFit 6 (some .boolean) 1 27 (q_Mod_doesFitX h n nZ m mZ t tZ) h 5 [some (.ref 116), some (.int n), some (.int m), some (.int v3), some (.int v4), none] [] := by
    intro nn
    induction nn with
    | zero => intro v3 v3Z v4 v4Z v3E v4E q5 q6 q7 hm8; exact absurd hm8 (by (first | decide +kernel | omega))
    | succ nn ihL1 =>
      intro v3 v3Z v4 v4Z v3E v4E q5 q6 q7 hm8
      refine V_iload d_Mod_doesFit_5 rfl ?_
      refine V_aload_n 0 d_Mod_doesFit_7 rfl rfl ?_
      refine V_getR fa_Mod_7 sk_116 rfl d_Mod_doesFit_8 ?_
      refine V_bipush 111 d_Mod_doesFit_11 (by decide) ?_
      refine N_ialdK sk_117 tc_111 (by (first | decide +kernel | omega)) d_Mod_doesFit_13 tK ?_
      refine V_icmp_ge 88 v4E tE d_Mod_doesFit_14 (by decide) (fun c10 => ?_) (fun c10 => ?_)
      ·
        refine V_iload_n 3 d_Mod_doesFit_88 rfl rfl ?_
        exact V_zret rfl (by rw [v3E]; omega) d_Mod_doesFit_89 ⟨v3, rfl, ⟨rfl, (by rw [show tZ.toNat = (v4Z).toNat by (first | decide +kernel | omega)]; assumption)⟩⟩
      ·
        refine V_bipush 112 d_Mod_doesFit_17 (by decide) ?_
        refine V_iconst 4 d_Mod_doesFit_19 (by decide) ?_
        refine V_iload d_Mod_doesFit_20 rfl ?_
        refine V_imul tc_4 v4E (by (first | decide +kernel | omega)) d_Mod_doesFit_22 (fun z11 z11e z11E => ?_)
        refine V_iadd tc_112 z11E (by (first | decide +kernel | omega)) d_Mod_doesFit_23 (fun z12 z12e z12E => ?_)
        refine V_istore 5 [some (.ref 116), some (.int n), some (.int m), some (.int v3), some (.int v4), some (.int z12)] d_Mod_doesFit_24 (by decide) rfl rfl ?_
        have hq9 := hy0 (v4Z).toNat (by (first | decide +kernel | omega)) (by rw [tK, tE]; omega)
        refine V_iload_n 3 d_Mod_doesFit_26 rfl rfl ?_
        refine V_if_eq 80 v3E d_Mod_doesFit_27 (by decide) (fun c13 => ?_) (fun c13 => ?_)
        ·
          refine V_iconst 0 d_Mod_doesFit_80 (by decide) ?_
          refine V_istore_n 3 [some (.ref 116), some (.int n), some (.int m), some (.int 0), some (.int v4), some (.int z12)] d_Mod_doesFit_81 rfl (by decide) rfl rfl ?_
          obtain ⟨z14, z14E, z14e⟩ : ∃ y : Int32, y.toInt = v4Z + 1 ∧ y = v4 + Int32.ofInt 1 := ⟨_, ti_add v4E (by decide) (by (first | decide +kernel | omega)), rfl⟩
          refine V_iinc 4 [some (.ref 116), some (.int n), some (.int m), some (.int 0), some (.int z14), some (.int z12)] d_Mod_doesFit_82 rfl z14e.symm (by decide) rfl rfl ?_
          refine V_goto 5 d_Mod_doesFit_85 (by decide) ?_
          refine V_drop 5 [some (.ref 116), some (.int n), some (.int m), some (.int 0), some (.int z14), none] rfl ?_
          exact ihL1 0 0 z14 ((v4Z + 1)) tc_0 z14E (by (first | decide +kernel | omega)) (FM_n (by (first | decide +kernel | omega)) (by assumption) v3E (by (first | decide +kernel | omega))) (by (first | decide +kernel | omega)) (by (first | decide +kernel | omega))
        ·
          refine V_aload_n 0 d_Mod_doesFit_30 rfl rfl ?_
          refine V_iload_n 1 d_Mod_doesFit_31 rfl rfl ?_
          refine V_iload_n 2 d_Mod_doesFit_32 rfl rfl ?_
          refine V_aload_n 0 d_Mod_doesFit_33 rfl rfl ?_
          refine V_getR fa_Mod_7 sk_116 rfl d_Mod_doesFit_34 ?_
          refine V_iload d_Mod_doesFit_37 rfl ?_
          refine N_iald sk_117 z12E (by (first | decide +kernel | omega)) d_Mod_doesFit_39 (fun z15 z15Z z15E z15e => ?_)
          have g16 : 0 ≤ z15Z ∧ z15Z ≤ 15 := inv_at hI z15E z15e (st_c (by (first | decide +kernel | omega)))
          refine V_aload_n 0 d_Mod_doesFit_40 rfl rfl ?_
          refine V_getR fa_Mod_7 sk_116 rfl d_Mod_doesFit_41 ?_
          refine V_iload d_Mod_doesFit_44 rfl ?_
          refine V_iconst 1 d_Mod_doesFit_46 (by decide) ?_
          refine V_iadd z12E tc_1 (by (first | decide +kernel | omega)) d_Mod_doesFit_47 (fun z17 z17e z17E => ?_)
          refine N_iald sk_117 z17E (by (first | decide +kernel | omega)) d_Mod_doesFit_48 (fun z18 z18Z z18E z18e => ?_)
          refine V_aload_n 0 d_Mod_doesFit_49 rfl rfl ?_
          refine V_getR fa_Mod_7 sk_116 rfl d_Mod_doesFit_50 ?_
          refine V_iload d_Mod_doesFit_53 rfl ?_
          refine V_iconst 2 d_Mod_doesFit_55 (by decide) ?_
          refine V_iadd z12E tc_2 (by (first | decide +kernel | omega)) d_Mod_doesFit_56 (fun z19 z19e z19E => ?_)
          refine N_iald sk_117 z19E (by (first | decide +kernel | omega)) d_Mod_doesFit_57 (fun z20 z20Z z20E z20e => ?_)
          rw [show 114 + 4 * (v4Z).toNat = (112 + 4 * v4Z + 2).toNat by (first | decide +kernel | omega), ← z20e, z20E] at hq9
          refine N_callVI [.int n, .int m, .int z15, .int z18, .int z20] [] cv_Mod_229 sk_116 rfl d_Mod_doesFit_58 rfl (Nat.le_of_ble_eq_true rfl) (by decide) (by decide) (c_Mod_doesTwitchX h hI n nZ nE m mZ mE z15 z15Z z15E z18 z18Z z18E z20 z20Z z20E (by (first | decide +kernel | omega)) hq9.2) (fun z21 h22 z21Z z21E p23 => ?_)
          obtain ⟨eh22, p23⟩ := p23
          subst eh22
          have := twR_01 p23
          refine N_callSI [.int z21] [] cs_Mod_196 d_Mod_doesFit_61 rfl (Nat.le_of_ble_eq_true rfl) (by decide) (by decide) (c_Mod_flag h z21 z21Z z21E) (fun z24 h25 z24Z z24E p26 => ?_)
          obtain ⟨eh25, p26⟩ := p26
          subst eh25
          refine V_aload_n 0 d_Mod_doesFit_64 rfl rfl ?_
          refine V_getR fa_Mod_7 sk_116 rfl d_Mod_doesFit_65 ?_
          refine V_iload d_Mod_doesFit_68 rfl ?_
          refine V_iconst 3 d_Mod_doesFit_70 (by decide) ?_
          refine V_iadd z12E tc_3 (by (first | decide +kernel | omega)) d_Mod_doesFit_71 (fun z27 z27e z27E => ?_)
          refine N_iald sk_117 z27E (by (first | decide +kernel | omega)) d_Mod_doesFit_72 (fun z28 z28Z z28E z28e => ?_)
          rw [show 115 + 4 * (v4Z).toNat = (112 + 4 * v4Z + 3).toNat by (first | decide +kernel | omega), ← z28e, z28E] at hq9
          refine V_icmp_ne 80 z24E z28E d_Mod_doesFit_73 (by decide) (fun c29 => ?_) (fun c29 => ?_)
          ·
            refine V_iconst 0 d_Mod_doesFit_80 (by decide) ?_
            refine V_istore_n 3 [some (.ref 116), some (.int n), some (.int m), some (.int 0), some (.int v4), some (.int z12)] d_Mod_doesFit_81 rfl (by decide) rfl rfl ?_
            obtain ⟨z30, z30E, z30e⟩ : ∃ y : Int32, y.toInt = v4Z + 1 ∧ y = v4 + Int32.ofInt 1 := ⟨_, ti_add v4E (by decide) (by (first | decide +kernel | omega)), rfl⟩
            refine V_iinc 4 [some (.ref 116), some (.int n), some (.int m), some (.int 0), some (.int z30), some (.int z12)] d_Mod_doesFit_82 rfl z30e.symm (by decide) rfl rfl ?_
            refine V_goto 5 d_Mod_doesFit_85 (by decide) ?_
            refine V_drop 5 [some (.ref 116), some (.int n), some (.int m), some (.int 0), some (.int z30), none] rfl ?_
            exact ihL1 0 0 z30 ((v4Z + 1)) tc_0 z30E (by (first | decide +kernel | omega)) (FM_s (by (first | decide +kernel | omega)) (by assumption) v3E (by (first | decide +kernel | omega)) p23 z21E p26 z15e z15E z18e z18E z20e z20E z28e z28E hq9.1 z24E tc_0 (by (first | decide +kernel | omega))) (by (first | decide +kernel | omega)) (by (first | decide +kernel | omega))
          ·
            refine V_iconst 1 d_Mod_doesFit_76 (by decide) ?_
            refine V_goto 81 d_Mod_doesFit_77 (by decide) ?_
            refine V_istore_n 3 [some (.ref 116), some (.int n), some (.int m), some (.int 1), some (.int v4), some (.int z12)] d_Mod_doesFit_81 rfl (by decide) rfl rfl ?_
            obtain ⟨z31, z31E, z31e⟩ : ∃ y : Int32, y.toInt = v4Z + 1 ∧ y = v4 + Int32.ofInt 1 := ⟨_, ti_add v4E (by decide) (by (first | decide +kernel | omega)), rfl⟩
            refine V_iinc 4 [some (.ref 116), some (.int n), some (.int m), some (.int 1), some (.int z31), some (.int z12)] d_Mod_doesFit_82 rfl z31e.symm (by decide) rfl rfl ?_
            refine V_goto 5 d_Mod_doesFit_85 (by decide) ?_
            refine V_drop 5 [some (.ref 116), some (.int n), some (.int m), some (.int 1), some (.int z31), none] rfl ?_
            exact ihL1 1 1 z31 ((v4Z + 1)) tc_1 z31E (by (first | decide +kernel | omega)) (FM_s (by (first | decide +kernel | omega)) (by assumption) v3E (by (first | decide +kernel | omega)) p23 z21E p26 z15e z15E z18e z18E z20e z20E z28e z28E hq9.1 z24E tc_1 (by (first | decide +kernel | omega))) (by (first | decide +kernel | omega)) (by (first | decide +kernel | omega))
  exact L1 (Int.toNat ((8 - 0 : Int) + 1)) 1 1 0 0 tc_1 tc_0 (by (first | decide +kernel | omega)) FM_0 (by (first | decide +kernel | omega)) (by (first | decide +kernel | omega))
abbrev q_Mod_reachesOfX (h : Hp) (n : Int32) (nZ : Int) : Option Value → Hp → Prop := pInt (fun r h' => h = h' ∧ (r.toInt = rO nZ))
set_option maxRecDepth 100000 in
theorem c_Mod_reachesOfX (h : Hp) (n : Int32) (nZ : Int) (nE : n.toInt = nZ) : Ct y_Mod_reachesOf b_Mod_reachesOf 1 (some .int) 0 0 [.int n] h (q_Mod_reachesOfX h n nZ) := by
  refine ct_ow R_Mod [some (.int n)] rfl (by decide) rfl (Nat.le_of_ble_eq_true rfl) ?_
  have f0 : fr [] h h := fr_rf
  refine V_iload_n 0 d_Mod_reachesOf_0 rfl rfl ?_
  refine V_if_eq 9 nE d_Mod_reachesOf_1 (by decide) (fun c1 => ?_) (fun c1 => ?_)
  ·
    refine V_bipush 9 d_Mod_reachesOf_9 (by decide) ?_
    refine V_goto 15 d_Mod_reachesOf_11 (by decide) ?_
    exact V_iret rfl d_Mod_reachesOf_15 ⟨9, rfl, ⟨rfl, (by rw [show Int32.toInt 9 = 9 from rfl]; unfold rO; rw [if_pos (by (first | decide +kernel | omega))])⟩⟩
  ·
    refine V_iload_n 0 d_Mod_reachesOf_4 rfl rfl ?_
    refine V_iconst 4 d_Mod_reachesOf_5 (by decide) ?_
    refine V_icmp_ne 14 nE tc_4 d_Mod_reachesOf_6 (by decide) (fun c2 => ?_) (fun c2 => ?_)
    ·
      refine V_iconst 1 d_Mod_reachesOf_14 (by decide) ?_
      exact V_iret rfl d_Mod_reachesOf_15 ⟨1, rfl, ⟨rfl, (by rw [show Int32.toInt 1 = 1 from rfl]; unfold rO; rw [if_neg (by (first | decide +kernel | omega))])⟩⟩
    ·
      refine V_bipush 9 d_Mod_reachesOf_9 (by decide) ?_
      refine V_goto 15 d_Mod_reachesOf_11 (by decide) ?_
      exact V_iret rfl d_Mod_reachesOf_15 ⟨9, rfl, ⟨rfl, (by rw [show Int32.toInt 9 = 9 from rfl]; unfold rO; rw [if_pos (by (first | decide +kernel | omega))])⟩⟩
abbrev q_Mod_naturesX (h : Hp) (t : Int32) (tZ : Int) : Option Value → Hp → Prop := pInt (fun r h' => h = h' ∧ (BP r (MQ2 (fun a b => ftM h a b tZ.toNat) 5 1)))
set_option maxRecDepth 100000 in
theorem c_Mod_naturesX (h : Hp) (hI : Inv h) (t : Int32) (tZ : Int) (tE : t.toInt = tZ) (tK : h.1 117 111 = t) (hy0 : ∀ i : Nat, i < 8 → (i : Int) < (h.1 117 111).toInt → (0 ≤ (h.1 117 (115 + 4 * i)).toInt ∧ (h.1 117 (115 + 4 * i)).toInt ≤ 1) ∧ 0 ≤ (h.1 117 (114 + 4 * i)).toInt) : Ct y_Mod_natures b_Mod_natures 4 (some .int) 2 52 [.ref 116] h (q_Mod_naturesX h t tZ) := by
  refine ct_ow R_Mod [some (.ref 116), none, none, none] rfl (by decide) rfl (Nat.le_of_ble_eq_true rfl) ?_
  have f0 : fr [] h h := fr_rf
  refine V_iconst 0 d_Mod_natures_0 (by decide) ?_
  refine V_istore_n 1 [some (.ref 116), some (.int 0), none, none] d_Mod_natures_1 rfl (by decide) rfl rfl ?_
  refine V_iconst 0 d_Mod_natures_2 (by decide) ?_
  refine V_istore_n 2 [some (.ref 116), some (.int 0), some (.int 0), none] d_Mod_natures_3 rfl (by decide) rfl rfl ?_
  have L1 : ∀ (nn : Nat) (v3 : Int32) (v3Z : Int) (v4 : Int32) (v4Z : Int), v3.toInt = v3Z → v4.toInt = v4Z → 0 ≤ v4Z ∧ v4Z ≤ 5 → BP v3 (MQ2 (fun a b => ftM h a b tZ.toNat) v4Z 1) → 5 - v4Z < (nn : Int) → V R_Mod b_Mod_natures 4 (some .int) 2 52 (q_Mod_naturesX h t tZ) h 4 [some (.ref 116), some (.int v3), some (.int v4), none] [] := by
    intro nn
    induction nn with
    | zero => intro v3 v3Z v4 v4Z v3E v4E q5 q6 hm7; exact absurd hm7 (by (first | decide +kernel | omega))
    | succ nn ihL1 =>
      intro v3 v3Z v4 v4Z v3E v4E q5 q6 hm7
      refine V_iload_n 2 d_Mod_natures_4 rfl rfl ?_
      refine V_iconst 4 d_Mod_natures_5 (by decide) ?_
      refine V_icmp_gt 45 v4E tc_4 d_Mod_natures_6 (by decide) (fun c8 => ?_) (fun c8 => ?_)
      ·
        refine V_iload_n 1 d_Mod_natures_45 rfl rfl ?_
        exact V_iret rfl d_Mod_natures_46 ⟨v3, rfl, ⟨rfl, (by rw [show (5 : Int) = v4Z by (first | decide +kernel | omega)]; assumption)⟩⟩
      ·
        refine V_iconst 1 d_Mod_natures_9 (by decide) ?_
        refine V_istore_n 3 [some (.ref 116), some (.int v3), some (.int v4), some (.int 1)] d_Mod_natures_10 rfl (by decide) rfl rfl ?_
        have L9 : ∀ (nn : Nat) (v11 : Int32) (v11Z : Int) (v12 : Int32) (v12Z : Int), v11.toInt = v11Z → v12.toInt = v12Z → 1 ≤ v12Z ∧ v12Z ≤ 10 → BP v11 (MQ2 (fun a b => ftM h a b tZ.toNat) v4Z v12Z) → v12Z ≤ rO v4Z + 1 → 10 - v12Z < (nn : Int) → V R_Mod b_Mod_natures 4 (some .int) 2 52 (q_Mod_naturesX h t tZ) h 11 [some (.ref 116), some (.int v11), some (.int v4), some (.int v12)] [] := by
          intro nn
          induction nn with
          | zero => intro v11 v11Z v12 v12Z v11E v12E q13 q14 q15 hm16; exact absurd hm16 (by (first | decide +kernel | omega))
          | succ nn ihL9 =>
            intro v11 v11Z v12 v12Z v11E v12E q13 q14 q15 hm16
            refine V_iload_n 3 d_Mod_natures_11 rfl rfl ?_
            refine V_iload_n 2 d_Mod_natures_12 rfl rfl ?_
            refine N_callSI [.int v4] [.int v12] cs_Mod_233 d_Mod_natures_13 rfl (Nat.le_of_ble_eq_true rfl) (by decide) (by decide) (c_Mod_reachesOfX h v4 v4Z v4E) (fun z17 h18 z17Z z17E p19 => ?_)
            obtain ⟨eh18, p19⟩ := p19
            subst eh18
            have hro : z17Z = rO v4Z := z17E.symm.trans p19
            have hr2 : 1 ≤ rO v4Z ∧ rO v4Z ≤ 9 := by unfold rO; split <;> omega
            refine V_icmp_gt 39 v12E z17E d_Mod_natures_16 (by decide) (fun c20 => ?_) (fun c20 => ?_)
            ·
              obtain ⟨z21, z21E, z21e⟩ : ∃ y : Int32, y.toInt = v4Z + 1 ∧ y = v4 + Int32.ofInt 1 := ⟨_, ti_add v4E (by decide) (by (first | decide +kernel | omega)), rfl⟩
              refine V_iinc 2 [some (.ref 116), some (.int v11), some (.int z21), some (.int v12)] d_Mod_natures_39 rfl z21e.symm (by decide) rfl rfl ?_
              refine V_goto 4 d_Mod_natures_42 (by decide) ?_
              refine V_drop 3 [some (.ref 116), some (.int v11), some (.int z21), none] rfl ?_
              exact ihL1 v11 v11Z z21 ((v4Z + 1)) v11E z21E (by (first | decide +kernel | omega)) (MQ2_k (F := (fun a b => ftM h a b tZ.toNat)) (by assumption) (by (first | decide +kernel | omega)) (by (first | decide +kernel | omega)) (by (first | decide +kernel | omega))) (by (first | decide +kernel | omega))
            ·
              refine V_iload_n 1 d_Mod_natures_19 rfl rfl ?_
              refine V_aload_n 0 d_Mod_natures_20 rfl rfl ?_
              refine V_iload_n 2 d_Mod_natures_21 rfl rfl ?_
              refine V_iload_n 3 d_Mod_natures_22 rfl rfl ?_
              refine N_callVI [.int v4, .int v12] [.int v11] cv_Mod_236 sk_116 rfl d_Mod_natures_23 rfl (Nat.le_of_ble_eq_true rfl) (by decide) (by decide) (c_Mod_doesFitX h hI v4 v4Z v4E v12 v12Z v12E t tZ tE tK hy0) (fun z22 h23 z22Z z22E p24 => ?_)
              obtain ⟨eh23, p24⟩ := p24
              subst eh23
              have := twR_01 p24
              refine N_callSI [.int z22] [.int v11] cs_Mod_196 d_Mod_natures_26 rfl (Nat.le_of_ble_eq_true rfl) (by decide) (by decide) (c_Mod_flag h z22 z22Z z22E) (fun z25 h26 z25Z z25E p27 => ?_)
              obtain ⟨eh26, p27⟩ := p27
              subst eh26
              refine V_iload_n 2 d_Mod_natures_29 rfl rfl ?_
              refine N_ishl d_Mod_natures_30 (fun z28 z28Z z28E z28e => ?_)
              refine N_ior d_Mod_natures_31 (fun z29 z29Z z29E z29e => ?_)
              refine V_istore_n 1 [some (.ref 116), some (.int z29), some (.int v4), some (.int v12)] d_Mod_natures_32 rfl (by decide) rfl rfl ?_
              obtain ⟨z30, z30E, z30e⟩ : ∃ y : Int32, y.toInt = v12Z + 1 ∧ y = v12 + Int32.ofInt 1 := ⟨_, ti_add v12E (by decide) (by (first | decide +kernel | omega)), rfl⟩
              refine V_iinc 3 [some (.ref 116), some (.int z29), some (.int v4), some (.int z30)] d_Mod_natures_33 rfl z30e.symm (by decide) rfl rfl ?_
              refine V_goto 11 d_Mod_natures_36 (by decide) ?_
              exact ihL9 z29 z29Z z30 ((v12Z + 1)) z29E z30E (by (first | decide +kernel | omega)) (MQ2_r (F := (fun a b => ftM h a b tZ.toNat)) (by assumption) (twR_fl p24 z22E p27) v4E (by (first | decide +kernel | omega)) (by (first | decide +kernel | omega)) z28e z29e) (by (first | decide +kernel | omega)) (by (first | decide +kernel | omega))
        exact L9 (Int.toNat ((10 - 1 : Int) + 1)) v3 v3Z 1 1 v3E tc_1 (by (first | decide +kernel | omega)) (by assumption) (by unfold rO; split <;> omega) (by (first | decide +kernel | omega))
  exact L1 (Int.toNat ((5 - 0 : Int) + 1)) 0 0 0 0 tc_0 tc_0 (by (first | decide +kernel | omega)) MQ2_0 (by (first | decide +kernel | omega))
abbrev q_Mod_reachesX (h : Hp) (n : Int32) (nZ : Int) (t : Int32) (tZ : Int) : Option Value → Hp → Prop := pInt (fun r h' => h = h' ∧ ((0 ≤ nZ ∧ nZ ≤ 4) ∧ BP r (MR3 (fun a b => ftM h a b tZ.toNat) nZ 10) ∨ ¬ (0 ≤ nZ ∧ nZ ≤ 4) ∧ r.toInt = -1))
set_option maxRecDepth 100000 in
theorem c_Mod_reachesX (h : Hp) (hI : Inv h) (n : Int32) (nZ : Int) (nE : n.toInt = nZ) (t : Int32) (tZ : Int) (tE : t.toInt = tZ) (tK : h.1 117 111 = t) (hy0 : ∀ i : Nat, i < 8 → (i : Int) < (h.1 117 111).toInt → (0 ≤ (h.1 117 (115 + 4 * i)).toInt ∧ (h.1 117 (115 + 4 * i)).toInt ≤ 1) ∧ 0 ≤ (h.1 117 (114 + 4 * i)).toInt) : Ct y_Mod_reaches b_Mod_reaches 4 (some .int) 2 52 [.ref 116, .int n] h (q_Mod_reachesX h n nZ t tZ) := by
  refine ct_ow R_Mod [some (.ref 116), some (.int n), none, none] rfl (by decide) rfl (Nat.le_of_ble_eq_true rfl) ?_
  have f0 : fr [] h h := fr_rf
  refine V_iload_n 1 d_Mod_reaches_0 rfl rfl ?_
  refine V_i2l d_Mod_reaches_1 (fun z1 z1e z1E => ?_)
  have z1F : z1.toInt = nZ := z1E.trans nE
  refine V_lconst 0 d_Mod_reaches_2 (by decide) ?_
  refine V_ldc2 d_Mod_reaches_3 wl_Mod_217 ?_
  refine N_callSI [.long z1, .long 0, .long 4] [] cs_Mod_95 d_Mod_reaches_6 rfl (Nat.le_of_ble_eq_true rfl) (by decide) (by decide) (c_Mod_in h z1 nZ z1F 0 0 tl_0 4 4 tl_4) (fun z2 h3 z2Z z2E p4 => ?_)
  obtain ⟨eh3, p4⟩ := p4
  subst eh3
  refine V_if_ne 14 z2E d_Mod_reaches_9 (by decide) (fun c5 => ?_) (fun c5 => ?_)
  ·
    refine V_iconst 0 d_Mod_reaches_14 (by decide) ?_
    refine V_istore_n 2 [some (.ref 116), some (.int n), some (.int 0), none] d_Mod_reaches_15 rfl (by decide) rfl rfl ?_
    refine V_iconst 1 d_Mod_reaches_16 (by decide) ?_
    refine V_istore_n 3 [some (.ref 116), some (.int n), some (.int 0), some (.int 1)] d_Mod_reaches_17 rfl (by decide) rfl rfl ?_
    have L6 : ∀ (nn : Nat) (v8 : Int32) (v8Z : Int) (v9 : Int32) (v9Z : Int), v8.toInt = v8Z → v9.toInt = v9Z → 1 ≤ v9Z ∧ v9Z ≤ 10 → BP v8 (MR3 (fun a b => ftM h a b tZ.toNat) nZ v9Z) → 10 - v9Z < (nn : Int) → V R_Mod b_Mod_reaches 4 (some .int) 2 52 (q_Mod_reachesX h n nZ t tZ) h 18 [some (.ref 116), some (.int n), some (.int v8), some (.int v9)] [] := by
      intro nn
      induction nn with
      | zero => intro v8 v8Z v9 v9Z v8E v9E q10 q11 hm12; exact absurd hm12 (by (first | decide +kernel | omega))
      | succ nn ihL6 =>
        intro v8 v8Z v9 v9Z v8E v9E q10 q11 hm12
        refine V_iload_n 3 d_Mod_reaches_18 rfl rfl ?_
        refine V_bipush 9 d_Mod_reaches_19 (by decide) ?_
        refine V_icmp_gt 44 v9E tc_9 d_Mod_reaches_21 (by decide) (fun c13 => ?_) (fun c13 => ?_)
        ·
          refine V_iload_n 2 d_Mod_reaches_44 rfl rfl ?_
          exact V_iret rfl d_Mod_reaches_45 ⟨v8, rfl, ⟨rfl, (Or.inl ⟨by (first | decide +kernel | omega), by rw [show (10 : Int) = v9Z by (first | decide +kernel | omega)]; assumption⟩)⟩⟩
        ·
          refine V_iload_n 2 d_Mod_reaches_24 rfl rfl ?_
          refine V_aload_n 0 d_Mod_reaches_25 rfl rfl ?_
          refine V_iload_n 1 d_Mod_reaches_26 rfl rfl ?_
          refine V_iload_n 3 d_Mod_reaches_27 rfl rfl ?_
          refine N_callVI [.int n, .int v9] [.int v8] cv_Mod_236 sk_116 rfl d_Mod_reaches_28 rfl (Nat.le_of_ble_eq_true rfl) (by decide) (by decide) (c_Mod_doesFitX h hI n nZ nE v9 v9Z v9E t tZ tE tK hy0) (fun z14 h15 z14Z z14E p16 => ?_)
          obtain ⟨eh15, p16⟩ := p16
          subst eh15
          have := twR_01 p16
          refine N_callSI [.int z14] [.int v8] cs_Mod_196 d_Mod_reaches_31 rfl (Nat.le_of_ble_eq_true rfl) (by decide) (by decide) (c_Mod_flag h z14 z14Z z14E) (fun z17 h18 z17Z z17E p19 => ?_)
          obtain ⟨eh18, p19⟩ := p19
          subst eh18
          refine V_iload_n 3 d_Mod_reaches_34 rfl rfl ?_
          refine N_ishl d_Mod_reaches_35 (fun z20 z20Z z20E z20e => ?_)
          refine N_ior d_Mod_reaches_36 (fun z21 z21Z z21E z21e => ?_)
          refine V_istore_n 2 [some (.ref 116), some (.int n), some (.int z21), some (.int v9)] d_Mod_reaches_37 rfl (by decide) rfl rfl ?_
          obtain ⟨z22, z22E, z22e⟩ : ∃ y : Int32, y.toInt = v9Z + 1 ∧ y = v9 + Int32.ofInt 1 := ⟨_, ti_add v9E (by decide) (by (first | decide +kernel | omega)), rfl⟩
          refine V_iinc 3 [some (.ref 116), some (.int n), some (.int z21), some (.int z22)] d_Mod_reaches_38 rfl z22e.symm (by decide) rfl rfl ?_
          refine V_goto 18 d_Mod_reaches_41 (by decide) ?_
          exact ihL6 z21 z21Z z22 ((v9Z + 1)) z21E z22E (by (first | decide +kernel | omega)) (MR3_r (F := (fun a b => ftM h a b tZ.toNat)) (by assumption) (twR_fl p16 z14E p19) v9E (by (first | decide +kernel | omega)) z20e z21e) (by (first | decide +kernel | omega))
    exact L6 (Int.toNat ((10 - 1 : Int) + 1)) 0 0 1 1 tc_0 tc_1 (by (first | decide +kernel | omega)) MR3_0 (by (first | decide +kernel | omega))
  ·
    refine V_iconst (-1) d_Mod_reaches_12 (by decide) ?_
    exact V_iret rfl d_Mod_reaches_13 ⟨(-1), rfl, ⟨rfl, (Or.inr ⟨by (first | decide +kernel | omega), tc_m1⟩)⟩⟩
end
section
def sti (v : Int32) : Int32 := v * 1103515245 + 12345
def dr (d : Int32) : Int := ((uN d / 65536 % 32768 : Nat) : Int)
theorem dr_b (d : Int32) : 0 ≤ dr d ∧ dr d ≤ 32767 := by unfold dr; omega
theorem and_15b (x : Nat) : x &&& 32767 = x % 32768 := Nat.and_two_pow_sub_one_eq_mod x 15
theorem drC_of {d x y : Int32} {Y : Int} (e1 : x = (d.toUInt32 >>> (Int32.toUInt32 16 &&& Int32.toUInt32 31)).toInt32) (e2 : y = x &&& 32767) (yE : y.toInt = Y) : Y = dr d := by
  have u1 := uN_ush 16 e1 (by decide)
  have h1 : uN y = uN d / 65536 % 32768 := by rw [e2, uN_and, show uN 32767 = 32767 by decide, and_15b, u1]
  have h2 : uN y < 32768 := by rw [h1]; exact Nat.mod_lt _ (by decide)
  rw [← yE, uN_ti (by (first | decide +kernel | omega)), h1]
  rfl
theorem drM_of {d x y : Int32} {Y : Int} (e1 : x = d >>> (16 &&& 31)) (e2 : y = x &&& 32767) (yE : y.toInt = Y) : Y = dr d := by
  have hz : x.toBitVec = d.toBitVec.sshiftRight 16 := by
    rw [e1, Int32.toBitVec_shiftRight, BitVec.sshiftRight_eq']
    rfl
  have h1 : uN y = uN d / 65536 % 32768 := by
    rw [e2, uN_and, show uN 32767 = 2 ^ 15 - 1 by decide]
    refine Nat.eq_of_testBit_eq (fun j => ?_)
    rw [Nat.testBit_and, Nat.testBit_two_pow_sub_one, show (65536 : Nat) = 2 ^ 16 from rfl, show (32768 : Nat) = 2 ^ 15 from rfl, Nat.testBit_mod_two_pow, Nat.testBit_div_two_pow]
    by_cases q : j < 15
    · have h3 : x.toBitVec.getLsbD j = d.toBitVec.getLsbD (16 + j) := by
        rw [hz, BitVec.getLsbD_sshiftRight, if_pos (by (first | decide +kernel | omega))]
        rw [show decide (32 ≤ j) = false from decide_eq_false (by (first | decide +kernel | omega))]
        rfl
      have h4 : (uN x).testBit j = (uN d).testBit (16 + j) := h3
      rw [h4, decide_eq_true q, Bool.and_true, Bool.true_and, Nat.add_comm]
    · rw [decide_eq_false q, Bool.and_false, Bool.false_and]
  have h2 : uN y < 32768 := by rw [h1]; exact Nat.mod_lt _ (by decide)
  rw [← yE, uN_ti (by (first | decide +kernel | omega)), h1]
  rfl
def lkv (s : Int32) : Nat → Int32
  | 0 => s
  | k + 1 => sti (sti (lkv s k))
def lkB (b : Nat → Int) (W : Int) (s : Int32) : Nat → Nat → Int
  | 0, i => b i
  | k + 1, i => if (i : Int) = dr (sti (lkv s k)) % W then (if lkB b W s k i < dr (sti (sti (lkv s k))) % 9 + 1 then dr (sti (sti (lkv s k))) % 9 + 1 else lkB b W s k i) else lkB b W s k i
/-- the row k of a heap is as so many bores leave it -/
def lkR (b : Nat → Int) (W : Int) (s : Int32) (g : Hp) (k : Nat) (n : Int) : Prop := ∀ i : Nat, i < 16 → (g.1 k i).toInt = lkB b W s n.toNat i
theorem lkR_s {b : Nat → Int} {W n C D X Y Z : Int} {s c1 c2 v y z : Int32} {g g2 : Hp} {k : Nat} (hn : 0 ≤ n) (r : lkR b W s g k n) (hv : v = lkv s n.toNat) (e1 : c1 = sti v) (e2 : c2 = sti c1) (hX : X = dr c1) (hW : 0 < W ∧ W ≤ 16) (hC : C = X % W) (hD : D = dr c2 % 9 + 1) (ye : y = g.1 k C.toNat) (yE : y.toInt = Y) (zE : z.toInt = Z) (hz : Y < D ∧ Z = D ∨ D ≤ Y ∧ Z = Y) (e : g2 = pI g k C.toNat z) : lkR b W s g2 k (n + 1) := fun i hi => by
  rw [show (n + 1).toNat = n.toNat + 1 by (first | decide +kernel | omega), e, pI_at]
  show _ = (if (i : Int) = dr (sti (lkv s n.toNat)) % W then _ else _)
  have b0 := dr_b c1
  have b1 := Int.emod_nonneg X (b := W) (by (first | decide +kernel | omega))
  have b2 := Int.emod_lt_of_pos X (b := W) (by (first | decide +kernel | omega))
  rw [← hv, ← e1, ← e2, ← hX, ← hC, ← hD, ← r i hi]
  by_cases q : (i : Int) = C
  · have qi : i = C.toNat := by (first | decide +kernel | omega)
    rw [if_pos ⟨rfl, qi⟩, if_pos q, qi, ← ye, yE, zE]
    rcases hz with ⟨h1, h2⟩ | ⟨h1, h2⟩
    · rw [if_pos h1, h2]
    · rw [if_neg (by (first | decide +kernel | omega)), h2]
  · rw [if_neg (fun c => q (by (first | decide +kernel | omega))), if_neg q]
theorem lkv_s {s v c1 c2 : Int32} {n : Int} (hn : 0 ≤ n) (hv : v = lkv s n.toNat) (e1 : c1 = sti v) (e2 : c2 = sti c1) : c2 = lkv s (n + 1).toNat := by
  rw [show (n + 1).toNat = n.toNat + 1 by (first | decide +kernel | omega)]
  show c2 = sti (sti (lkv s n.toNat))
  rw [← hv, ← e1, e2]
def LW (w : Nat → Int32) (f : Nat → Int) (n : Int) (j : Nat) : Bool := decide ((j : Int) < n ∧ 0 < (w j).toInt ∧ (w j).toInt ≤ f j)
theorem LW_W {w w2 b : Nat → Int32} {f : Nat → Int} {n : Int} (hn : n ≤ 16) (hw : ∀ i : Nat, i < 16 → w i = w2 i) (hb : ∀ i : Nat, i < 16 → (b i).toInt = f i) (j : Nat) : WQ w b n j = LW w2 f n j := by
  unfold WQ LW
  by_cases q : (j : Int) < n
  · rw [hw j (by (first | decide +kernel | omega)), hb j (by (first | decide +kernel | omega))]
  · exact decide_eq_decide.mpr ⟨fun k => absurd k.1 q, fun k => absurd k.1 q⟩
/-- the spare county's water -/
def lw9 (h g : Hp) : Prop := ∀ i : Nat, i < 16 → g.1 19 i = h.1 2 i
theorem lw9_of {h g : Hp} (c : cpy h g 17 0) : lw9 h g := fun i hi => by
  have := c 2 i (by unfold cpl; omega)
  rw [Nat.zero_add] at this
  exact this
theorem lw9_put {h g g2 : Hp} {k i : Nat} {x : Int32} (r : lw9 h g) (e : g2 = pI g k i x) (hk : k ≠ 19) : lw9 h g2 := fun j hj => by
  rw [e, pI_at, if_neg (fun c => hk c.1.symm)]
  exact r j hj
theorem lkR_0 {h g : Hp} {W : Int} {s : Int32} (c : cpy h g 17 0) : lkR (fun i => (h.1 6 i).toInt) W s g 23 0 := fun i hi => by
  have := c 6 i (by unfold cpl; omega)
  rw [Nat.zero_add] at this
  rw [show g.1 23 i = h.1 6 i from this]
  rfl
/-- the reference's copy of its bores -/
def lc0 (h g : Hp) (n : Int) : Prop := ∀ j : Nat, (j : Int) < n → g.1 127 j = h.1 117 (64 + j)
theorem lc0_0 {h g : Hp} : lc0 h g 0 := fun j hj => by (first | decide +kernel | omega)
theorem lc0_s {h g g2 : Hp} {n : Int} {y : Int32} (r : lc0 h g n) (hn : 0 ≤ n) (e : g2 = pI g 127 n.toNat y) (ye : y = h.1 117 (64 + n).toNat) : lc0 h g2 (n + 1) := fun j hj => by
  rw [e, pI_at]
  by_cases q : j = n.toNat
  · rw [if_pos ⟨rfl, q⟩, ye, q, show (64 + n).toNat = 64 + n.toNat by (first | decide +kernel | omega)]
  · rw [if_neg (fun c => q c.2)]; exact r j (by (first | decide +kernel | omega))
theorem lkR_m {h g : Hp} {W n : Int} {s : Int32} (r : lc0 h g n) (hn : 16 ≤ n) : lkR (fun i => (h.1 117 (64 + i)).toInt) W s g 127 0 := fun i hi => by
  rw [r i (by (first | decide +kernel | omega))]
  rfl
theorem LW_fm {h g : Hp} {b : Nat → Int} {n N W K R F A B : Int} {s x y r z : Int32} (hn : 0 ≤ n ∧ n < N) (hN : N ≤ 16) (q : lkR b W s g 127 K) (xe : x = h.1 117 (0 + n).toNat) (xE : x.toInt = A) (ye : y = g.1 127 n.toNat) (yE : y.toInt = B) (a : r.toInt = 1 ∧ 0 < A ∧ A ≤ B ∨ r.toInt = 0 ∧ (A ≤ 0 ∨ B < A)) (rE : r.toInt = R) (f : R ≠ 0 ∧ z.toInt = 1 ∨ R = 0 ∧ z.toInt = 0) (zE : z.toInt = F) : F = if LW (fun i => h.1 117 i) (lkB b W s K.toNat) N n.toNat then 1 else 0 := by
  rw [show (0 + n).toNat = n.toNat by (first | decide +kernel | omega)] at xe
  have e2 := q n.toNat (by (first | decide +kernel | omega))
  rw [← ye, yE] at e2
  have hW : LW (fun i => h.1 117 i) (lkB b W s K.toNat) N n.toNat = decide (((n.toNat : Nat) : Int) < N ∧ 0 < (h.1 117 n.toNat).toInt ∧ (h.1 117 n.toNat).toInt ≤ lkB b W s K.toNat n.toNat) := rfl
  rw [hW, ← xe, xE, ← e2]
  by_cases c : 0 < A ∧ A ≤ B
  · rw [decide_eq_true ⟨by (first | decide +kernel | omega), c⟩, if_pos rfl]; omega
  · rw [decide_eq_false (fun k => c k.2), if_neg (by decide)]; omega
end
section
abbrev q_Rod_stirredX (h : Hp) (d : Int32) (dZ : Int) : Option Value → Hp → Prop := pInt (fun r h' => h = h' ∧ (r = sti d))
set_option maxRecDepth 100000 in
theorem c_Rod_stirredX (h : Hp) (d : Int32) (dZ : Int) (dE : d.toInt = dZ) : Ct y_Rod_stirred b_Rod_stirred 1 (some .int) 0 0 [.int d] h (q_Rod_stirredX h d dZ) := by
  refine ct_ow R_Rod [some (.int d)] rfl (by decide) rfl (Nat.le_of_ble_eq_true rfl) ?_
  have f0 : fr [] h h := fr_rf
  refine V_iload_n 0 d_Rod_stirred_0 rfl rfl ?_
  refine V_ldcw d_Rod_stirred_1 wc_Rod_321 ?_
  refine N_imulw d_Rod_stirred_4 (fun z1 z1Z z1E z1e => ?_)
  refine V_sipush 12345 d_Rod_stirred_5 (by decide) ?_
  refine N_iaddw d_Rod_stirred_8 (fun z2 z2Z z2E z2e => ?_)
  exact V_iret rfl d_Rod_stirred_9 ⟨z2, rfl, ⟨rfl, (by rw [z2e, z1e]; rfl)⟩⟩
abbrev q_Rod_drawnBitsX (h : Hp) (d : Int32) (dZ : Int) : Option Value → Hp → Prop := pInt (fun r h' => h = h' ∧ (r.toInt = dr d))
set_option maxRecDepth 100000 in
theorem c_Rod_drawnBitsX (h : Hp) (d : Int32) (dZ : Int) (dE : d.toInt = dZ) : Ct y_Rod_drawnBits b_Rod_drawnBits 1 (some .int) 0 0 [.int d] h (q_Rod_drawnBitsX h d dZ) := by
  refine ct_ow R_Rod [some (.int d)] rfl (by decide) rfl (Nat.le_of_ble_eq_true rfl) ?_
  have f0 : fr [] h h := fr_rf
  refine V_iload_n 0 d_Rod_drawnBits_0 rfl rfl ?_
  refine V_bipush 16 d_Rod_drawnBits_1 (by decide) ?_
  refine N_iushr d_Rod_drawnBits_3 (fun z1 z1Z z1E z1e => ?_)
  refine V_sipush 32767 d_Rod_drawnBits_4 (by decide) ?_
  refine N_iand d_Rod_drawnBits_7 (fun z2 z2Z z2E z2e => ?_)
  exact V_iret rfl d_Rod_drawnBits_8 ⟨z2, rfl, ⟨rfl, (z2E.trans (drC_of z1e z2e z2E))⟩⟩
def S_Rod_luckX : List (Nat × Option Nat) := [(17, some 3), (17, some 4), (18, none), (19, none), (20, none), (21, none), (22, none), (23, none), (24, some 4), (25, none), (26, none), (27, none), (28, none), (29, some 4), (30, none), (31, none), (32, none), (33, none)]
abbrev q_Rod_luckX (h : Hp) (a : Int32) (aZ : Int) (n : Int32) (nZ : Int) (w : Int32) (wZ : Int) (g : Int32) (gZ : Int) : Option Value → Hp → Prop := pInt (fun r h' => Inv h' ∧ fr S_Rod_luckX h h' ∧ ((1 ≤ nZ ∧ nZ ≤ 60) ∧ r.toInt = (ct (LW (h.1 2) (lkB (fun i => (h.1 6 i).toInt) (wZ * gZ) a nZ.toNat) (wZ * gZ)) 32 : Nat) ∨ ¬ (1 ≤ nZ ∧ nZ ≤ 60) ∧ r.toInt = -1))
set_option maxRecDepth 100000 in
theorem c_Rod_luckX (h : Hp) (hI : Inv h) (a : Int32) (aZ : Int) (aE : a.toInt = aZ) (n : Int32) (nZ : Int) (nE : n.toInt = nZ) (w : Int32) (wZ : Int) (wE : w.toInt = wZ) (wK : h.1 1 0 = w) (g : Int32) (gZ : Int) (gE : g.toInt = gZ) (gK : h.1 1 1 = g) : Ct y_Rod_luck b_Rod_luck 9 (some .int) 3 102 [.ref 85, .int a, .int n] h (q_Rod_luckX h a aZ n nZ w wZ g gZ) := by
  refine ct_ow R_Rod [some (.ref 85), some (.int a), some (.int n), none, none, none, none, none, none] rfl (by decide) rfl (Nat.le_of_ble_eq_true rfl) ?_
  have f0 : fr S_Rod_luckX h h := fr_rf
  have g1 : 2 ≤ wZ ∧ wZ ≤ 4 := inv_at hI wE wK.symm rfl
  have g2 : 2 ≤ gZ ∧ gZ ≤ 4 := inv_at hI gE gK.symm rfl
  have m24 := mul24 (A := wZ) (B := gZ) (by (first | decide +kernel | omega)) (by (first | decide +kernel | omega))
  refine V_iload_n 2 d_Rod_luck_0 rfl rfl ?_
  refine V_iconst 1 d_Rod_luck_1 (by decide) ?_
  refine V_icmp_lt 11 nE tc_1 d_Rod_luck_2 (by decide) (fun c3 => ?_) (fun c3 => ?_)
  ·
    refine V_iconst (-1) d_Rod_luck_11 (by decide) ?_
    exact V_iret rfl d_Rod_luck_12 ⟨(-1), rfl, ⟨hI, f0, (Or.inr ⟨by (first | decide +kernel | omega), tc_m1⟩)⟩⟩
  ·
    refine V_iload_n 2 d_Rod_luck_5 rfl rfl ?_
    refine V_bipush 60 d_Rod_luck_6 (by decide) ?_
    refine V_icmp_le 13 nE tc_60 d_Rod_luck_8 (by decide) (fun c4 => ?_) (fun c4 => ?_)
    ·
      refine V_aload_n 0 d_Rod_luck_13 rfl rfl ?_
      refine V_getR fa_Rod_16 sk_85 rfl d_Rod_luck_14 ?_
      refine V_aload_n 0 d_Rod_luck_17 rfl rfl ?_
      refine V_getR fa_Rod_12 sk_85 rfl d_Rod_luck_18 ?_
      obtain ⟨z5, z5Z, z5E, z5e⟩ : ∃ (y : Int32) (Y : Int), y.toInt = Y ∧ y = h.1 0 3 := ⟨_, _, rfl, rfl⟩
      obtain ⟨z6, z6Z, z6E, z6e⟩ : ∃ (y : Int32) (Y : Int), y.toInt = Y ∧ y = h.1 0 4 := ⟨_, _, rfl, rfl⟩
      refine N_callVV [.ref 0] [] cv_Rod_84 sk_17 rfl d_Rod_luck_21 rfl (Nat.le_of_ble_eq_true rfl) (by decide) (by decide) (c_County_copyX_1_0 h hI z5 z5Z z5E z5e.symm z6 z6Z z6E z6e.symm) (fun h8 p9 => ?_)
      obtain ⟨hI10, fh8, p9⟩ := p9
      have f11 : fr S_Rod_luckX h h8 := fr_call f0 fh8 rfl
      refine V_aload_n 0 d_Rod_luck_24 rfl rfl ?_
      refine V_getR fa_Rod_16 sk_85 rfl d_Rod_luck_25 ?_
      refine V_getR fa_Rod_91 sk_17 rfl d_Rod_luck_28 ?_
      refine V_astore_n 3 [some (.ref 85), some (.int a), some (.int n), some (.ref 18), none, none, none, none, none] d_Rod_luck_31 rfl (by decide) rfl rfl ?_
      refine V_iconst 1 d_Rod_luck_32 (by decide) ?_
      refine V_aload_n 3 d_Rod_luck_33 rfl rfl ?_
      refine N_callVI [] [.int 1] cv_Rod_204 sk_18 rfl d_Rod_luck_34 rfl (Nat.le_of_ble_eq_true rfl) (by decide) (by decide) (c_Land_cells_1 h8 hI10 w wZ wE ((p9 1 0 (by unfold cpl; omega)).trans wK) g gZ gE ((p9 1 1 (by unfold cpl; omega)).trans gK)) (fun z12 h13 z12Z z12E p14 => ?_)
      obtain ⟨eh13, p14⟩ := p14
      subst eh13
      refine N_max tc_1 z12E wm_Rod_211 d_Rod_luck_37 (Nat.le_of_ble_eq_true rfl) (by decide) wmax1 wM2 wmax3 (fun z15 z15Z z15E z15e z15g => ?_)
      have hcm : z15Z = wZ * gZ := by (first | decide +kernel | omega)
      refine V_istore 4 [some (.ref 85), some (.int a), some (.int n), some (.ref 18), some (.int z15), none, none, none, none] d_Rod_luck_40 (by decide) rfl rfl ?_
      refine V_iload_n 1 d_Rod_luck_42 rfl rfl ?_
      refine V_istore 5 [some (.ref 85), some (.int a), some (.int n), some (.ref 18), some (.int z15), some (.int a), none, none, none] d_Rod_luck_43 (by decide) rfl rfl ?_
      refine V_iconst 0 d_Rod_luck_45 (by decide) ?_
      refine V_istore 6 [some (.ref 85), some (.int a), some (.int n), some (.ref 18), some (.int z15), some (.int a), some (.int 0), none, none] d_Rod_luck_46 (by decide) rfl rfl ?_
      have L16 : ∀ (nn : Nat) (v18 : Int32) (v18Z : Int) (v19 : Int32) (v19Z : Int) (h20 : Hp), v18.toInt = v18Z → v19.toInt = v19Z → Inv h20 → fr S_Rod_luckX h h20 → h20.1 18 0 = w → h20.1 18 1 = g → 0 ≤ v19Z ∧ v19Z ≤ nZ → v18 = lkv a (v19Z).toNat → lkR (fun i => (h.1 6 i).toInt) (wZ * gZ) a h20 23 v19Z → lw9 h h20 → nZ - v19Z < (nn : Int) → V R_Rod b_Rod_luck 9 (some .int) 3 102 (q_Rod_luckX h a aZ n nZ w wZ g gZ) h20 48 [some (.ref 85), some (.int a), some (.int n), some (.ref 18), some (.int z15), some (.int v18), some (.int v19), none, none] [] := by
        intro nn
        induction nn with
        | zero => intro v18 v18Z v19 v19Z h20 v18E v19E Ih20 Fh20 K21 K22 q23 q24 q25 q26 hm27; exact absurd hm27 (by (first | decide +kernel | omega))
        | succ nn ihL16 =>
          intro v18 v18Z v19 v19Z h20 v18E v19E Ih20 Fh20 K21 K22 q23 q24 q25 q26 hm27
          refine V_iload d_Rod_luck_48 rfl ?_
          refine V_iload_n 2 d_Rod_luck_50 rfl rfl ?_
          refine V_icmp_ge 115 v19E nE d_Rod_luck_51 (by decide) (fun c28 => ?_) (fun c28 => ?_)
          ·
            refine V_aload_n 3 d_Rod_luck_115 rfl rfl ?_
            refine N_callVI [] [] cv_Rod_168 sk_18 rfl d_Rod_luck_116 rfl (Nat.le_of_ble_eq_true rfl) (by decide) (by decide) (c_Land_wellsX_1 h20 Ih20 w wZ wE K21 g gZ gE K22) (fun z29 h30 z29Z z29E p31 => ?_)
            obtain ⟨eh30, p31⟩ := p31
            subst eh30
            exact V_iret rfl d_Rod_luck_119 ⟨z29, rfl, ⟨Ih20, Fh20, (Or.inl ⟨by (first | decide +kernel | omega), p31.trans (congrArg (fun q : Nat => (q : Int)) (ct_cg 32 (fun i _ => LW_W (by (first | decide +kernel | omega)) (by assumption) (fun j hj => by rw [show nZ.toNat = (v19Z).toNat by (first | decide +kernel | omega)]; exact (show lkR (fun i => (h.1 6 i).toInt) (wZ * gZ) a h20 23 v19Z from by assumption) j hj) i)))⟩)⟩⟩
          ·
            refine V_iload d_Rod_luck_54 rfl ?_
            refine N_callSI [.int v18] [] cs_Rod_277 d_Rod_luck_56 rfl (Nat.le_of_ble_eq_true rfl) (by decide) (by decide) (c_Rod_stirredX h20 v18 v18Z v18E) (fun z32 h33 z32Z z32E p34 => ?_)
            obtain ⟨eh33, p34⟩ := p34
            subst eh33
            refine V_istore 5 [some (.ref 85), some (.int a), some (.int n), some (.ref 18), some (.int z15), some (.int z32), some (.int v19), none, none] d_Rod_luck_59 (by decide) rfl rfl ?_
            refine V_iload d_Rod_luck_61 rfl ?_
            refine N_callSI [.int z32] [] cs_Rod_280 d_Rod_luck_63 rfl (Nat.le_of_ble_eq_true rfl) (by decide) (by decide) (c_Rod_drawnBitsX h20 z32 z32Z z32E) (fun z35 h36 z35Z z35E p37 => ?_)
            obtain ⟨eh36, p37⟩ := p37
            subst eh36
            have D38 : z35Z = dr z32 := z35E.symm.trans p37
            have g39 := dr_b z32
            refine V_iload d_Rod_luck_66 rfl ?_
            refine N_irem z35E z15E (by (first | decide +kernel | omega)) d_Rod_luck_68 (fun z40 z40e z40E => ?_)
            obtain ⟨z40Z, z40G⟩ : ∃ Y : Int, Y = z35Z % z15Z := ⟨_, rfl⟩
            rw [← z40G] at z40E
            have g41 : 0 ≤ z40Z ∧ z40Z < z15Z := by rw [z40G]; exact ⟨Int.emod_nonneg _ (by (first | decide +kernel | omega)), Int.emod_lt_of_pos _ (by (first | decide +kernel | omega))⟩
            refine V_istore 7 [some (.ref 85), some (.int a), some (.int n), some (.ref 18), some (.int z15), some (.int z32), some (.int v19), some (.int z40), none] d_Rod_luck_69 (by decide) rfl rfl ?_
            refine V_iload d_Rod_luck_71 rfl ?_
            refine N_callSI [.int z32] [] cs_Rod_277 d_Rod_luck_73 rfl (Nat.le_of_ble_eq_true rfl) (by decide) (by decide) (c_Rod_stirredX h20 z32 z32Z z32E) (fun z42 h43 z42Z z42E p44 => ?_)
            obtain ⟨eh43, p44⟩ := p44
            subst eh43
            refine V_istore 5 [some (.ref 85), some (.int a), some (.int n), some (.ref 18), some (.int z15), some (.int z42), some (.int v19), some (.int z40), none] d_Rod_luck_76 (by decide) rfl rfl ?_
            refine V_iload d_Rod_luck_78 rfl ?_
            refine N_callSI [.int z42] [] cs_Rod_280 d_Rod_luck_80 rfl (Nat.le_of_ble_eq_true rfl) (by decide) (by decide) (c_Rod_drawnBitsX h20 z42 z42Z z42E) (fun z45 h46 z45Z z45E p47 => ?_)
            obtain ⟨eh46, p47⟩ := p47
            subst eh46
            have D48 : z45Z = dr z42 := z45E.symm.trans p47
            have g49 := dr_b z42
            refine V_bipush 9 d_Rod_luck_83 (by decide) ?_
            refine N_irem z45E tc_9 (by (first | decide +kernel | omega)) d_Rod_luck_85 (fun z50 z50e z50E => ?_)
            refine V_iconst 1 d_Rod_luck_86 (by decide) ?_
            refine V_iadd z50E tc_1 (by (first | decide +kernel | omega)) d_Rod_luck_87 (fun z51 z51e z51E => ?_)
            refine V_istore 8 [some (.ref 85), some (.int a), some (.int n), some (.ref 18), some (.int z15), some (.int z42), some (.int v19), some (.int z40), some (.int z51)] d_Rod_luck_88 (by decide) rfl rfl ?_
            refine V_aload_n 3 d_Rod_luck_90 rfl rfl ?_
            refine V_getR fa_Rod_141 sk_18 rfl d_Rod_luck_91 ?_
            refine V_iload d_Rod_luck_94 rfl ?_
            refine V_aload_n 3 d_Rod_luck_96 rfl rfl ?_
            refine V_getR fa_Rod_141 sk_18 rfl d_Rod_luck_97 ?_
            refine V_iload d_Rod_luck_100 rfl ?_
            refine N_iald sk_23 z40E (by (first | decide +kernel | omega)) d_Rod_luck_102 (fun z52 z52Z z52E z52e => ?_)
            refine V_iload d_Rod_luck_103 rfl ?_
            refine N_max z52E z51E wm_Rod_211 d_Rod_luck_105 (Nat.le_of_ble_eq_true rfl) (by decide) wmax1 wM2 wmax3 (fun z53 z53Z z53E z53e z53g => ?_)
            refine N_iast sk_23 z40E (by (first | decide +kernel | omega)) d_Rod_luck_108 (fun h54 eh54 => ?_)
            have hI55 : Inv h54 := inv_full Ih20 eh54 rfl
            have f56 : fr S_Rod_luckX h h54 := fr_put Fh20 eh54 rfl
            obtain ⟨z57, z57E, z57e⟩ : ∃ y : Int32, y.toInt = v19Z + 1 ∧ y = v19 + Int32.ofInt 1 := ⟨_, ti_add v19E (by decide) (by (first | decide +kernel | omega)), rfl⟩
            refine V_iinc 6 [some (.ref 85), some (.int a), some (.int n), some (.ref 18), some (.int z15), some (.int z42), some (.int z57), some (.int z40), some (.int z51)] d_Rod_luck_109 rfl z57e.symm (by decide) rfl rfl ?_
            refine V_goto 48 d_Rod_luck_112 (by decide) ?_
            refine V_drop 7 [some (.ref 85), some (.int a), some (.int n), some (.ref 18), some (.int z15), some (.int z42), some (.int z57), none, some (.int z51)] rfl ?_
            refine V_drop 8 [some (.ref 85), some (.int a), some (.int n), some (.ref 18), some (.int z15), some (.int z42), some (.int z57), none, none] rfl ?_
            exact ihL16 z42 z42Z z57 ((v19Z + 1)) h54 z42E z57E hI55 f56 (kn_ne eh54 K21 (by decide)) (kn_ne eh54 K22 (by decide)) (by (first | decide +kernel | omega)) (lkv_s (by (first | decide +kernel | omega)) (by assumption) p34 p44) (lkR_s (X := z35Z) (D := ((z45Z % 9) + 1)) (by (first | decide +kernel | omega)) (by assumption) (by assumption) p34 p44 (by (first | decide +kernel | omega)) (by (first | decide +kernel | omega)) (by rw [← hcm]; exact z40G) (by (first | decide +kernel | omega)) z52e z52E z53E (by (first | decide +kernel | omega)) eh54) (lw9_put (by assumption) eh54 (by decide)) (by (first | decide +kernel | omega))
      exact L16 (Int.toNat ((nZ - 0 : Int) + 1)) a aZ 0 0 h8 aE tc_0 hI10 f11 ((p9 1 0 (by unfold cpl; omega)).trans wK) ((p9 1 1 (by unfold cpl; omega)).trans gK) (by (first | decide +kernel | omega)) rfl (lkR_0 p9) (lw9_of p9) (by (first | decide +kernel | omega))
    ·
      refine V_iconst (-1) d_Rod_luck_11 (by decide) ?_
      exact V_iret rfl d_Rod_luck_12 ⟨(-1), rfl, ⟨hI, f0, (Or.inr ⟨by (first | decide +kernel | omega), tc_m1⟩)⟩⟩
def S_Mod_luckX : List (Nat × Option Nat) := [(127, none)]
abbrev q_Mod_luckX (h : Hp) (a : Int32) (aZ : Int) (n : Int32) (nZ : Int) (w : Int32) (wZ : Int) (g : Int32) (gZ : Int) : Option Value → Hp → Prop := pInt (fun r h' => Inv h' ∧ fr S_Mod_luckX h h' ∧ ((1 ≤ nZ ∧ nZ ≤ 60) ∧ r.toInt = (ct (LW (fun i => h.1 117 i) (lkB (fun i => (h.1 117 (64 + i)).toInt) (wZ * gZ) a nZ.toNat) (wZ * gZ)) (wZ * gZ).toNat : Nat) ∨ ¬ (1 ≤ nZ ∧ nZ ≤ 60) ∧ r.toInt = -1))
set_option maxRecDepth 100000 in
theorem c_Mod_luckX (h : Hp) (hI : Inv h) (a : Int32) (aZ : Int) (aE : a.toInt = aZ) (n : Int32) (nZ : Int) (nE : n.toInt = nZ) (w : Int32) (wZ : Int) (wE : w.toInt = wZ) (wK : h.1 116 2 = w) (g : Int32) (gZ : Int) (gE : g.toInt = gZ) (gK : h.1 116 3 = g) : Ct y_Mod_luck b_Mod_luck 7 (some .int) 1 25 [.ref 116, .int a, .int n] h (q_Mod_luckX h a aZ n nZ w wZ g gZ) := by
  refine ct_ow R_Mod [some (.ref 116), some (.int a), some (.int n), none, none, none, none] rfl (by decide) rfl (Nat.le_of_ble_eq_true rfl) ?_
  have f0 : fr S_Mod_luckX h h := fr_rf
  have g1 : 2 ≤ wZ ∧ wZ ≤ 4 := inv_at hI wE wK.symm rfl
  have g2 : 2 ≤ gZ ∧ gZ ≤ 4 := inv_at hI gE gK.symm rfl
  have m24 := mul24 (A := wZ) (B := gZ) (by (first | decide +kernel | omega)) (by (first | decide +kernel | omega))
  refine V_iload_n 2 d_Mod_luck_0 rfl rfl ?_
  refine V_i2l d_Mod_luck_1 (fun z3 z3e z3E => ?_)
  have z3F : z3.toInt = nZ := z3E.trans nE
  refine V_lconst 1 d_Mod_luck_2 (by decide) ?_
  refine V_ldc2 d_Mod_luck_3 wl_Mod_314 ?_
  refine N_callSI [.long z3, .long 1, .long 60] [] cs_Mod_95 d_Mod_luck_6 rfl (Nat.le_of_ble_eq_true rfl) (by decide) (by decide) (c_Mod_in h z3 nZ z3F 1 1 tl_1 60 60 tl_60) (fun z4 h5 z4Z z4E p6 => ?_)
  obtain ⟨eh5, p6⟩ := p6
  subst eh5
  refine V_if_ne 14 z4E d_Mod_luck_9 (by decide) (fun c7 => ?_) (fun c7 => ?_)
  ·
    refine V_iconst 0 d_Mod_luck_14 (by decide) ?_
    refine V_istore_n 3 [some (.ref 116), some (.int a), some (.int n), some (.int 0), none, none, none] d_Mod_luck_15 rfl (by decide) rfl rfl ?_
    have L8 : ∀ (nn : Nat) (v10 : Int32) (v10Z : Int) (h11 : Hp), v10.toInt = v10Z → Inv h11 → fr S_Mod_luckX h h11 → h11.1 116 2 = w → h11.1 116 3 = g → 0 ≤ v10Z ∧ v10Z ≤ 16 → lc0 h h11 v10Z → 16 - v10Z < (nn : Int) → V R_Mod b_Mod_luck 7 (some .int) 1 25 (q_Mod_luckX h a aZ n nZ w wZ g gZ) h11 16 [some (.ref 116), some (.int a), some (.int n), some (.int v10), none, none, none] [] := by
      intro nn
      induction nn with
      | zero => intro v10 v10Z h11 v10E Ih11 Fh11 K12 K13 q14 q15 hm16; exact absurd hm16 (by (first | decide +kernel | omega))
      | succ nn ihL8 =>
        intro v10 v10Z h11 v10E Ih11 Fh11 K12 K13 q14 q15 hm16
        refine V_iload_n 3 d_Mod_luck_16 rfl rfl ?_
        refine V_bipush 16 d_Mod_luck_17 (by decide) ?_
        refine V_icmp_ge 43 v10E tc_16 d_Mod_luck_19 (by decide) (fun c17 => ?_) (fun c17 => ?_)
        ·
          refine V_iload_n 1 d_Mod_luck_43 rfl rfl ?_
          refine V_istore_n 3 [some (.ref 116), some (.int a), some (.int n), some (.int a), none, none, none] d_Mod_luck_44 rfl (by decide) rfl rfl ?_
          refine V_iconst 0 d_Mod_luck_45 (by decide) ?_
          refine V_istore 4 [some (.ref 116), some (.int a), some (.int n), some (.int a), some (.int 0), none, none] d_Mod_luck_46 (by decide) rfl rfl ?_
          have L18 : ∀ (nn : Nat) (v20 : Int32) (v20Z : Int) (v21 : Int32) (v21Z : Int) (h22 : Hp), v20.toInt = v20Z → v21.toInt = v21Z → Inv h22 → fr S_Mod_luckX h h22 → h22.1 116 2 = w → h22.1 116 3 = g → 0 ≤ v21Z ∧ v21Z ≤ nZ → v20 = lkv a (v21Z).toNat → lkR (fun i => (h.1 117 (64 + i)).toInt) (wZ * gZ) a h22 127 v21Z → nZ - v21Z < (nn : Int) → V R_Mod b_Mod_luck 7 (some .int) 1 25 (q_Mod_luckX h a aZ n nZ w wZ g gZ) h22 48 [some (.ref 116), some (.int a), some (.int n), some (.int v20), some (.int v21), none, none] [] := by
            intro nn
            induction nn with
            | zero => intro v20 v20Z v21 v21Z h22 v20E v21E Ih22 Fh22 K23 K24 q25 q26 q27 hm28; exact absurd hm28 (by (first | decide +kernel | omega))
            | succ nn ihL18 =>
              intro v20 v20Z v21 v21Z h22 v20E v21E Ih22 Fh22 K23 K24 q25 q26 q27 hm28
              refine V_iload d_Mod_luck_48 rfl ?_
              refine V_iload_n 2 d_Mod_luck_50 rfl rfl ?_
              refine V_icmp_ge 141 v21E nE d_Mod_luck_51 (by decide) (fun c29 => ?_) (fun c29 => ?_)
              ·
                have hlk9 : lkR (fun i => (h.1 117 (64 + i)).toInt) (wZ * gZ) a h22 127 nZ := by rw [show nZ = v21Z by (first | decide +kernel | omega)]; assumption
                refine V_iconst 0 d_Mod_luck_141 (by decide) ?_
                refine V_istore 4 [some (.ref 116), some (.int a), some (.int n), some (.int v20), some (.int 0), none, none] d_Mod_luck_142 (by decide) rfl rfl ?_
                refine V_iconst 0 d_Mod_luck_144 (by decide) ?_
                refine V_istore 5 [some (.ref 116), some (.int a), some (.int n), some (.int v20), some (.int 0), some (.int 0), none] d_Mod_luck_145 (by decide) rfl rfl ?_
                have L30 : ∀ (nn : Nat) (v32 : Int32) (v32Z : Int) (v33 : Int32) (v33Z : Int), v32.toInt = v32Z → v33.toInt = v33Z → 0 ≤ v33Z ∧ v33Z ≤ wZ * gZ → v32Z = (ct (LW (fun i => h.1 117 i) (lkB (fun i => (h.1 117 (64 + i)).toInt) (wZ * gZ) a nZ.toNat) (wZ * gZ)) (v33Z).toNat : Nat) → 0 ≤ v32Z ∧ v32Z ≤ v33Z → 16 - v33Z < (nn : Int) → V R_Mod b_Mod_luck 7 (some .int) 1 25 (q_Mod_luckX h a aZ n nZ w wZ g gZ) h22 147 [some (.ref 116), some (.int a), some (.int n), some (.int v20), some (.int v32), some (.int v33), none] [] := by
                  intro nn
                  induction nn with
                  | zero => intro v32 v32Z v33 v33Z v32E v33E q34 q35 q36 hm37; exact absurd hm37 (by (first | decide +kernel | omega))
                  | succ nn ihL30 =>
                    intro v32 v32Z v33 v33Z v32E v33E q34 q35 q36 hm37
                    refine V_iload d_Mod_luck_147 rfl ?_
                    refine V_aload_n 0 d_Mod_luck_149 rfl rfl ?_
                    refine N_callVI [] [.int v33] cv_Mod_183 sk_116 rfl d_Mod_luck_150 rfl (Nat.le_of_ble_eq_true rfl) (by decide) (by decide) (c_Mod_cellMany h22 Ih22 w wZ wE K23 g gZ gE K24) (fun z38 h39 z38Z z38E p40 => ?_)
                    obtain ⟨eh39, p40⟩ := p40
                    subst eh39
                    refine V_icmp_ge 189 v33E z38E d_Mod_luck_153 (by decide) (fun c41 => ?_) (fun c41 => ?_)
                    ·
                      refine V_iload d_Mod_luck_189 rfl ?_
                      exact V_iret rfl d_Mod_luck_191 ⟨v32, rfl, ⟨Ih22, Fh22, (Or.inl ⟨by (first | decide +kernel | omega), by rw [v32E, show (wZ * gZ).toNat = (v33Z).toNat by (first | decide +kernel | omega)]; assumption⟩)⟩⟩
                    ·
                      refine V_iload d_Mod_luck_156 rfl ?_
                      refine V_aload_n 0 d_Mod_luck_158 rfl rfl ?_
                      refine V_getR fa_Mod_7 sk_116 rfl d_Mod_luck_159 ?_
                      refine V_iconst 0 d_Mod_luck_162 (by decide) ?_
                      refine V_iload d_Mod_luck_163 rfl ?_
                      refine V_iadd tc_0 v33E (by (first | decide +kernel | omega)) d_Mod_luck_165 (fun z42 z42e z42E => ?_)
                      refine N_iald sk_117 z42E (by (first | decide +kernel | omega)) d_Mod_luck_166 (fun z43 z43Z z43E z43e => ?_)
                      refine V_aload_n 0 d_Mod_luck_167 rfl rfl ?_
                      refine V_getR fa_Mod_41 sk_116 rfl d_Mod_luck_168 ?_
                      refine V_iload d_Mod_luck_171 rfl ?_
                      refine N_iald sk_127 v33E (by (first | decide +kernel | omega)) d_Mod_luck_173 (fun z44 z44Z z44E z44e => ?_)
                      refine N_callSI [.int z43, .int z44] [.int v32] cs_Mod_188 d_Mod_luck_174 rfl (Nat.le_of_ble_eq_true rfl) (by decide) (by decide) (c_Mod_isWellByX h22 z43 z43Z z43E z44 z44Z z44E) (fun z45 h46 z45Z z45E p47 => ?_)
                      obtain ⟨eh46, p47⟩ := p47
                      subst eh46
                      refine N_callSI [.int z45] [.int v32] cs_Mod_196 d_Mod_luck_177 rfl (Nat.le_of_ble_eq_true rfl) (by decide) (by decide) (c_Mod_flag h22 z45 z45Z z45E) (fun z48 h49 z48Z z48E p50 => ?_)
                      obtain ⟨eh49, p50⟩ := p50
                      subst eh49
                      refine V_iadd v32E z48E (by (first | decide +kernel | omega)) d_Mod_luck_180 (fun z51 z51e z51E => ?_)
                      refine V_istore 4 [some (.ref 116), some (.int a), some (.int n), some (.int v20), some (.int z51), some (.int v33), none] d_Mod_luck_181 (by decide) rfl rfl ?_
                      obtain ⟨z52, z52E, z52e⟩ : ∃ y : Int32, y.toInt = v33Z + 1 ∧ y = v33 + Int32.ofInt 1 := ⟨_, ti_add v33E (by decide) (by (first | decide +kernel | omega)), rfl⟩
                      refine V_iinc 5 [some (.ref 116), some (.int a), some (.int n), some (.int v20), some (.int z51), some (.int z52), none] d_Mod_luck_183 rfl z52e.symm (by decide) rfl rfl ?_
                      refine V_goto 147 d_Mod_luck_186 (by decide) ?_
                      exact ihL30 z51 ((v32Z + z48Z)) z52 ((v33Z + 1)) z51E z52E (by (first | decide +kernel | omega)) (ct_s (by (first | decide +kernel | omega)) (by assumption) (LW_fm (by (first | decide +kernel | omega)) (by (first | decide +kernel | omega)) hlk9 (z43e.trans (Fh22.1 117 _ rfl)) z43E z44e z44E p47 z45E p50 z48E)) (by (first | decide +kernel | omega)) (by (first | decide +kernel | omega))
                exact L30 (Int.toNat ((16 - 0 : Int) + 1)) 0 0 0 0 tc_0 tc_0 (by (first | decide +kernel | omega)) rfl (by (first | decide +kernel | omega)) (by (first | decide +kernel | omega))
              ·
                refine V_iload_n 3 d_Mod_luck_54 rfl rfl ?_
                refine V_ldcw d_Mod_luck_55 wc_Mod_316 ?_
                refine N_imulw d_Mod_luck_58 (fun z53 z53Z z53E z53e => ?_)
                refine V_sipush 12345 d_Mod_luck_59 (by decide) ?_
                refine N_iaddw d_Mod_luck_62 (fun z54 z54Z z54E z54e => ?_)
                have C55 : z54 = sti v20 := by rw [z54e, z53e]; rfl
                refine V_istore_n 3 [some (.ref 116), some (.int a), some (.int n), some (.int z54), some (.int v21), none, none] d_Mod_luck_63 rfl (by decide) rfl rfl ?_
                refine V_iload_n 3 d_Mod_luck_64 rfl rfl ?_
                refine V_bipush 16 d_Mod_luck_65 (by decide) ?_
                refine N_ishr d_Mod_luck_67 (fun z56 z56Z z56E z56e => ?_)
                refine V_sipush 32767 d_Mod_luck_68 (by decide) ?_
                refine N_iand d_Mod_luck_71 (fun z57 z57Z z57E z57e => ?_)
                have g58 := drM_of z56e z57e z57E
                have g59 := dr_b z54
                refine V_aload_n 0 d_Mod_luck_72 rfl rfl ?_
                refine N_callVI [] [.int z57] cv_Mod_183 sk_116 rfl d_Mod_luck_73 rfl (Nat.le_of_ble_eq_true rfl) (by decide) (by decide) (c_Mod_cellMany h22 Ih22 w wZ wE K23 g gZ gE K24) (fun z60 h61 z60Z z60E p62 => ?_)
                obtain ⟨eh61, p62⟩ := p62
                subst eh61
                have hcm : z60Z = wZ * gZ := by (first | decide +kernel | omega)
                refine N_irem z57E z60E (by (first | decide +kernel | omega)) d_Mod_luck_76 (fun z63 z63e z63E => ?_)
                obtain ⟨z63Z, z63G⟩ : ∃ Y : Int, Y = z57Z % z60Z := ⟨_, rfl⟩
                rw [← z63G] at z63E
                have g64 : 0 ≤ z63Z ∧ z63Z < z60Z := by rw [z63G]; exact ⟨Int.emod_nonneg _ (by (first | decide +kernel | omega)), Int.emod_lt_of_pos _ (by (first | decide +kernel | omega))⟩
                refine V_istore 5 [some (.ref 116), some (.int a), some (.int n), some (.int z54), some (.int v21), some (.int z63), none] d_Mod_luck_77 (by decide) rfl rfl ?_
                refine V_iload_n 3 d_Mod_luck_79 rfl rfl ?_
                refine V_ldcw d_Mod_luck_80 wc_Mod_316 ?_
                refine N_imulw d_Mod_luck_83 (fun z65 z65Z z65E z65e => ?_)
                refine V_sipush 12345 d_Mod_luck_84 (by decide) ?_
                refine N_iaddw d_Mod_luck_87 (fun z66 z66Z z66E z66e => ?_)
                have C67 : z66 = sti z54 := by rw [z66e, z65e]; rfl
                refine V_istore_n 3 [some (.ref 116), some (.int a), some (.int n), some (.int z66), some (.int v21), some (.int z63), none] d_Mod_luck_88 rfl (by decide) rfl rfl ?_
                refine V_iload_n 3 d_Mod_luck_89 rfl rfl ?_
                refine V_bipush 16 d_Mod_luck_90 (by decide) ?_
                refine N_ishr d_Mod_luck_92 (fun z68 z68Z z68E z68e => ?_)
                refine V_sipush 32767 d_Mod_luck_93 (by decide) ?_
                refine N_iand d_Mod_luck_96 (fun z69 z69Z z69E z69e => ?_)
                have g70 := drM_of z68e z69e z69E
                have g71 := dr_b z66
                refine V_bipush 9 d_Mod_luck_97 (by decide) ?_
                refine N_irem z69E tc_9 (by (first | decide +kernel | omega)) d_Mod_luck_99 (fun z72 z72e z72E => ?_)
                refine V_iconst 1 d_Mod_luck_100 (by decide) ?_
                refine V_iadd z72E tc_1 (by (first | decide +kernel | omega)) d_Mod_luck_101 (fun z73 z73e z73E => ?_)
                refine V_istore 6 [some (.ref 116), some (.int a), some (.int n), some (.int z66), some (.int v21), some (.int z63), some (.int z73)] d_Mod_luck_102 (by decide) rfl rfl ?_
                refine V_aload_n 0 d_Mod_luck_104 rfl rfl ?_
                refine V_getR fa_Mod_41 sk_116 rfl d_Mod_luck_105 ?_
                refine V_iload d_Mod_luck_108 rfl ?_
                refine V_iload d_Mod_luck_110 rfl ?_
                refine V_aload_n 0 d_Mod_luck_112 rfl rfl ?_
                refine V_getR fa_Mod_41 sk_116 rfl d_Mod_luck_113 ?_
                refine V_iload d_Mod_luck_116 rfl ?_
                refine N_iald sk_127 z63E (by (first | decide +kernel | omega)) d_Mod_luck_118 (fun z74 z74Z z74E z74e => ?_)
                refine V_icmp_le 127 z73E z74E d_Mod_luck_119 (by decide) (fun c75 => ?_) (fun c75 => ?_)
                ·
                  refine V_aload_n 0 d_Mod_luck_127 rfl rfl ?_
                  refine V_getR fa_Mod_41 sk_116 rfl d_Mod_luck_128 ?_
                  refine V_iload d_Mod_luck_131 rfl ?_
                  refine N_iald sk_127 z63E (by (first | decide +kernel | omega)) d_Mod_luck_133 (fun z76 z76Z z76E z76e => ?_)
                  have g77 : z76Z = z74Z := by rw [← z76E, ← z74E, z76e, z74e]
                  refine N_iast sk_127 z63E (by (first | decide +kernel | omega)) d_Mod_luck_134 (fun h78 eh78 => ?_)
                  have hI79 : Inv h78 := inv_full Ih22 eh78 rfl
                  have f80 : fr S_Mod_luckX h h78 := fr_put Fh22 eh78 rfl
                  obtain ⟨z81, z81E, z81e⟩ : ∃ y : Int32, y.toInt = v21Z + 1 ∧ y = v21 + Int32.ofInt 1 := ⟨_, ti_add v21E (by decide) (by (first | decide +kernel | omega)), rfl⟩
                  refine V_iinc 4 [some (.ref 116), some (.int a), some (.int n), some (.int z66), some (.int z81), some (.int z63), some (.int z73)] d_Mod_luck_135 rfl z81e.symm (by decide) rfl rfl ?_
                  refine V_goto 48 d_Mod_luck_138 (by decide) ?_
                  refine V_drop 5 [some (.ref 116), some (.int a), some (.int n), some (.int z66), some (.int z81), none, some (.int z73)] rfl ?_
                  refine V_drop 6 [some (.ref 116), some (.int a), some (.int n), some (.int z66), some (.int z81), none, none] rfl ?_
                  exact ihL18 z66 z66Z z81 ((v21Z + 1)) h78 z66E z81E hI79 f80 (kn_ne eh78 K23 (by decide)) (kn_ne eh78 K24 (by decide)) (by (first | decide +kernel | omega)) (lkv_s (by (first | decide +kernel | omega)) (by assumption) C55 C67) (lkR_s (X := z57Z) (D := ((z69Z % 9) + 1)) (by (first | decide +kernel | omega)) (by assumption) (by assumption) C55 C67 (by (first | decide +kernel | omega)) (by (first | decide +kernel | omega)) (by rw [← hcm]; exact z63G) (by (first | decide +kernel | omega)) z74e z74E z76E (by (first | decide +kernel | omega)) eh78) (by (first | decide +kernel | omega))
                ·
                  refine V_iload d_Mod_luck_122 rfl ?_
                  refine V_goto 134 d_Mod_luck_124 (by decide) ?_
                  refine N_iast sk_127 z63E (by (first | decide +kernel | omega)) d_Mod_luck_134 (fun h82 eh82 => ?_)
                  have hI83 : Inv h82 := inv_full Ih22 eh82 rfl
                  have f84 : fr S_Mod_luckX h h82 := fr_put Fh22 eh82 rfl
                  obtain ⟨z85, z85E, z85e⟩ : ∃ y : Int32, y.toInt = v21Z + 1 ∧ y = v21 + Int32.ofInt 1 := ⟨_, ti_add v21E (by decide) (by (first | decide +kernel | omega)), rfl⟩
                  refine V_iinc 4 [some (.ref 116), some (.int a), some (.int n), some (.int z66), some (.int z85), some (.int z63), some (.int z73)] d_Mod_luck_135 rfl z85e.symm (by decide) rfl rfl ?_
                  refine V_goto 48 d_Mod_luck_138 (by decide) ?_
                  refine V_drop 5 [some (.ref 116), some (.int a), some (.int n), some (.int z66), some (.int z85), none, some (.int z73)] rfl ?_
                  refine V_drop 6 [some (.ref 116), some (.int a), some (.int n), some (.int z66), some (.int z85), none, none] rfl ?_
                  exact ihL18 z66 z66Z z85 ((v21Z + 1)) h82 z66E z85E hI83 f84 (kn_ne eh82 K23 (by decide)) (kn_ne eh82 K24 (by decide)) (by (first | decide +kernel | omega)) (lkv_s (by (first | decide +kernel | omega)) (by assumption) C55 C67) (lkR_s (X := z57Z) (D := ((z69Z % 9) + 1)) (by (first | decide +kernel | omega)) (by assumption) (by assumption) C55 C67 (by (first | decide +kernel | omega)) (by (first | decide +kernel | omega)) (by rw [← hcm]; exact z63G) (by (first | decide +kernel | omega)) z74e z74E z73E (by (first | decide +kernel | omega)) eh82) (by (first | decide +kernel | omega))
          exact L18 (Int.toNat ((nZ - 0 : Int) + 1)) a aZ 0 0 h11 aE tc_0 Ih11 Fh11 K12 K13 (by (first | decide +kernel | omega)) rfl (lkR_m (by assumption) (by (first | decide +kernel | omega))) (by (first | decide +kernel | omega))
        ·
          refine V_aload_n 0 d_Mod_luck_22 rfl rfl ?_
          refine V_getR fa_Mod_41 sk_116 rfl d_Mod_luck_23 ?_
          refine V_iload_n 3 d_Mod_luck_26 rfl rfl ?_
          refine V_aload_n 0 d_Mod_luck_27 rfl rfl ?_
          refine V_getR fa_Mod_7 sk_116 rfl d_Mod_luck_28 ?_
          refine V_bipush 64 d_Mod_luck_31 (by decide) ?_
          refine V_iload_n 3 d_Mod_luck_33 rfl rfl ?_
          refine V_iadd tc_64 v10E (by (first | decide +kernel | omega)) d_Mod_luck_34 (fun z86 z86e z86E => ?_)
          refine N_iald sk_117 z86E (by (first | decide +kernel | omega)) d_Mod_luck_35 (fun z87 z87Z z87E z87e => ?_)
          refine N_iast sk_127 v10E (by (first | decide +kernel | omega)) d_Mod_luck_36 (fun h88 eh88 => ?_)
          have hI89 : Inv h88 := inv_full Ih11 eh88 rfl
          have f90 : fr S_Mod_luckX h h88 := fr_put Fh11 eh88 rfl
          obtain ⟨z91, z91E, z91e⟩ : ∃ y : Int32, y.toInt = v10Z + 1 ∧ y = v10 + Int32.ofInt 1 := ⟨_, ti_add v10E (by decide) (by (first | decide +kernel | omega)), rfl⟩
          refine V_iinc 3 [some (.ref 116), some (.int a), some (.int n), some (.int z91), none, none, none] d_Mod_luck_37 rfl z91e.symm (by decide) rfl rfl ?_
          refine V_goto 16 d_Mod_luck_40 (by decide) ?_
          exact ihL8 z91 ((v10Z + 1)) h88 z91E hI89 f90 (kn_ne eh88 K12 (by decide)) (kn_ne eh88 K13 (by decide)) (by (first | decide +kernel | omega)) (lc0_s (by assumption) (by (first | decide +kernel | omega)) eh88 (z87e.trans (Fh11.1 117 _ rfl))) (by (first | decide +kernel | omega))
    exact L8 (Int.toNat ((16 - 0 : Int) + 1)) 0 0 h tc_0 hI f0 wK gK (by (first | decide +kernel | omega)) lc0_0 (by (first | decide +kernel | omega))
  ·
    refine V_iconst (-1) d_Mod_luck_12 (by decide) ?_
    exact V_iret rfl d_Mod_luck_13 ⟨(-1), rfl, ⟨hI, f0, (Or.inr ⟨by (first | decide +kernel | omega), tc_m1⟩)⟩⟩
end
section
theorem JR_i {h : Hp} (r : JR h) : ∀ i : Nat, i < 16 → 0 ≤ (h.1 3 i).toInt ∧ (h.1 3 i).toInt ≤ 1 := fun i hi => by
  have := r.1.1 i hi
  rw [Nat.zero_add] at this
  exact this
theorem JR_t {h : Hp} (r : JR h) : ∀ i : Nat, i < 8 → (i : Int) < (h.1 12 4).toInt → (0 ≤ (h.1 16 i).toInt ∧ (h.1 16 i).toInt ≤ 1) ∧ 0 ≤ (h.1 15 i).toInt := fun i hi hc => by
  have := r.1.2.2.2.2.2.2 i hi (by rw [Nat.zero_add]; exact hc)
  rw [Nat.zero_add, Nat.zero_add] at this
  exact this
theorem JR_tm {h : Hp} (ra : JA h) (r : JR h) : ∀ i : Nat, i < 8 → (i : Int) < (h.1 117 111).toInt → (0 ≤ (h.1 117 (115 + 4 * i)).toInt ∧ (h.1 117 (115 + 4 * i)).toInt ≤ 1) ∧ 0 ≤ (h.1 117 (114 + 4 * i)).toInt := fun i hi hc => by
  rw [← JA_c111 ra] at hc
  have s := ra.1.2.2 i hi (by rw [Nat.zero_add]; exact hc)
  rw [Nat.zero_add, Nat.zero_add, Nat.zero_add, Nat.zero_add, Nat.zero_add, Nat.zero_add, Nat.zero_add, Nat.zero_add] at s
  rw [← s.2.2.1, ← s.2.2.2]
  exact JR_t r i hi hc
end
section
noncomputable def cP (P : Nat → Prop) : Nat → Nat
  | 0 => 0
  | n + 1 => cP P n + (@ite Nat (P n) (Classical.propDecidable (P n)) 1 0)
theorem cP_t {P : Nat → Prop} {n : Nat} (h : P n) : cP P (n + 1) = cP P n + 1 := by
  show cP P n + (@ite Nat (P n) (Classical.propDecidable (P n)) 1 0) = _
  rw [if_pos h]
theorem cP_f {P : Nat → Prop} {n : Nat} (h : ¬ P n) : cP P (n + 1) = cP P n := by
  show cP P n + (@ite Nat (P n) (Classical.propDecidable (P n)) 1 0) = _
  rw [if_neg h, Nat.add_zero]
theorem cP_cg {P Q : Nat → Prop} : ∀ n : Nat, (∀ i : Nat, i < n → (P i ↔ Q i)) → cP P n = cP Q n := by
  intro n
  induction n with
  | zero => intro _; rfl
  | succ n ih =>
    intro h
    have i1 := ih (fun i hi => h i (by (first | decide +kernel | omega)))
    by_cases q : P n
    · rw [cP_t q, cP_t ((h n (by (first | decide +kernel | omega))).mp q), i1]
    · rw [cP_f q, cP_f (fun w => q ((h n (by (first | decide +kernel | omega))).mpr w)), i1]
theorem cP_le (P : Nat → Prop) : ∀ n : Nat, cP P n ≤ n := by
  intro n
  induction n with
  | zero => exact Nat.le_refl 0
  | succ n ih =>
    by_cases q : P n
    · rw [cP_t q]; omega
    · rw [cP_f q]; omega
theorem cP_sp (P Q : Nat → Prop) : ∀ n : Nat, cP P n = cP (fun i => P i ∧ Q i) n + cP (fun i => P i ∧ ¬ Q i) n := by
  intro n
  induction n with
  | zero => rfl
  | succ n ih =>
    by_cases p : P n
    · by_cases q : Q n
      · rw [cP_t p, cP_t (P := fun i => P i ∧ Q i) ⟨p, q⟩, cP_f (P := fun i => P i ∧ ¬ Q i) (fun w => w.2 q), ih]; omega
      · rw [cP_t p, cP_f (P := fun i => P i ∧ Q i) (fun w => q w.2), cP_t (P := fun i => P i ∧ ¬ Q i) ⟨p, q⟩, ih]; omega
    · rw [cP_f p, cP_f (P := fun i => P i ∧ Q i) (fun w => p w.1), cP_f (P := fun i => P i ∧ ¬ Q i) (fun w => p w.1), ih]
theorem BP_ct {x : Int32} {P : Nat → Prop} (b : BP x P) : pcN 32 (uN x) = cP P 32 := by
  rw [pcN_ct]
  have key : ∀ n : Nat, ct (fun j => (uN x).testBit j) n = cP P n := by
    intro n
    induction n with
    | zero => rfl
    | succ n ih =>
      show ct (fun j => (uN x).testBit j) n + (if (uN x).testBit n then 1 else 0) = _
      by_cases q : P n
      · rw [cP_t q, if_pos ((b n).mpr q), ih]
      · rw [cP_f q, if_neg (fun w => q ((b n).mp w)), ih, Nat.add_zero]
  exact key 32
/-- the reference's count over natures and reaches -/
noncomputable def tt (Q : Int → Int → Prop) : Nat → Nat
  | 0 => 0
  | k + 1 => tt Q k + cP (fun r => Q (k : Int) ((r : Int) + 1)) (rO (k : Int)).toNat
theorem tt_s {Q : Int → Int → Prop} {n : Int} (hn : 0 ≤ n) : tt Q (n + 1).toNat = tt Q n.toNat + cP (fun r => Q n ((r : Int) + 1)) (rO n).toNat := by
  rw [show (n + 1).toNat = n.toNat + 1 by (first | decide +kernel | omega)]
  show tt Q n.toNat + cP (fun r => Q ((n.toNat : Nat) : Int) ((r : Int) + 1)) (rO ((n.toNat : Nat) : Int)).toNat = _
  rw [show ((n.toNat : Nat) : Int) = n by (first | decide +kernel | omega)]
theorem tt_k {Q : Int → Int → Prop} {A K R : Int} (h : A = (tt Q K.toNat + cP (fun r => Q K ((r : Int) + 1)) (R - 1).toNat : Nat)) (hK : 0 ≤ K) (h1 : rO K < R) (h2 : R ≤ rO K + 1) : A = (tt Q (K + 1).toNat : Nat) := by
  rw [tt_s hK, h, show R - 1 = rO K by (first | decide +kernel | omega)]
theorem tt_i {Q : Int → Int → Prop} {A K : Int} (h : A = (tt Q K.toNat : Nat)) : A = (tt Q K.toNat + cP (fun r => Q K ((r : Int) + 1)) ((1 : Int) - 1).toNat : Nat) := h
theorem tt_r {Q : Int → Int → Prop} {A K R Z : Int} {z : Int32} (h : A = (tt Q K.toNat + cP (fun r => Q K ((r : Int) + 1)) (R - 1).toNat : Nat)) (hR : 1 ≤ R) (f : twR z (Q K R)) (zE : z.toInt = Z) : A + Z = (tt Q K.toNat + cP (fun r => Q K ((r : Int) + 1)) (R + 1 - 1).toNat : Nat) := by
  rw [show (R + 1 - 1).toNat = (R - 1).toNat + 1 by (first | decide +kernel | omega)]
  have e : (fun r : Nat => Q K ((r : Int) + 1)) (R - 1).toNat = Q K R := by
    show Q K (((R - 1).toNat : Int) + 1) = Q K R
    rw [show ((R - 1).toNat : Int) + 1 = R by (first | decide +kernel | omega)]
  rcases f with ⟨f1, f2⟩ | ⟨f1, f2⟩
  · rw [cP_t (P := fun r => Q K ((r : Int) + 1)) (Eq.mpr e f2), h]; omega
  · rw [cP_f (P := fun r => Q K ((r : Int) + 1)) (fun w => f2 (Eq.mp e w)), h]; omega
theorem tb_1 {T : Prop} {r : Int32} {R B : Int} (t : twR r T) (rE : r.toInt = R) (hb : 0 ≤ B ∧ B ≤ 1) (e : R = B) : T ↔ B = 1 := by
  rcases t with ⟨a, b⟩ | ⟨a, b⟩
  · exact ⟨fun _ => by (first | decide +kernel | omega), fun _ => b⟩
  · exact ⟨fun q => absurd q b, fun q => by (first | decide +kernel | omega)⟩
theorem tb_0 {T : Prop} {r : Int32} {R B : Int} (t : twR r T) (rE : r.toInt = R) (hb : 0 ≤ B ∧ B ≤ 1) (e : R ≠ B) : ¬ (T ↔ B = 1) := by
  rcases t with ⟨a, b⟩ | ⟨a, b⟩
  · exact fun q => by have := q.mp b; omega
  · exact fun q => b (q.mpr (by (first | decide +kernel | omega)))
def ts (w : Nat → Int) (f0 : Int) : Nat → Int × Int
  | 0 => (f0, -4)
  | t + 1 => if w t < (ts w f0 t).1 then (w t, 10 * ((t / 2 : Nat) : Int) + ((t % 2 : Nat) : Int) + 1) else ts w f0 t
def wCf (g : Nat → Int → Int) (t : Nat) : Int := g (t / 2) (((t % 2 : Nat) : Int) + 1)
theorem wCf_at {g : Nat → Int → Int} {C S : Int} (hC : 0 ≤ C) (hS : 1 ≤ S ∧ S ≤ 2) : wCf g (2 * C + S - 1).toNat = g C.toNat S := by
  unfold wCf
  rw [show (2 * C + S - 1).toNat / 2 = C.toNat by (first | decide +kernel | omega), show (((2 * C + S - 1).toNat % 2 : Nat) : Int) + 1 = S by (first | decide +kernel | omega)]
theorem ts_y {g : Nat → Int → Int} {f0 C S A X : Int} (hC : 0 ≤ C) (hS : 1 ≤ S ∧ S ≤ 2) (ha : A = (ts (wCf g) f0 (2 * C + S - 1).toNat).1) (hx : X = g C.toNat S) (c : X < A) : X = (ts (wCf g) f0 (2 * C + (S + 1) - 1).toNat).1 ∧ 10 * C + S = (ts (wCf g) f0 (2 * C + (S + 1) - 1).toNat).2 := by
  rw [show (2 * C + (S + 1) - 1).toNat = (2 * C + S - 1).toNat + 1 by (first | decide +kernel | omega)]
  have e : ts (wCf g) f0 ((2 * C + S - 1).toNat + 1) = (X, 10 * (((2 * C + S - 1).toNat / 2 : Nat) : Int) + (((2 * C + S - 1).toNat % 2 : Nat) : Int) + 1) := by
    show (if wCf g (2 * C + S - 1).toNat < (ts (wCf g) f0 (2 * C + S - 1).toNat).1 then (wCf g (2 * C + S - 1).toNat, _) else _) = _
    rw [wCf_at hC hS, ← hx, ← ha, if_pos c]
  rw [e]
  exact ⟨rfl, by show 10 * C + S = 10 * (((2 * C + S - 1).toNat / 2 : Nat) : Int) + (((2 * C + S - 1).toNat % 2 : Nat) : Int) + 1; omega⟩
theorem ts_n {g : Nat → Int → Int} {f0 C S A B X : Int} (hC : 0 ≤ C) (hS : 1 ≤ S ∧ S ≤ 2) (ha : A = (ts (wCf g) f0 (2 * C + S - 1).toNat).1) (hb : B = (ts (wCf g) f0 (2 * C + S - 1).toNat).2) (hx : X = g C.toNat S) (c : A ≤ X) : A = (ts (wCf g) f0 (2 * C + (S + 1) - 1).toNat).1 ∧ B = (ts (wCf g) f0 (2 * C + (S + 1) - 1).toNat).2 := by
  rw [show (2 * C + (S + 1) - 1).toNat = (2 * C + S - 1).toNat + 1 by (first | decide +kernel | omega)]
  have e : ts (wCf g) f0 ((2 * C + S - 1).toNat + 1) = ts (wCf g) f0 (2 * C + S - 1).toNat := by
    show (if wCf g (2 * C + S - 1).toNat < (ts (wCf g) f0 (2 * C + S - 1).toNat).1 then _ else _) = _
    rw [wCf_at hC hS, ← hx, ← ha, if_neg (by (first | decide +kernel | omega))]
  rw [e]
  exact ⟨ha, hb⟩
def mx2 (y n : Int) : Int := if n < y then y else n
theorem mx2_1 {y n x : Int} (h : n < y ∧ x = y ∨ y ≤ n ∧ x = n) : x = mx2 y n := by
  unfold mx2
  split <;> omega
def tsr (p : Int × Int) (a : Int) : Int := if p.2 = -4 ∨ a = 0 then p.2 else p.1
theorem tsr_1 {p : Int × Int} {a A B x : Int} (ha : A = p.1) (hb : B = p.2) (h : (B = -4 ∨ a = 0) ∧ x = B ∨ ¬ (B = -4 ∨ a = 0) ∧ x = A) : x = tsr p a := by
  unfold tsr
  rw [← hb, ← ha]
  rcases h with ⟨h1, h2⟩ | ⟨h1, h2⟩
  · rw [if_pos h1, h2]
  · rw [if_neg h1, h2]
/-- the class's and the reference's worst -/
noncomputable def gC (h : Hp) (k : Nat) (o : Int) (c : Nat) (s : Int) : Int := mx2 (cP (fun j => (j < 21 ∧ ftC h (rN j) (rR j) k) ∧ j < 21 ∧ twC h (rN j) (rR j) c o s) 32 : Nat) ((cP (fun j => j < 21 ∧ ftC h (rN j) (rR j) k) 32 : Nat) - (cP (fun j => (j < 21 ∧ ftC h (rN j) (rR j) k) ∧ j < 21 ∧ twC h (rN j) (rR j) c o s) 32 : Nat) : Int)
def QM (h : Hp) (k : Nat) (o : Int) (c : Nat) (s b : Int) (n r : Int) : Prop := ftM h n r k ∧ (twM h n r c o s ↔ b = 1)
noncomputable def gM (h : Hp) (k : Nat) (o : Int) (c : Nat) (s : Int) : Int := mx2 (tt (QM h k o c s 1) 5 : Nat) (tt (QM h k o c s 0) 5 : Nat)
def TSa (G : Prop) (r : Int32) (x : Int) : Prop := G ∧ r.toInt = x ∨ ¬ G ∧ r.toInt = -1
theorem TSa_un {G : Prop} {r s : Int32} {x y : Int} (p : TSa G r x) (q : TSa G s y) (e : G → x = y) : r = s := by
  rcases p with ⟨a, b⟩ | ⟨a, b⟩ <;> rcases q with ⟨c, d⟩ | ⟨c, d⟩
  · exact same_of b (d.trans (e a).symm)
  · exact absurd a c
  · exact absurd c a
  · exact same_of b d
end
section
abbrev q_Rod_testX (h : Hp) (o : Int32) (oZ : Int) (a : Int32) (aZ : Int) (w : Int32) (wZ : Int) (g : Int32) (gZ : Int) (t : Int32) (tZ : Int) : Option Value → Hp → Prop := pInt (fun r h' => h = h' ∧ (TSa ((0 ≤ oZ ∧ oZ ≤ 3) ∧ (aZ = 0 ∨ aZ = 1)) r (tsr (ts (wCf (gC h tZ.toNat oZ)) (cP (fun j => j < 21 ∧ ftC h (rN j) (rR j) tZ.toNat) 32 : Nat) (2 * (wZ * gZ)).toNat) aZ)))
set_option maxRecDepth 100000 in
theorem c_Rod_testX (h : Hp) (hI : Inv h) (o : Int32) (oZ : Int) (oE : o.toInt = oZ) (a : Int32) (aZ : Int) (aE : a.toInt = aZ) (w : Int32) (wZ : Int) (wE : w.toInt = wZ) (wK : h.1 1 0 = w) (g : Int32) (gZ : Int) (gE : g.toInt = gZ) (gK : h.1 1 1 = g) (t : Int32) (tZ : Int) (tE : t.toInt = tZ) (tK : h.1 12 4 = t) (hy0 : ∀ i : Nat, i < 16 → 0 ≤ (h.1 3 i).toInt ∧ (h.1 3 i).toInt ≤ 1) (hy1 : ∀ i : Nat, i < 8 → (i : Int) < (h.1 12 4).toInt → (0 ≤ (h.1 16 i).toInt ∧ (h.1 16 i).toInt ≤ 1) ∧ 0 ≤ (h.1 15 i).toInt) : Ct y_Rod_test b_Rod_test 11 (some .int) 3 75 [.ref 85, .int o, .int a] h (q_Rod_testX h o oZ a aZ w wZ g gZ t tZ) := by
  refine ct_ow R_Rod [some (.ref 85), some (.int o), some (.int a), none, none, none, none, none, none, none, none] rfl (by decide) rfl (Nat.le_of_ble_eq_true rfl) ?_
  have f0 : fr [] h h := fr_rf
  have g1 : 2 ≤ wZ ∧ wZ ≤ 4 := inv_at hI wE wK.symm rfl
  have g2 : 2 ≤ gZ ∧ gZ ≤ 4 := inv_at hI gE gK.symm rfl
  have g3 : 0 ≤ tZ ∧ tZ ≤ 8 := inv_at hI tE tK.symm rfl
  have m24 := mul24 (A := wZ) (B := gZ) (by (first | decide +kernel | omega)) (by (first | decide +kernel | omega))
  refine V_iload_n 1 d_Rod_test_0 rfl rfl ?_
  refine N_callSI [.int o] [] cs_Rod_151 d_Rod_test_1 rfl (Nat.le_of_ble_eq_true rfl) (by decide) (by decide) (c_Rod_isOwner h o oZ oE) (fun z4 h5 z4Z z4E p6 => ?_)
  obtain ⟨eh5, p6⟩ := p6
  subst eh5
  refine V_if_eq 16 z4E d_Rod_test_4 (by decide) (fun c7 => ?_) (fun c7 => ?_)
  ·
    refine V_iconst (-1) d_Rod_test_16 (by decide) ?_
    exact V_iret rfl d_Rod_test_17 ⟨(-1), rfl, ⟨rfl, (Or.inr ⟨by (first | decide +kernel | omega), tc_m1⟩)⟩⟩
  ·
    refine V_iload_n 2 d_Rod_test_7 rfl rfl ?_
    refine V_if_eq 18 aE d_Rod_test_8 (by decide) (fun c8 => ?_) (fun c8 => ?_)
    ·
      refine V_aload_n 0 d_Rod_test_18 rfl rfl ?_
      refine V_getR fa_Rod_12 sk_85 rfl d_Rod_test_19 ?_
      refine N_callVI [] [] cv_Rod_189 sk_0 rfl d_Rod_test_22 rfl (Nat.le_of_ble_eq_true rfl) (by decide) (by decide) (c_County_fittingRodsX_0 h hI t tZ tE tK hy0 hy1) (fun z9 h10 z9Z z9E p11 => ?_)
      obtain ⟨eh10, p11⟩ := p11
      subst eh10
      refine V_istore_n 3 [some (.ref 85), some (.int o), some (.int a), some (.int z9), none, none, none, none, none, none, none] d_Rod_test_25 rfl (by decide) rfl rfl ?_
      refine V_iload_n 3 d_Rod_test_26 rfl rfl ?_
      refine N_callSI [.int z9] [] cs_Rod_199 d_Rod_test_27 rfl (Nat.le_of_ble_eq_true rfl) (by decide) (by decide) (c_Int_bitCountX h z9 z9Z z9E) (fun z12 h13 z12Z z12E p14 => ?_)
      obtain ⟨eh13, p14⟩ := p14
      subst eh13
      have hnow : z12Z = (cP (fun j => j < 21 ∧ ftC h (rN j) (rR j) tZ.toNat) 32 : Nat) := z12E.symm.trans (p14.trans (congrArg (fun q : Nat => (q : Int)) (BP_ct p11)))
      have hnb := cP_le (fun j => j < 21 ∧ ftC h (rN j) (rR j) tZ.toNat) 32
      refine V_istore 4 [some (.ref 85), some (.int o), some (.int a), some (.int z9), some (.int z12), none, none, none, none, none, none] d_Rod_test_30 (by decide) rfl rfl ?_
      refine V_iload d_Rod_test_32 rfl ?_
      refine V_istore 5 [some (.ref 85), some (.int o), some (.int a), some (.int z9), some (.int z12), some (.int z12), none, none, none, none, none] d_Rod_test_34 (by decide) rfl rfl ?_
      refine V_bipush (-4) d_Rod_test_36 (by decide) ?_
      refine V_istore 6 [some (.ref 85), some (.int o), some (.int a), some (.int z9), some (.int z12), some (.int z12), some (.int (-4)), none, none, none, none] d_Rod_test_38 (by decide) rfl rfl ?_
      refine V_iconst 0 d_Rod_test_40 (by decide) ?_
      refine V_istore 7 [some (.ref 85), some (.int o), some (.int a), some (.int z9), some (.int z12), some (.int z12), some (.int (-4)), some (.int 0), none, none, none] d_Rod_test_41 (by decide) rfl rfl ?_
      have L15 : ∀ (nn : Nat) (v17 : Int32) (v17Z : Int) (v18 : Int32) (v18Z : Int) (v19 : Int32) (v19Z : Int), v17.toInt = v17Z → v18.toInt = v18Z → v19.toInt = v19Z → 0 ≤ v19Z ∧ v19Z ≤ wZ * gZ → v17Z = (ts (wCf (gC h tZ.toNat oZ)) (cP (fun j => j < 21 ∧ ftC h (rN j) (rR j) tZ.toNat) 32 : Nat) (2 * (v19Z)).toNat).1 → v18Z = (ts (wCf (gC h tZ.toNat oZ)) (cP (fun j => j < 21 ∧ ftC h (rN j) (rR j) tZ.toNat) 32 : Nat) (2 * (v19Z)).toNat).2 → 16 - v19Z < (nn : Int) → V R_Rod b_Rod_test 11 (some .int) 3 75 (q_Rod_testX h o oZ a aZ w wZ g gZ t tZ) h 43 [some (.ref 85), some (.int o), some (.int a), some (.int z9), some (.int z12), some (.int v17), some (.int v18), some (.int v19), none, none, none] [] := by
        intro nn
        induction nn with
        | zero => intro v17 v17Z v18 v18Z v19 v19Z v17E v18E v19E q20 q21 q22 hm23; exact absurd hm23 (by (first | decide +kernel | omega))
        | succ nn ihL15 =>
          intro v17 v17Z v18 v18Z v19 v19Z v17E v18E v19E q20 q21 q22 hm23
          refine V_iload d_Rod_test_43 rfl ?_
          refine V_aload_n 0 d_Rod_test_45 rfl rfl ?_
          refine V_getR fa_Rod_12 sk_85 rfl d_Rod_test_46 ?_
          refine V_getR fa_Rod_91 sk_0 rfl d_Rod_test_49 ?_
          refine N_callVI [] [.int v19] cv_Rod_204 sk_1 rfl d_Rod_test_52 rfl (Nat.le_of_ble_eq_true rfl) (by decide) (by decide) (c_Land_cells_0 h hI w wZ wE wK g gZ gE gK) (fun z24 h25 z24Z z24E p26 => ?_)
          obtain ⟨eh25, p26⟩ := p26
          subst eh25
          refine V_icmp_ge 134 v19E z24E d_Rod_test_55 (by decide) (fun c27 => ?_) (fun c27 => ?_)
          ·
            refine V_iload d_Rod_test_134 rfl ?_
            refine V_bipush (-4) d_Rod_test_136 (by decide) ?_
            refine V_icmp_eq 145 v18E tc_m4 d_Rod_test_138 (by decide) (fun c28 => ?_) (fun c28 => ?_)
            ·
              refine V_iload d_Rod_test_145 rfl ?_
              refine V_goto 152 d_Rod_test_147 (by decide) ?_
              exact V_iret rfl d_Rod_test_152 ⟨v18, rfl, ⟨rfl, (Or.inl ⟨by (first | decide +kernel | omega), tsr_1 (A := v17Z) (B := v18Z) (by rw [show (2 * (wZ * gZ)).toNat = (2 * (v19Z)).toNat by (first | decide +kernel | omega)]; assumption) (by rw [show (2 * (wZ * gZ)).toNat = (2 * (v19Z)).toNat by (first | decide +kernel | omega)]; assumption) (by (try rw [v18E]); omega)⟩)⟩⟩
            ·
              refine V_iload_n 2 d_Rod_test_141 rfl rfl ?_
              refine V_if_ne 150 aE d_Rod_test_142 (by decide) (fun c29 => ?_) (fun c29 => ?_)
              ·
                refine V_iload d_Rod_test_150 rfl ?_
                exact V_iret rfl d_Rod_test_152 ⟨v17, rfl, ⟨rfl, (Or.inl ⟨by (first | decide +kernel | omega), tsr_1 (A := v17Z) (B := v18Z) (by rw [show (2 * (wZ * gZ)).toNat = (2 * (v19Z)).toNat by (first | decide +kernel | omega)]; assumption) (by rw [show (2 * (wZ * gZ)).toNat = (2 * (v19Z)).toNat by (first | decide +kernel | omega)]; assumption) (by (try rw [v17E]); omega)⟩)⟩⟩
              ·
                refine V_iload d_Rod_test_145 rfl ?_
                refine V_goto 152 d_Rod_test_147 (by decide) ?_
                exact V_iret rfl d_Rod_test_152 ⟨v18, rfl, ⟨rfl, (Or.inl ⟨by (first | decide +kernel | omega), tsr_1 (A := v17Z) (B := v18Z) (by rw [show (2 * (wZ * gZ)).toNat = (2 * (v19Z)).toNat by (first | decide +kernel | omega)]; assumption) (by rw [show (2 * (wZ * gZ)).toNat = (2 * (v19Z)).toNat by (first | decide +kernel | omega)]; assumption) (by (try rw [v18E]); omega)⟩)⟩⟩
          ·
            refine V_iconst 1 d_Rod_test_58 (by decide) ?_
            refine V_istore 8 [some (.ref 85), some (.int o), some (.int a), some (.int z9), some (.int z12), some (.int v17), some (.int v18), some (.int v19), some (.int 1), none, none] d_Rod_test_59 (by decide) rfl rfl ?_
            have L30 : ∀ (nn : Nat) (v32 : Int32) (v32Z : Int) (v33 : Int32) (v33Z : Int) (v34 : Int32) (v34Z : Int), v32.toInt = v32Z → v33.toInt = v33Z → v34.toInt = v34Z → 1 ≤ v34Z ∧ v34Z ≤ 3 → v32Z = (ts (wCf (gC h tZ.toNat oZ)) (cP (fun j => j < 21 ∧ ftC h (rN j) (rR j) tZ.toNat) 32 : Nat) (2 * (v19Z) + v34Z - 1).toNat).1 → v33Z = (ts (wCf (gC h tZ.toNat oZ)) (cP (fun j => j < 21 ∧ ftC h (rN j) (rR j) tZ.toNat) 32 : Nat) (2 * (v19Z) + v34Z - 1).toNat).2 → 3 - v34Z < (nn : Int) → V R_Rod b_Rod_test 11 (some .int) 3 75 (q_Rod_testX h o oZ a aZ w wZ g gZ t tZ) h 61 [some (.ref 85), some (.int o), some (.int a), some (.int z9), some (.int z12), some (.int v32), some (.int v33), some (.int v19), some (.int v34), none, none] [] := by
              intro nn
              induction nn with
              | zero => intro v32 v32Z v33 v33Z v34 v34Z v32E v33E v34E q35 q36 q37 hm38; exact absurd hm38 (by (first | decide +kernel | omega))
              | succ nn ihL30 =>
                intro v32 v32Z v33 v33Z v34 v34Z v32E v33E v34E q35 q36 q37 hm38
                refine V_iload d_Rod_test_61 rfl ?_
                refine V_iconst 2 d_Rod_test_63 (by decide) ?_
                refine V_icmp_gt 128 v34E tc_2 d_Rod_test_64 (by decide) (fun c39 => ?_) (fun c39 => ?_)
                ·
                  obtain ⟨z40, z40E, z40e⟩ : ∃ y : Int32, y.toInt = v19Z + 1 ∧ y = v19 + Int32.ofInt 1 := ⟨_, ti_add v19E (by decide) (by (first | decide +kernel | omega)), rfl⟩
                  refine V_iinc 7 [some (.ref 85), some (.int o), some (.int a), some (.int z9), some (.int z12), some (.int v32), some (.int v33), some (.int z40), some (.int v34), none, none] d_Rod_test_128 rfl z40e.symm (by decide) rfl rfl ?_
                  refine V_goto 43 d_Rod_test_131 (by decide) ?_
                  refine V_drop 8 [some (.ref 85), some (.int o), some (.int a), some (.int z9), some (.int z12), some (.int v32), some (.int v33), some (.int z40), none, none, none] rfl ?_
                  exact ihL15 v32 v32Z v33 v33Z z40 ((v19Z + 1)) v32E v33E z40E (by (first | decide +kernel | omega)) (by rw [show (2 * ((v19Z + 1))).toNat = (2 * (v19Z) + v34Z - 1).toNat by (first | decide +kernel | omega)]; assumption) (by rw [show (2 * ((v19Z + 1))).toNat = (2 * (v19Z) + v34Z - 1).toNat by (first | decide +kernel | omega)]; assumption) (by (first | decide +kernel | omega))
                ·
                  refine V_iload_n 3 d_Rod_test_67 rfl rfl ?_
                  refine V_aload_n 0 d_Rod_test_68 rfl rfl ?_
                  refine V_getR fa_Rod_12 sk_85 rfl d_Rod_test_69 ?_
                  refine V_getR fa_Rod_91 sk_0 rfl d_Rod_test_72 ?_
                  refine V_iload d_Rod_test_75 rfl ?_
                  refine V_iload_n 1 d_Rod_test_77 rfl rfl ?_
                  refine V_iload d_Rod_test_78 rfl ?_
                  refine N_callVI [.int v19, .int o, .int v34] [.int z9] cv_Rod_207 sk_1 rfl d_Rod_test_80 rfl (Nat.le_of_ble_eq_true rfl) (by decide) (by decide) (c_Land_twitchingRodsX_0 h hI v19 v19Z v19E o oZ oE v34 v34Z v34E (by (first | decide +kernel | omega)) (by (first | decide +kernel | omega)) hy0) (fun z41 h42 z41Z z41E p43 => ?_)
                  obtain ⟨eh42, p43⟩ := p43
                  subst eh42
                  refine N_iand d_Rod_test_83 (fun z44 z44Z z44E z44e => ?_)
                  have B45 := BP_and p11 p43
                  rw [← z44e] at B45
                  refine N_callSI [.int z44] [] cs_Rod_199 d_Rod_test_84 rfl (Nat.le_of_ble_eq_true rfl) (by decide) (by decide) (c_Int_bitCountX h z44 z44Z z44E) (fun z46 h47 z46Z z46E p48 => ?_)
                  obtain ⟨eh47, p48⟩ := p48
                  subst eh47
                  have hyes : z46Z = (cP (fun j => (j < 21 ∧ ftC h (rN j) (rR j) tZ.toNat) ∧ j < 21 ∧ twC h (rN j) (rR j) (v19Z).toNat oZ v34Z) 32 : Nat) := z46E.symm.trans (p48.trans (congrArg (fun q : Nat => (q : Int)) (BP_ct B45)))
                  have hyb := cP_le (fun j => (j < 21 ∧ ftC h (rN j) (rR j) tZ.toNat) ∧ j < 21 ∧ twC h (rN j) (rR j) (v19Z).toNat oZ v34Z) 32
                  refine V_istore 9 [some (.ref 85), some (.int o), some (.int a), some (.int z9), some (.int z12), some (.int v32), some (.int v33), some (.int v19), some (.int v34), some (.int z46), none] d_Rod_test_87 (by decide) rfl rfl ?_
                  refine V_iload d_Rod_test_89 rfl ?_
                  refine V_iload d_Rod_test_91 rfl ?_
                  refine V_iload d_Rod_test_93 rfl ?_
                  refine V_isub z12E z46E (by (first | decide +kernel | omega)) d_Rod_test_95 (fun z49 z49e z49E => ?_)
                  refine N_max z46E z49E wm_Rod_211 d_Rod_test_96 (Nat.le_of_ble_eq_true rfl) (by decide) wmax1 wM2 wmax3 (fun z50 z50Z z50E z50e z50g => ?_)
                  have hx9 : z50Z = gC h tZ.toNat oZ (v19Z).toNat v34Z := by unfold gC; rw [← hyes, ← hnow]; exact mx2_1 (by (first | decide +kernel | omega))
                  refine V_istore 10 [some (.ref 85), some (.int o), some (.int a), some (.int z9), some (.int z12), some (.int v32), some (.int v33), some (.int v19), some (.int v34), some (.int z46), some (.int z50)] d_Rod_test_99 (by decide) rfl rfl ?_
                  refine V_iload d_Rod_test_101 rfl ?_
                  refine V_iload d_Rod_test_103 rfl ?_
                  refine V_icmp_ge 122 z50E v32E d_Rod_test_105 (by decide) (fun c51 => ?_) (fun c51 => ?_)
                  ·
                    have hs9 := ts_n (g := gC h tZ.toNat oZ) (f0 := (cP (fun j => j < 21 ∧ ftC h (rN j) (rR j) tZ.toNat) 32 : Nat)) (C := v19Z) (S := v34Z) (by (first | decide +kernel | omega)) (by (first | decide +kernel | omega)) (by assumption) (by assumption) hx9 (by (first | decide +kernel | omega))
                    obtain ⟨z52, z52E, z52e⟩ : ∃ y : Int32, y.toInt = v34Z + 1 ∧ y = v34 + Int32.ofInt 1 := ⟨_, ti_add v34E (by decide) (by (first | decide +kernel | omega)), rfl⟩
                    refine V_iinc 8 [some (.ref 85), some (.int o), some (.int a), some (.int z9), some (.int z12), some (.int v32), some (.int v33), some (.int v19), some (.int z52), some (.int z46), some (.int z50)] d_Rod_test_122 rfl z52e.symm (by decide) rfl rfl ?_
                    refine V_goto 61 d_Rod_test_125 (by decide) ?_
                    refine V_drop 9 [some (.ref 85), some (.int o), some (.int a), some (.int z9), some (.int z12), some (.int v32), some (.int v33), some (.int v19), some (.int z52), none, some (.int z50)] rfl ?_
                    refine V_drop 10 [some (.ref 85), some (.int o), some (.int a), some (.int z9), some (.int z12), some (.int v32), some (.int v33), some (.int v19), some (.int z52), none, none] rfl ?_
                    exact ihL30 v32 v32Z v33 v33Z z52 ((v34Z + 1)) v32E v33E z52E (by (first | decide +kernel | omega)) hs9.1 hs9.2 (by (first | decide +kernel | omega))
                  ·
                    have hs9 := ts_y (g := gC h tZ.toNat oZ) (f0 := (cP (fun j => j < 21 ∧ ftC h (rN j) (rR j) tZ.toNat) 32 : Nat)) (C := v19Z) (S := v34Z) (by (first | decide +kernel | omega)) (by (first | decide +kernel | omega)) (by assumption) hx9 (by (first | decide +kernel | omega))
                    refine V_iload d_Rod_test_108 rfl ?_
                    refine V_istore 5 [some (.ref 85), some (.int o), some (.int a), some (.int z9), some (.int z12), some (.int z50), some (.int v33), some (.int v19), some (.int v34), some (.int z46), some (.int z50)] d_Rod_test_110 (by decide) rfl rfl ?_
                    refine V_bipush 10 d_Rod_test_112 (by decide) ?_
                    refine V_iload d_Rod_test_114 rfl ?_
                    refine V_imul tc_10 v19E (by (first | decide +kernel | omega)) d_Rod_test_116 (fun z53 z53e z53E => ?_)
                    refine V_iload d_Rod_test_117 rfl ?_
                    refine V_iadd z53E v34E (by (first | decide +kernel | omega)) d_Rod_test_119 (fun z54 z54e z54E => ?_)
                    refine V_istore 6 [some (.ref 85), some (.int o), some (.int a), some (.int z9), some (.int z12), some (.int z50), some (.int z54), some (.int v19), some (.int v34), some (.int z46), some (.int z50)] d_Rod_test_120 (by decide) rfl rfl ?_
                    obtain ⟨z55, z55E, z55e⟩ : ∃ y : Int32, y.toInt = v34Z + 1 ∧ y = v34 + Int32.ofInt 1 := ⟨_, ti_add v34E (by decide) (by (first | decide +kernel | omega)), rfl⟩
                    refine V_iinc 8 [some (.ref 85), some (.int o), some (.int a), some (.int z9), some (.int z12), some (.int z50), some (.int z54), some (.int v19), some (.int z55), some (.int z46), some (.int z50)] d_Rod_test_122 rfl z55e.symm (by decide) rfl rfl ?_
                    refine V_goto 61 d_Rod_test_125 (by decide) ?_
                    refine V_drop 9 [some (.ref 85), some (.int o), some (.int a), some (.int z9), some (.int z12), some (.int z50), some (.int z54), some (.int v19), some (.int z55), none, some (.int z50)] rfl ?_
                    refine V_drop 10 [some (.ref 85), some (.int o), some (.int a), some (.int z9), some (.int z12), some (.int z50), some (.int z54), some (.int v19), some (.int z55), none, none] rfl ?_
                    exact ihL30 z50 z50Z z54 (((10 * v19Z) + v34Z)) z55 ((v34Z + 1)) z50E z54E z55E (by (first | decide +kernel | omega)) hs9.1 hs9.2 (by (first | decide +kernel | omega))
            exact L30 (Int.toNat ((3 - 1 : Int) + 1)) v17 v17Z v18 v18Z 1 1 v17E v18E tc_1 (by (first | decide +kernel | omega)) (by rw [show (2 * (v19Z) + 1 - 1).toNat = (2 * (v19Z)).toNat by (first | decide +kernel | omega)]; assumption) (by rw [show (2 * (v19Z) + 1 - 1).toNat = (2 * (v19Z)).toNat by (first | decide +kernel | omega)]; assumption) (by (first | decide +kernel | omega))
      exact L15 (Int.toNat ((16 - 0 : Int) + 1)) z12 z12Z (-4) ((-4)) 0 0 z12E tc_m4 tc_0 (by (first | decide +kernel | omega)) hnow rfl (by (first | decide +kernel | omega))
    ·
      refine V_iload_n 2 d_Rod_test_11 rfl rfl ?_
      refine V_iconst 1 d_Rod_test_12 (by decide) ?_
      refine V_icmp_eq 18 aE tc_1 d_Rod_test_13 (by decide) (fun c56 => ?_) (fun c56 => ?_)
      ·
        refine V_aload_n 0 d_Rod_test_18 rfl rfl ?_
        refine V_getR fa_Rod_12 sk_85 rfl d_Rod_test_19 ?_
        refine N_callVI [] [] cv_Rod_189 sk_0 rfl d_Rod_test_22 rfl (Nat.le_of_ble_eq_true rfl) (by decide) (by decide) (c_County_fittingRodsX_0 h hI t tZ tE tK hy0 hy1) (fun z57 h58 z57Z z57E p59 => ?_)
        obtain ⟨eh58, p59⟩ := p59
        subst eh58
        refine V_istore_n 3 [some (.ref 85), some (.int o), some (.int a), some (.int z57), none, none, none, none, none, none, none] d_Rod_test_25 rfl (by decide) rfl rfl ?_
        refine V_iload_n 3 d_Rod_test_26 rfl rfl ?_
        refine N_callSI [.int z57] [] cs_Rod_199 d_Rod_test_27 rfl (Nat.le_of_ble_eq_true rfl) (by decide) (by decide) (c_Int_bitCountX h z57 z57Z z57E) (fun z60 h61 z60Z z60E p62 => ?_)
        obtain ⟨eh61, p62⟩ := p62
        subst eh61
        have hnow : z60Z = (cP (fun j => j < 21 ∧ ftC h (rN j) (rR j) tZ.toNat) 32 : Nat) := z60E.symm.trans (p62.trans (congrArg (fun q : Nat => (q : Int)) (BP_ct p59)))
        have hnb := cP_le (fun j => j < 21 ∧ ftC h (rN j) (rR j) tZ.toNat) 32
        refine V_istore 4 [some (.ref 85), some (.int o), some (.int a), some (.int z57), some (.int z60), none, none, none, none, none, none] d_Rod_test_30 (by decide) rfl rfl ?_
        refine V_iload d_Rod_test_32 rfl ?_
        refine V_istore 5 [some (.ref 85), some (.int o), some (.int a), some (.int z57), some (.int z60), some (.int z60), none, none, none, none, none] d_Rod_test_34 (by decide) rfl rfl ?_
        refine V_bipush (-4) d_Rod_test_36 (by decide) ?_
        refine V_istore 6 [some (.ref 85), some (.int o), some (.int a), some (.int z57), some (.int z60), some (.int z60), some (.int (-4)), none, none, none, none] d_Rod_test_38 (by decide) rfl rfl ?_
        refine V_iconst 0 d_Rod_test_40 (by decide) ?_
        refine V_istore 7 [some (.ref 85), some (.int o), some (.int a), some (.int z57), some (.int z60), some (.int z60), some (.int (-4)), some (.int 0), none, none, none] d_Rod_test_41 (by decide) rfl rfl ?_
        have L63 : ∀ (nn : Nat) (v65 : Int32) (v65Z : Int) (v66 : Int32) (v66Z : Int) (v67 : Int32) (v67Z : Int), v65.toInt = v65Z → v66.toInt = v66Z → v67.toInt = v67Z → 0 ≤ v67Z ∧ v67Z ≤ wZ * gZ → v65Z = (ts (wCf (gC h tZ.toNat oZ)) (cP (fun j => j < 21 ∧ ftC h (rN j) (rR j) tZ.toNat) 32 : Nat) (2 * (v67Z)).toNat).1 → v66Z = (ts (wCf (gC h tZ.toNat oZ)) (cP (fun j => j < 21 ∧ ftC h (rN j) (rR j) tZ.toNat) 32 : Nat) (2 * (v67Z)).toNat).2 → 16 - v67Z < (nn : Int) → V R_Rod b_Rod_test 11 (some .int) 3 75 (q_Rod_testX h o oZ a aZ w wZ g gZ t tZ) h 43 [some (.ref 85), some (.int o), some (.int a), some (.int z57), some (.int z60), some (.int v65), some (.int v66), some (.int v67), none, none, none] [] := by
          intro nn
          induction nn with
          | zero => intro v65 v65Z v66 v66Z v67 v67Z v65E v66E v67E q68 q69 q70 hm71; exact absurd hm71 (by (first | decide +kernel | omega))
          | succ nn ihL63 =>
            intro v65 v65Z v66 v66Z v67 v67Z v65E v66E v67E q68 q69 q70 hm71
            refine V_iload d_Rod_test_43 rfl ?_
            refine V_aload_n 0 d_Rod_test_45 rfl rfl ?_
            refine V_getR fa_Rod_12 sk_85 rfl d_Rod_test_46 ?_
            refine V_getR fa_Rod_91 sk_0 rfl d_Rod_test_49 ?_
            refine N_callVI [] [.int v67] cv_Rod_204 sk_1 rfl d_Rod_test_52 rfl (Nat.le_of_ble_eq_true rfl) (by decide) (by decide) (c_Land_cells_0 h hI w wZ wE wK g gZ gE gK) (fun z72 h73 z72Z z72E p74 => ?_)
            obtain ⟨eh73, p74⟩ := p74
            subst eh73
            refine V_icmp_ge 134 v67E z72E d_Rod_test_55 (by decide) (fun c75 => ?_) (fun c75 => ?_)
            ·
              refine V_iload d_Rod_test_134 rfl ?_
              refine V_bipush (-4) d_Rod_test_136 (by decide) ?_
              refine V_icmp_eq 145 v66E tc_m4 d_Rod_test_138 (by decide) (fun c76 => ?_) (fun c76 => ?_)
              ·
                refine V_iload d_Rod_test_145 rfl ?_
                refine V_goto 152 d_Rod_test_147 (by decide) ?_
                exact V_iret rfl d_Rod_test_152 ⟨v66, rfl, ⟨rfl, (Or.inl ⟨by (first | decide +kernel | omega), tsr_1 (A := v65Z) (B := v66Z) (by rw [show (2 * (wZ * gZ)).toNat = (2 * (v67Z)).toNat by (first | decide +kernel | omega)]; assumption) (by rw [show (2 * (wZ * gZ)).toNat = (2 * (v67Z)).toNat by (first | decide +kernel | omega)]; assumption) (by (try rw [v66E]); omega)⟩)⟩⟩
              ·
                refine V_iload_n 2 d_Rod_test_141 rfl rfl ?_
                refine V_if_ne 150 aE d_Rod_test_142 (by decide) (fun c77 => ?_) (fun c77 => ?_)
                ·
                  refine V_iload d_Rod_test_150 rfl ?_
                  exact V_iret rfl d_Rod_test_152 ⟨v65, rfl, ⟨rfl, (Or.inl ⟨by (first | decide +kernel | omega), tsr_1 (A := v65Z) (B := v66Z) (by rw [show (2 * (wZ * gZ)).toNat = (2 * (v67Z)).toNat by (first | decide +kernel | omega)]; assumption) (by rw [show (2 * (wZ * gZ)).toNat = (2 * (v67Z)).toNat by (first | decide +kernel | omega)]; assumption) (by (try rw [v65E]); omega)⟩)⟩⟩
                ·
                  refine V_iload d_Rod_test_145 rfl ?_
                  refine V_goto 152 d_Rod_test_147 (by decide) ?_
                  exact V_iret rfl d_Rod_test_152 ⟨v66, rfl, ⟨rfl, (Or.inl ⟨by (first | decide +kernel | omega), tsr_1 (A := v65Z) (B := v66Z) (by rw [show (2 * (wZ * gZ)).toNat = (2 * (v67Z)).toNat by (first | decide +kernel | omega)]; assumption) (by rw [show (2 * (wZ * gZ)).toNat = (2 * (v67Z)).toNat by (first | decide +kernel | omega)]; assumption) (by (try rw [v66E]); omega)⟩)⟩⟩
            ·
              refine V_iconst 1 d_Rod_test_58 (by decide) ?_
              refine V_istore 8 [some (.ref 85), some (.int o), some (.int a), some (.int z57), some (.int z60), some (.int v65), some (.int v66), some (.int v67), some (.int 1), none, none] d_Rod_test_59 (by decide) rfl rfl ?_
              have L78 : ∀ (nn : Nat) (v80 : Int32) (v80Z : Int) (v81 : Int32) (v81Z : Int) (v82 : Int32) (v82Z : Int), v80.toInt = v80Z → v81.toInt = v81Z → v82.toInt = v82Z → 1 ≤ v82Z ∧ v82Z ≤ 3 → v80Z = (ts (wCf (gC h tZ.toNat oZ)) (cP (fun j => j < 21 ∧ ftC h (rN j) (rR j) tZ.toNat) 32 : Nat) (2 * (v67Z) + v82Z - 1).toNat).1 → v81Z = (ts (wCf (gC h tZ.toNat oZ)) (cP (fun j => j < 21 ∧ ftC h (rN j) (rR j) tZ.toNat) 32 : Nat) (2 * (v67Z) + v82Z - 1).toNat).2 → 3 - v82Z < (nn : Int) → V R_Rod b_Rod_test 11 (some .int) 3 75 (q_Rod_testX h o oZ a aZ w wZ g gZ t tZ) h 61 [some (.ref 85), some (.int o), some (.int a), some (.int z57), some (.int z60), some (.int v80), some (.int v81), some (.int v67), some (.int v82), none, none] [] := by
                intro nn
                induction nn with
                | zero => intro v80 v80Z v81 v81Z v82 v82Z v80E v81E v82E q83 q84 q85 hm86; exact absurd hm86 (by (first | decide +kernel | omega))
                | succ nn ihL78 =>
                  intro v80 v80Z v81 v81Z v82 v82Z v80E v81E v82E q83 q84 q85 hm86
                  refine V_iload d_Rod_test_61 rfl ?_
                  refine V_iconst 2 d_Rod_test_63 (by decide) ?_
                  refine V_icmp_gt 128 v82E tc_2 d_Rod_test_64 (by decide) (fun c87 => ?_) (fun c87 => ?_)
                  ·
                    obtain ⟨z88, z88E, z88e⟩ : ∃ y : Int32, y.toInt = v67Z + 1 ∧ y = v67 + Int32.ofInt 1 := ⟨_, ti_add v67E (by decide) (by (first | decide +kernel | omega)), rfl⟩
                    refine V_iinc 7 [some (.ref 85), some (.int o), some (.int a), some (.int z57), some (.int z60), some (.int v80), some (.int v81), some (.int z88), some (.int v82), none, none] d_Rod_test_128 rfl z88e.symm (by decide) rfl rfl ?_
                    refine V_goto 43 d_Rod_test_131 (by decide) ?_
                    refine V_drop 8 [some (.ref 85), some (.int o), some (.int a), some (.int z57), some (.int z60), some (.int v80), some (.int v81), some (.int z88), none, none, none] rfl ?_
                    exact ihL63 v80 v80Z v81 v81Z z88 ((v67Z + 1)) v80E v81E z88E (by (first | decide +kernel | omega)) (by rw [show (2 * ((v67Z + 1))).toNat = (2 * (v67Z) + v82Z - 1).toNat by (first | decide +kernel | omega)]; assumption) (by rw [show (2 * ((v67Z + 1))).toNat = (2 * (v67Z) + v82Z - 1).toNat by (first | decide +kernel | omega)]; assumption) (by (first | decide +kernel | omega))
                  ·
                    refine V_iload_n 3 d_Rod_test_67 rfl rfl ?_
                    refine V_aload_n 0 d_Rod_test_68 rfl rfl ?_
                    refine V_getR fa_Rod_12 sk_85 rfl d_Rod_test_69 ?_
                    refine V_getR fa_Rod_91 sk_0 rfl d_Rod_test_72 ?_
                    refine V_iload d_Rod_test_75 rfl ?_
                    refine V_iload_n 1 d_Rod_test_77 rfl rfl ?_
                    refine V_iload d_Rod_test_78 rfl ?_
                    refine N_callVI [.int v67, .int o, .int v82] [.int z57] cv_Rod_207 sk_1 rfl d_Rod_test_80 rfl (Nat.le_of_ble_eq_true rfl) (by decide) (by decide) (c_Land_twitchingRodsX_0 h hI v67 v67Z v67E o oZ oE v82 v82Z v82E (by (first | decide +kernel | omega)) (by (first | decide +kernel | omega)) hy0) (fun z89 h90 z89Z z89E p91 => ?_)
                    obtain ⟨eh90, p91⟩ := p91
                    subst eh90
                    refine N_iand d_Rod_test_83 (fun z92 z92Z z92E z92e => ?_)
                    have B93 := BP_and p59 p91
                    rw [← z92e] at B93
                    refine N_callSI [.int z92] [] cs_Rod_199 d_Rod_test_84 rfl (Nat.le_of_ble_eq_true rfl) (by decide) (by decide) (c_Int_bitCountX h z92 z92Z z92E) (fun z94 h95 z94Z z94E p96 => ?_)
                    obtain ⟨eh95, p96⟩ := p96
                    subst eh95
                    have hyes : z94Z = (cP (fun j => (j < 21 ∧ ftC h (rN j) (rR j) tZ.toNat) ∧ j < 21 ∧ twC h (rN j) (rR j) (v67Z).toNat oZ v82Z) 32 : Nat) := z94E.symm.trans (p96.trans (congrArg (fun q : Nat => (q : Int)) (BP_ct B93)))
                    have hyb := cP_le (fun j => (j < 21 ∧ ftC h (rN j) (rR j) tZ.toNat) ∧ j < 21 ∧ twC h (rN j) (rR j) (v67Z).toNat oZ v82Z) 32
                    refine V_istore 9 [some (.ref 85), some (.int o), some (.int a), some (.int z57), some (.int z60), some (.int v80), some (.int v81), some (.int v67), some (.int v82), some (.int z94), none] d_Rod_test_87 (by decide) rfl rfl ?_
                    refine V_iload d_Rod_test_89 rfl ?_
                    refine V_iload d_Rod_test_91 rfl ?_
                    refine V_iload d_Rod_test_93 rfl ?_
                    refine V_isub z60E z94E (by (first | decide +kernel | omega)) d_Rod_test_95 (fun z97 z97e z97E => ?_)
                    refine N_max z94E z97E wm_Rod_211 d_Rod_test_96 (Nat.le_of_ble_eq_true rfl) (by decide) wmax1 wM2 wmax3 (fun z98 z98Z z98E z98e z98g => ?_)
                    have hx9 : z98Z = gC h tZ.toNat oZ (v67Z).toNat v82Z := by unfold gC; rw [← hyes, ← hnow]; exact mx2_1 (by (first | decide +kernel | omega))
                    refine V_istore 10 [some (.ref 85), some (.int o), some (.int a), some (.int z57), some (.int z60), some (.int v80), some (.int v81), some (.int v67), some (.int v82), some (.int z94), some (.int z98)] d_Rod_test_99 (by decide) rfl rfl ?_
                    refine V_iload d_Rod_test_101 rfl ?_
                    refine V_iload d_Rod_test_103 rfl ?_
                    refine V_icmp_ge 122 z98E v80E d_Rod_test_105 (by decide) (fun c99 => ?_) (fun c99 => ?_)
                    ·
                      have hs9 := ts_n (g := gC h tZ.toNat oZ) (f0 := (cP (fun j => j < 21 ∧ ftC h (rN j) (rR j) tZ.toNat) 32 : Nat)) (C := v67Z) (S := v82Z) (by (first | decide +kernel | omega)) (by (first | decide +kernel | omega)) (by assumption) (by assumption) hx9 (by (first | decide +kernel | omega))
                      obtain ⟨z100, z100E, z100e⟩ : ∃ y : Int32, y.toInt = v82Z + 1 ∧ y = v82 + Int32.ofInt 1 := ⟨_, ti_add v82E (by decide) (by (first | decide +kernel | omega)), rfl⟩
                      refine V_iinc 8 [some (.ref 85), some (.int o), some (.int a), some (.int z57), some (.int z60), some (.int v80), some (.int v81), some (.int v67), some (.int z100), some (.int z94), some (.int z98)] d_Rod_test_122 rfl z100e.symm (by decide) rfl rfl ?_
                      refine V_goto 61 d_Rod_test_125 (by decide) ?_
                      refine V_drop 9 [some (.ref 85), some (.int o), some (.int a), some (.int z57), some (.int z60), some (.int v80), some (.int v81), some (.int v67), some (.int z100), none, some (.int z98)] rfl ?_
                      refine V_drop 10 [some (.ref 85), some (.int o), some (.int a), some (.int z57), some (.int z60), some (.int v80), some (.int v81), some (.int v67), some (.int z100), none, none] rfl ?_
                      exact ihL78 v80 v80Z v81 v81Z z100 ((v82Z + 1)) v80E v81E z100E (by (first | decide +kernel | omega)) hs9.1 hs9.2 (by (first | decide +kernel | omega))
                    ·
                      have hs9 := ts_y (g := gC h tZ.toNat oZ) (f0 := (cP (fun j => j < 21 ∧ ftC h (rN j) (rR j) tZ.toNat) 32 : Nat)) (C := v67Z) (S := v82Z) (by (first | decide +kernel | omega)) (by (first | decide +kernel | omega)) (by assumption) hx9 (by (first | decide +kernel | omega))
                      refine V_iload d_Rod_test_108 rfl ?_
                      refine V_istore 5 [some (.ref 85), some (.int o), some (.int a), some (.int z57), some (.int z60), some (.int z98), some (.int v81), some (.int v67), some (.int v82), some (.int z94), some (.int z98)] d_Rod_test_110 (by decide) rfl rfl ?_
                      refine V_bipush 10 d_Rod_test_112 (by decide) ?_
                      refine V_iload d_Rod_test_114 rfl ?_
                      refine V_imul tc_10 v67E (by (first | decide +kernel | omega)) d_Rod_test_116 (fun z101 z101e z101E => ?_)
                      refine V_iload d_Rod_test_117 rfl ?_
                      refine V_iadd z101E v82E (by (first | decide +kernel | omega)) d_Rod_test_119 (fun z102 z102e z102E => ?_)
                      refine V_istore 6 [some (.ref 85), some (.int o), some (.int a), some (.int z57), some (.int z60), some (.int z98), some (.int z102), some (.int v67), some (.int v82), some (.int z94), some (.int z98)] d_Rod_test_120 (by decide) rfl rfl ?_
                      obtain ⟨z103, z103E, z103e⟩ : ∃ y : Int32, y.toInt = v82Z + 1 ∧ y = v82 + Int32.ofInt 1 := ⟨_, ti_add v82E (by decide) (by (first | decide +kernel | omega)), rfl⟩
                      refine V_iinc 8 [some (.ref 85), some (.int o), some (.int a), some (.int z57), some (.int z60), some (.int z98), some (.int z102), some (.int v67), some (.int z103), some (.int z94), some (.int z98)] d_Rod_test_122 rfl z103e.symm (by decide) rfl rfl ?_
                      refine V_goto 61 d_Rod_test_125 (by decide) ?_
                      refine V_drop 9 [some (.ref 85), some (.int o), some (.int a), some (.int z57), some (.int z60), some (.int z98), some (.int z102), some (.int v67), some (.int z103), none, some (.int z98)] rfl ?_
                      refine V_drop 10 [some (.ref 85), some (.int o), some (.int a), some (.int z57), some (.int z60), some (.int z98), some (.int z102), some (.int v67), some (.int z103), none, none] rfl ?_
                      exact ihL78 z98 z98Z z102 (((10 * v67Z) + v82Z)) z103 ((v82Z + 1)) z98E z102E z103E (by (first | decide +kernel | omega)) hs9.1 hs9.2 (by (first | decide +kernel | omega))
              exact L78 (Int.toNat ((3 - 1 : Int) + 1)) v65 v65Z v66 v66Z 1 1 v65E v66E tc_1 (by (first | decide +kernel | omega)) (by rw [show (2 * (v67Z) + 1 - 1).toNat = (2 * (v67Z)).toNat by (first | decide +kernel | omega)]; assumption) (by rw [show (2 * (v67Z) + 1 - 1).toNat = (2 * (v67Z)).toNat by (first | decide +kernel | omega)]; assumption) (by (first | decide +kernel | omega))
        exact L63 (Int.toNat ((16 - 0 : Int) + 1)) z60 z60Z (-4) ((-4)) 0 0 z60E tc_m4 tc_0 (by (first | decide +kernel | omega)) hnow rfl (by (first | decide +kernel | omega))
      ·
        refine V_iconst (-1) d_Rod_test_16 (by decide) ?_
        exact V_iret rfl d_Rod_test_17 ⟨(-1), rfl, ⟨rfl, (Or.inr ⟨by (first | decide +kernel | omega), tc_m1⟩)⟩⟩
abbrev q_Mod_rodsByX (h : Hp) (c : Int32) (cZ : Int) (o : Int32) (oZ : Int) (s : Int32) (sZ : Int) (b : Int32) (bZ : Int) (t : Int32) (tZ : Int) : Option Value → Hp → Prop := pInt (fun r h' => h = h' ∧ (r.toInt = (tt (QM h tZ.toNat oZ cZ.toNat sZ bZ) 5 : Nat) ∧ 0 ≤ r.toInt ∧ r.toInt ≤ 45))
set_option maxRecDepth 100000 in
theorem c_Mod_rodsByX (h : Hp) (hI : Inv h) (c : Int32) (cZ : Int) (cE : c.toInt = cZ) (o : Int32) (oZ : Int) (oE : o.toInt = oZ) (s : Int32) (sZ : Int) (sE : s.toInt = sZ) (b : Int32) (bZ : Int) (bE : b.toInt = bZ) (t : Int32) (tZ : Int) (tE : t.toInt = tZ) (tK : h.1 117 111 = t) (hy0 : 0 ≤ cZ ∧ cZ ≤ 15) (hy1 : 0 ≤ sZ) (hy2 : 0 ≤ bZ ∧ bZ ≤ 1) (hy3 : ∀ i : Nat, i < 8 → (i : Int) < (h.1 117 111).toInt → (0 ≤ (h.1 117 (115 + 4 * i)).toInt ∧ (h.1 117 (115 + 4 * i)).toInt ≤ 1) ∧ 0 ≤ (h.1 117 (114 + 4 * i)).toInt) : Ct y_Mod_rodsBy b_Mod_rodsBy 8 (some .int) 2 52 [.ref 116, .int c, .int o, .int s, .int b] h (q_Mod_rodsByX h c cZ o oZ s sZ b bZ t tZ) := by
  refine ct_ow R_Mod [some (.ref 116), some (.int c), some (.int o), some (.int s), some (.int b), none, none, none] rfl (by decide) rfl (Nat.le_of_ble_eq_true rfl) ?_
  have f0 : fr [] h h := fr_rf
  refine V_iconst 0 d_Mod_rodsBy_0 (by decide) ?_
  refine V_istore 5 [some (.ref 116), some (.int c), some (.int o), some (.int s), some (.int b), some (.int 0), none, none] d_Mod_rodsBy_1 (by decide) rfl rfl ?_
  refine V_iconst 0 d_Mod_rodsBy_3 (by decide) ?_
  refine V_istore 6 [some (.ref 116), some (.int c), some (.int o), some (.int s), some (.int b), some (.int 0), some (.int 0), none] d_Mod_rodsBy_4 (by decide) rfl rfl ?_
  have L1 : ∀ (nn : Nat) (v3 : Int32) (v3Z : Int) (v4 : Int32) (v4Z : Int), v3.toInt = v3Z → v4.toInt = v4Z → 0 ≤ v4Z ∧ v4Z ≤ 5 → v3Z = (tt (QM h tZ.toNat oZ cZ.toNat sZ bZ) (v4Z).toNat : Nat) → 0 ≤ v3Z ∧ v3Z ≤ 9 * v4Z → 5 - v4Z < (nn : Int) → V R_Mod b_Mod_rodsBy 8 (some .int) 2 52 (q_Mod_rodsByX h c cZ o oZ s sZ b bZ t tZ) h 6 [some (.ref 116), some (.int c), some (.int o), some (.int s), some (.int b), some (.int v3), some (.int v4), none] [] := by
    intro nn
    induction nn with
    | zero => intro v3 v3Z v4 v4Z v3E v4E q5 q6 q7 hm8; exact absurd hm8 (by (first | decide +kernel | omega))
    | succ nn ihL1 =>
      intro v3 v3Z v4 v4Z v3E v4E q5 q6 q7 hm8
      refine V_iload d_Mod_rodsBy_6 rfl ?_
      refine V_iconst 4 d_Mod_rodsBy_8 (by decide) ?_
      refine V_icmp_gt 77 v4E tc_4 d_Mod_rodsBy_9 (by decide) (fun c9 => ?_) (fun c9 => ?_)
      ·
        refine V_iload d_Mod_rodsBy_77 rfl ?_
        exact V_iret rfl d_Mod_rodsBy_79 ⟨v3, rfl, ⟨rfl, ⟨by rw [v3E, show (5 : Nat) = (v4Z).toNat by (first | decide +kernel | omega)]; assumption, by rw [v3E]; omega, by rw [v3E]; omega⟩⟩⟩
      ·
        refine V_iconst 1 d_Mod_rodsBy_12 (by decide) ?_
        refine V_istore 7 [some (.ref 116), some (.int c), some (.int o), some (.int s), some (.int b), some (.int v3), some (.int v4), some (.int 1)] d_Mod_rodsBy_13 (by decide) rfl rfl ?_
        have L10 : ∀ (nn : Nat) (v12 : Int32) (v12Z : Int) (v13 : Int32) (v13Z : Int), v12.toInt = v12Z → v13.toInt = v13Z → 1 ≤ v13Z ∧ v13Z ≤ 10 ∧ v13Z ≤ rO v4Z + 1 → v12Z = (tt (QM h tZ.toNat oZ cZ.toNat sZ bZ) (v4Z).toNat + cP (fun r => (QM h tZ.toNat oZ cZ.toNat sZ bZ) v4Z ((r : Int) + 1)) (v13Z - 1).toNat : Nat) → 0 ≤ v12Z ∧ v12Z ≤ 9 * v4Z + v13Z - 1 → 11 - v13Z < (nn : Int) → V R_Mod b_Mod_rodsBy 8 (some .int) 2 52 (q_Mod_rodsByX h c cZ o oZ s sZ b bZ t tZ) h 15 [some (.ref 116), some (.int c), some (.int o), some (.int s), some (.int b), some (.int v12), some (.int v4), some (.int v13)] [] := by
          intro nn
          induction nn with
          | zero => intro v12 v12Z v13 v13Z v12E v13E q14 q15 q16 hm17; exact absurd hm17 (by (first | decide +kernel | omega))
          | succ nn ihL10 =>
            intro v12 v12Z v13 v13Z v12E v13E q14 q15 q16 hm17
            refine V_iload d_Mod_rodsBy_15 rfl ?_
            refine V_iload d_Mod_rodsBy_17 rfl ?_
            refine N_callSI [.int v4] [.int v13] cs_Mod_233 d_Mod_rodsBy_19 rfl (Nat.le_of_ble_eq_true rfl) (by decide) (by decide) (c_Mod_reachesOfX h v4 v4Z v4E) (fun z18 h19 z18Z z18E p20 => ?_)
            obtain ⟨eh19, p20⟩ := p20
            subst eh19
            have hro : z18Z = rO v4Z := z18E.symm.trans p20
            have hr2 : 1 ≤ rO v4Z ∧ rO v4Z ≤ 9 := by unfold rO; split <;> omega
            refine V_icmp_gt 71 v13E z18E d_Mod_rodsBy_22 (by decide) (fun c21 => ?_) (fun c21 => ?_)
            ·
              obtain ⟨z22, z22E, z22e⟩ : ∃ y : Int32, y.toInt = v4Z + 1 ∧ y = v4 + Int32.ofInt 1 := ⟨_, ti_add v4E (by decide) (by (first | decide +kernel | omega)), rfl⟩
              refine V_iinc 6 [some (.ref 116), some (.int c), some (.int o), some (.int s), some (.int b), some (.int v12), some (.int z22), some (.int v13)] d_Mod_rodsBy_71 rfl z22e.symm (by decide) rfl rfl ?_
              refine V_goto 6 d_Mod_rodsBy_74 (by decide) ?_
              refine V_drop 7 [some (.ref 116), some (.int c), some (.int o), some (.int s), some (.int b), some (.int v12), some (.int z22), none] rfl ?_
              exact ihL1 v12 v12Z z22 ((v4Z + 1)) v12E z22E (by (first | decide +kernel | omega)) (tt_k (by assumption) (by (first | decide +kernel | omega)) (by (first | decide +kernel | omega)) (by (first | decide +kernel | omega))) (by (first | decide +kernel | omega)) (by (first | decide +kernel | omega))
            ·
              refine V_iload d_Mod_rodsBy_25 rfl ?_
              refine V_aload_n 0 d_Mod_rodsBy_27 rfl rfl ?_
              refine V_iload d_Mod_rodsBy_28 rfl ?_
              refine V_iload d_Mod_rodsBy_30 rfl ?_
              refine N_callVI [.int v4, .int v13] [.int v12] cv_Mod_236 sk_116 rfl d_Mod_rodsBy_32 rfl (Nat.le_of_ble_eq_true rfl) (by decide) (by decide) (c_Mod_doesFitX h hI v4 v4Z v4E v13 v13Z v13E t tZ tE tK hy3) (fun z23 h24 z23Z z23E p25 => ?_)
              obtain ⟨eh24, p25⟩ := p25
              subst eh24
              have := twR_01 p25
              refine V_if_eq 58 z23E d_Mod_rodsBy_35 (by decide) (fun c26 => ?_) (fun c26 => ?_)
              ·
                refine V_iconst 0 d_Mod_rodsBy_58 (by decide) ?_
                refine N_callSI [.int 0] [.int v12] cs_Mod_196 d_Mod_rodsBy_59 rfl (Nat.le_of_ble_eq_true rfl) (by decide) (by decide) (c_Mod_flag h 0 0 tc_0) (fun z27 h28 z27Z z27E p29 => ?_)
                obtain ⟨eh28, p29⟩ := p29
                subst eh28
                have hq9 : twR z27 ((QM h tZ.toNat oZ cZ.toNat sZ bZ) v4Z v13Z) := Or.inr ⟨by (first | decide +kernel | omega), fun q => (p25.resolve_left (fun w => absurd w.1 (by (first | decide +kernel | omega)))).2 q.1⟩
                refine V_iadd v12E z27E (by (first | decide +kernel | omega)) d_Mod_rodsBy_62 (fun z30 z30e z30E => ?_)
                refine V_istore 5 [some (.ref 116), some (.int c), some (.int o), some (.int s), some (.int b), some (.int z30), some (.int v4), some (.int v13)] d_Mod_rodsBy_63 (by decide) rfl rfl ?_
                obtain ⟨z31, z31E, z31e⟩ : ∃ y : Int32, y.toInt = v13Z + 1 ∧ y = v13 + Int32.ofInt 1 := ⟨_, ti_add v13E (by decide) (by (first | decide +kernel | omega)), rfl⟩
                refine V_iinc 7 [some (.ref 116), some (.int c), some (.int o), some (.int s), some (.int b), some (.int z30), some (.int v4), some (.int z31)] d_Mod_rodsBy_65 rfl z31e.symm (by decide) rfl rfl ?_
                refine V_goto 15 d_Mod_rodsBy_68 (by decide) ?_
                exact ihL10 z30 ((v12Z + z27Z)) z31 ((v13Z + 1)) z30E z31E (by (first | decide +kernel | omega)) (tt_r (by assumption) (by (first | decide +kernel | omega)) hq9 z27E) (by (first | decide +kernel | omega)) (by (first | decide +kernel | omega))
              ·
                refine V_aload_n 0 d_Mod_rodsBy_38 rfl rfl ?_
                refine V_iload d_Mod_rodsBy_39 rfl ?_
                refine V_iload d_Mod_rodsBy_41 rfl ?_
                refine V_iload_n 1 d_Mod_rodsBy_43 rfl rfl ?_
                refine V_iload_n 2 d_Mod_rodsBy_44 rfl rfl ?_
                refine V_iload_n 3 d_Mod_rodsBy_45 rfl rfl ?_
                refine N_callVI [.int v4, .int v13, .int c, .int o, .int s] [.int v12] cv_Mod_229 sk_116 rfl d_Mod_rodsBy_46 rfl (Nat.le_of_ble_eq_true rfl) (by decide) (by decide) (c_Mod_doesTwitchX h hI v4 v4Z v4E v13 v13Z v13E c cZ cE o oZ oE s sZ sE (by (first | decide +kernel | omega)) hy1) (fun z32 h33 z32Z z32E p34 => ?_)
                obtain ⟨eh33, p34⟩ := p34
                subst eh33
                have := twR_01 p34
                refine V_iload d_Mod_rodsBy_49 rfl ?_
                refine V_icmp_ne 58 z32E bE d_Mod_rodsBy_51 (by decide) (fun c35 => ?_) (fun c35 => ?_)
                ·
                  refine V_iconst 0 d_Mod_rodsBy_58 (by decide) ?_
                  refine N_callSI [.int 0] [.int v12] cs_Mod_196 d_Mod_rodsBy_59 rfl (Nat.le_of_ble_eq_true rfl) (by decide) (by decide) (c_Mod_flag h 0 0 tc_0) (fun z36 h37 z36Z z36E p38 => ?_)
                  obtain ⟨eh37, p38⟩ := p38
                  subst eh37
                  have hq9 : twR z36 ((QM h tZ.toNat oZ cZ.toNat sZ bZ) v4Z v13Z) := Or.inr ⟨by (first | decide +kernel | omega), fun q => tb_0 p34 z32E (by (first | decide +kernel | omega)) (by (first | decide +kernel | omega)) q.2⟩
                  refine V_iadd v12E z36E (by (first | decide +kernel | omega)) d_Mod_rodsBy_62 (fun z39 z39e z39E => ?_)
                  refine V_istore 5 [some (.ref 116), some (.int c), some (.int o), some (.int s), some (.int b), some (.int z39), some (.int v4), some (.int v13)] d_Mod_rodsBy_63 (by decide) rfl rfl ?_
                  obtain ⟨z40, z40E, z40e⟩ : ∃ y : Int32, y.toInt = v13Z + 1 ∧ y = v13 + Int32.ofInt 1 := ⟨_, ti_add v13E (by decide) (by (first | decide +kernel | omega)), rfl⟩
                  refine V_iinc 7 [some (.ref 116), some (.int c), some (.int o), some (.int s), some (.int b), some (.int z39), some (.int v4), some (.int z40)] d_Mod_rodsBy_65 rfl z40e.symm (by decide) rfl rfl ?_
                  refine V_goto 15 d_Mod_rodsBy_68 (by decide) ?_
                  exact ihL10 z39 ((v12Z + z36Z)) z40 ((v13Z + 1)) z39E z40E (by (first | decide +kernel | omega)) (tt_r (by assumption) (by (first | decide +kernel | omega)) hq9 z36E) (by (first | decide +kernel | omega)) (by (first | decide +kernel | omega))
                ·
                  refine V_iconst 1 d_Mod_rodsBy_54 (by decide) ?_
                  refine V_goto 59 d_Mod_rodsBy_55 (by decide) ?_
                  refine N_callSI [.int 1] [.int v12] cs_Mod_196 d_Mod_rodsBy_59 rfl (Nat.le_of_ble_eq_true rfl) (by decide) (by decide) (c_Mod_flag h 1 1 tc_1) (fun z41 h42 z41Z z41E p43 => ?_)
                  obtain ⟨eh42, p43⟩ := p43
                  subst eh42
                  have hq9 : twR z41 ((QM h tZ.toNat oZ cZ.toNat sZ bZ) v4Z v13Z) := Or.inl ⟨by (first | decide +kernel | omega), (p25.resolve_right (fun w => absurd w.1 (by (first | decide +kernel | omega)))).2, tb_1 p34 z32E (by (first | decide +kernel | omega)) (by (first | decide +kernel | omega))⟩
                  refine V_iadd v12E z41E (by (first | decide +kernel | omega)) d_Mod_rodsBy_62 (fun z44 z44e z44E => ?_)
                  refine V_istore 5 [some (.ref 116), some (.int c), some (.int o), some (.int s), some (.int b), some (.int z44), some (.int v4), some (.int v13)] d_Mod_rodsBy_63 (by decide) rfl rfl ?_
                  obtain ⟨z45, z45E, z45e⟩ : ∃ y : Int32, y.toInt = v13Z + 1 ∧ y = v13 + Int32.ofInt 1 := ⟨_, ti_add v13E (by decide) (by (first | decide +kernel | omega)), rfl⟩
                  refine V_iinc 7 [some (.ref 116), some (.int c), some (.int o), some (.int s), some (.int b), some (.int z44), some (.int v4), some (.int z45)] d_Mod_rodsBy_65 rfl z45e.symm (by decide) rfl rfl ?_
                  refine V_goto 15 d_Mod_rodsBy_68 (by decide) ?_
                  exact ihL10 z44 ((v12Z + z41Z)) z45 ((v13Z + 1)) z44E z45E (by (first | decide +kernel | omega)) (tt_r (by assumption) (by (first | decide +kernel | omega)) hq9 z41E) (by (first | decide +kernel | omega)) (by (first | decide +kernel | omega))
        exact L10 (Int.toNat ((11 - 1 : Int) + 1)) v3 v3Z 1 1 v3E tc_1 (by unfold rO; split <;> omega) (tt_i (by assumption)) (by (first | decide +kernel | omega)) (by (first | decide +kernel | omega))
  exact L1 (Int.toNat ((5 - 0 : Int) + 1)) 0 0 0 0 tc_0 tc_0 (by (first | decide +kernel | omega)) rfl (by (first | decide +kernel | omega)) (by (first | decide +kernel | omega))
abbrev q_Mod_testX (h : Hp) (o : Int32) (oZ : Int) (a : Int32) (aZ : Int) (w : Int32) (wZ : Int) (g : Int32) (gZ : Int) (t : Int32) (tZ : Int) : Option Value → Hp → Prop := pInt (fun r h' => h = h' ∧ (TSa ((0 ≤ oZ ∧ oZ ≤ 3) ∧ (aZ = 0 ∨ aZ = 1)) r (tsr (ts (wCf (gM h tZ.toNat oZ)) ((tt (QM h tZ.toNat oZ 0 1 1) 5 : Nat) + (tt (QM h tZ.toNat oZ 0 1 0) 5 : Nat) : Int) (2 * (wZ * gZ)).toNat) aZ)))
set_option maxRecDepth 100000 in
theorem c_Mod_testX (h : Hp) (hI : Inv h) (o : Int32) (oZ : Int) (oE : o.toInt = oZ) (a : Int32) (aZ : Int) (aE : a.toInt = aZ) (w : Int32) (wZ : Int) (wE : w.toInt = wZ) (wK : h.1 116 2 = w) (g : Int32) (gZ : Int) (gE : g.toInt = gZ) (gK : h.1 116 3 = g) (t : Int32) (tZ : Int) (tE : t.toInt = tZ) (tK : h.1 117 111 = t) (hy0 : ∀ i : Nat, i < 8 → (i : Int) < (h.1 117 111).toInt → (0 ≤ (h.1 117 (115 + 4 * i)).toInt ∧ (h.1 117 (115 + 4 * i)).toInt ≤ 1) ∧ 0 ≤ (h.1 117 (114 + 4 * i)).toInt) : Ct y_Mod_test b_Mod_test 10 (some .int) 3 79 [.ref 116, .int o, .int a] h (q_Mod_testX h o oZ a aZ w wZ g gZ t tZ) := by
  refine ct_ow R_Mod [some (.ref 116), some (.int o), some (.int a), none, none, none, none, none, none, none] rfl (by decide) rfl (Nat.le_of_ble_eq_true rfl) ?_
  have f0 : fr [] h h := fr_rf
  have g1 : 2 ≤ wZ ∧ wZ ≤ 4 := inv_at hI wE wK.symm rfl
  have g2 : 2 ≤ gZ ∧ gZ ≤ 4 := inv_at hI gE gK.symm rfl
  have m24 := mul24 (A := wZ) (B := gZ) (by (first | decide +kernel | omega)) (by (first | decide +kernel | omega))
  refine V_iload_n 1 d_Mod_test_0 rfl rfl ?_
  refine N_callSI [.int o] [] cs_Mod_205 d_Mod_test_1 rfl (Nat.le_of_ble_eq_true rfl) (by decide) (by decide) (c_Mod_isOwner h o oZ oE) (fun z3 h4 z3Z z3E p5 => ?_)
  obtain ⟨eh4, p5⟩ := p5
  subst eh4
  refine V_if_eq 17 z3E d_Mod_test_4 (by decide) (fun c6 => ?_) (fun c6 => ?_)
  ·
    refine V_iconst (-1) d_Mod_test_17 (by decide) ?_
    exact V_iret rfl d_Mod_test_18 ⟨(-1), rfl, ⟨rfl, (Or.inr ⟨by (first | decide +kernel | omega), tc_m1⟩)⟩⟩
  ·
    refine V_iload_n 2 d_Mod_test_7 rfl rfl ?_
    refine V_i2l d_Mod_test_8 (fun z7 z7e z7E => ?_)
    have z7F : z7.toInt = aZ := z7E.trans aE
    refine V_lconst 0 d_Mod_test_9 (by decide) ?_
    refine V_lconst 1 d_Mod_test_10 (by decide) ?_
    refine N_callSI [.long z7, .long 0, .long 1] [] cs_Mod_95 d_Mod_test_11 rfl (Nat.le_of_ble_eq_true rfl) (by decide) (by decide) (c_Mod_in h z7 aZ z7F 0 0 tl_0 1 1 tl_1) (fun z8 h9 z8Z z8E p10 => ?_)
    obtain ⟨eh9, p10⟩ := p10
    subst eh9
    refine V_if_ne 19 z8E d_Mod_test_14 (by decide) (fun c11 => ?_) (fun c11 => ?_)
    ·
      refine V_aload_n 0 d_Mod_test_19 rfl rfl ?_
      refine V_iconst 0 d_Mod_test_20 (by decide) ?_
      refine V_iload_n 1 d_Mod_test_21 rfl rfl ?_
      refine V_iconst 1 d_Mod_test_22 (by decide) ?_
      refine V_iconst 1 d_Mod_test_23 (by decide) ?_
      refine N_callVI [.int 0, .int o, .int 1, .int 1] [] cv_Mod_239 sk_116 rfl d_Mod_test_24 rfl (Nat.le_of_ble_eq_true rfl) (by decide) (by decide) (c_Mod_rodsByX h hI 0 0 tc_0 o oZ oE 1 1 tc_1 1 1 tc_1 t tZ tE tK (by (first | decide +kernel | omega)) (by (first | decide +kernel | omega)) (by decide) hy0) (fun z12 h13 z12Z z12E p14 => ?_)
      obtain ⟨eh13, p14⟩ := p14
      subst eh13
      refine V_aload_n 0 d_Mod_test_27 rfl rfl ?_
      refine V_iconst 0 d_Mod_test_28 (by decide) ?_
      refine V_iload_n 1 d_Mod_test_29 rfl rfl ?_
      refine V_iconst 1 d_Mod_test_30 (by decide) ?_
      refine V_iconst 0 d_Mod_test_31 (by decide) ?_
      refine N_callVI [.int 0, .int o, .int 1, .int 0] [.int z12] cv_Mod_239 sk_116 rfl d_Mod_test_32 rfl (Nat.le_of_ble_eq_true rfl) (by decide) (by decide) (c_Mod_rodsByX h hI 0 0 tc_0 o oZ oE 1 1 tc_1 0 0 tc_0 t tZ tE tK (by (first | decide +kernel | omega)) (by (first | decide +kernel | omega)) (by decide) hy0) (fun z15 h16 z15Z z15E p17 => ?_)
      obtain ⟨eh16, p17⟩ := p17
      subst eh16
      refine V_iadd z12E z15E (by (first | decide +kernel | omega)) d_Mod_test_35 (fun z18 z18e z18E => ?_)
      have hf0 : (z12Z + z15Z) = ((tt (QM h tZ.toNat oZ 0 1 1) 5 : Nat) + (tt (QM h tZ.toNat oZ 0 1 0) 5 : Nat) : Int) := by have a1 : z12Z = (tt (QM h tZ.toNat oZ 0 1 1) 5 : Nat) := z12E.symm.trans p14.1; have a2 : z15Z = (tt (QM h tZ.toNat oZ 0 1 0) 5 : Nat) := z15E.symm.trans p17.1; rw [a1, a2]
      refine V_istore_n 3 [some (.ref 116), some (.int o), some (.int a), some (.int z18), none, none, none, none, none, none] d_Mod_test_36 rfl (by decide) rfl rfl ?_
      refine V_bipush (-4) d_Mod_test_37 (by decide) ?_
      refine V_istore 4 [some (.ref 116), some (.int o), some (.int a), some (.int z18), some (.int (-4)), none, none, none, none, none] d_Mod_test_39 (by decide) rfl rfl ?_
      refine V_iconst 0 d_Mod_test_41 (by decide) ?_
      refine V_istore 5 [some (.ref 116), some (.int o), some (.int a), some (.int z18), some (.int (-4)), some (.int 0), none, none, none, none] d_Mod_test_42 (by decide) rfl rfl ?_
      have L19 : ∀ (nn : Nat) (v21 : Int32) (v21Z : Int) (v22 : Int32) (v22Z : Int) (v23 : Int32) (v23Z : Int), v21.toInt = v21Z → v22.toInt = v22Z → v23.toInt = v23Z → 0 ≤ v23Z ∧ v23Z ≤ wZ * gZ → v21Z = (ts (wCf (gM h tZ.toNat oZ)) ((tt (QM h tZ.toNat oZ 0 1 1) 5 : Nat) + (tt (QM h tZ.toNat oZ 0 1 0) 5 : Nat) : Int) (2 * (v23Z)).toNat).1 → v22Z = (ts (wCf (gM h tZ.toNat oZ)) ((tt (QM h tZ.toNat oZ 0 1 1) 5 : Nat) + (tt (QM h tZ.toNat oZ 0 1 0) 5 : Nat) : Int) (2 * (v23Z)).toNat).2 → 16 - v23Z < (nn : Int) → V R_Mod b_Mod_test 10 (some .int) 3 79 (q_Mod_testX h o oZ a aZ w wZ g gZ t tZ) h 44 [some (.ref 116), some (.int o), some (.int a), some (.int v21), some (.int v22), some (.int v23), none, none, none, none] [] := by
        intro nn
        induction nn with
        | zero => intro v21 v21Z v22 v22Z v23 v23Z v21E v22E v23E q24 q25 q26 hm27; exact absurd hm27 (by (first | decide +kernel | omega))
        | succ nn ihL19 =>
          intro v21 v21Z v22 v22Z v23 v23Z v21E v22E v23E q24 q25 q26 hm27
          refine V_iload d_Mod_test_44 rfl ?_
          refine V_aload_n 0 d_Mod_test_46 rfl rfl ?_
          refine N_callVI [] [.int v23] cv_Mod_183 sk_116 rfl d_Mod_test_47 rfl (Nat.le_of_ble_eq_true rfl) (by decide) (by decide) (c_Mod_cellMany h hI w wZ wE wK g gZ gE gK) (fun z28 h29 z28Z z28E p30 => ?_)
          obtain ⟨eh29, p30⟩ := p30
          subst eh29
          refine V_icmp_ge 148 v23E z28E d_Mod_test_50 (by decide) (fun c31 => ?_) (fun c31 => ?_)
          ·
            refine V_iload d_Mod_test_148 rfl ?_
            refine V_bipush (-4) d_Mod_test_150 (by decide) ?_
            refine V_icmp_ne 160 v22E tc_m4 d_Mod_test_152 (by decide) (fun c32 => ?_) (fun c32 => ?_)
            ·
              refine V_iload_n 2 d_Mod_test_160 rfl rfl ?_
              refine V_if_ne 169 aE d_Mod_test_161 (by decide) (fun c33 => ?_) (fun c33 => ?_)
              ·
                refine V_iload_n 3 d_Mod_test_169 rfl rfl ?_
                exact V_iret rfl d_Mod_test_170 ⟨v21, rfl, ⟨rfl, (Or.inl ⟨by (first | decide +kernel | omega), tsr_1 (A := v21Z) (B := v22Z) (by rw [show (2 * (wZ * gZ)).toNat = (2 * (v23Z)).toNat by (first | decide +kernel | omega)]; assumption) (by rw [show (2 * (wZ * gZ)).toNat = (2 * (v23Z)).toNat by (first | decide +kernel | omega)]; assumption) (by (try rw [v21E]); omega)⟩)⟩⟩
              ·
                refine V_iload d_Mod_test_164 rfl ?_
                refine V_goto 170 d_Mod_test_166 (by decide) ?_
                exact V_iret rfl d_Mod_test_170 ⟨v22, rfl, ⟨rfl, (Or.inl ⟨by (first | decide +kernel | omega), tsr_1 (A := v21Z) (B := v22Z) (by rw [show (2 * (wZ * gZ)).toNat = (2 * (v23Z)).toNat by (first | decide +kernel | omega)]; assumption) (by rw [show (2 * (wZ * gZ)).toNat = (2 * (v23Z)).toNat by (first | decide +kernel | omega)]; assumption) (by (try rw [v22E]); omega)⟩)⟩⟩
            ·
              refine V_bipush (-4) d_Mod_test_155 (by decide) ?_
              refine V_goto 170 d_Mod_test_157 (by decide) ?_
              exact V_iret rfl d_Mod_test_170 ⟨(-4), rfl, ⟨rfl, (Or.inl ⟨by (first | decide +kernel | omega), tsr_1 (A := v21Z) (B := v22Z) (by rw [show (2 * (wZ * gZ)).toNat = (2 * (v23Z)).toNat by (first | decide +kernel | omega)]; assumption) (by rw [show (2 * (wZ * gZ)).toNat = (2 * (v23Z)).toNat by (first | decide +kernel | omega)]; assumption) (by (try rw [tc_m4]); omega)⟩)⟩⟩
          ·
            refine V_iconst 1 d_Mod_test_53 (by decide) ?_
            refine V_istore 6 [some (.ref 116), some (.int o), some (.int a), some (.int v21), some (.int v22), some (.int v23), some (.int 1), none, none, none] d_Mod_test_54 (by decide) rfl rfl ?_
            have L34 : ∀ (nn : Nat) (v36 : Int32) (v36Z : Int) (v37 : Int32) (v37Z : Int) (v38 : Int32) (v38Z : Int), v36.toInt = v36Z → v37.toInt = v37Z → v38.toInt = v38Z → 1 ≤ v38Z ∧ v38Z ≤ 3 → v36Z = (ts (wCf (gM h tZ.toNat oZ)) ((tt (QM h tZ.toNat oZ 0 1 1) 5 : Nat) + (tt (QM h tZ.toNat oZ 0 1 0) 5 : Nat) : Int) (2 * (v23Z) + v38Z - 1).toNat).1 → v37Z = (ts (wCf (gM h tZ.toNat oZ)) ((tt (QM h tZ.toNat oZ 0 1 1) 5 : Nat) + (tt (QM h tZ.toNat oZ 0 1 0) 5 : Nat) : Int) (2 * (v23Z) + v38Z - 1).toNat).2 → 3 - v38Z < (nn : Int) → V R_Mod b_Mod_test 10 (some .int) 3 79 (q_Mod_testX h o oZ a aZ w wZ g gZ t tZ) h 56 [some (.ref 116), some (.int o), some (.int a), some (.int v36), some (.int v37), some (.int v23), some (.int v38), none, none, none] [] := by
              intro nn
              induction nn with
              | zero => intro v36 v36Z v37 v37Z v38 v38Z v36E v37E v38E q39 q40 q41 hm42; exact absurd hm42 (by (first | decide +kernel | omega))
              | succ nn ihL34 =>
                intro v36 v36Z v37 v37Z v38 v38Z v36E v37E v38E q39 q40 q41 hm42
                refine V_iload d_Mod_test_56 rfl ?_
                refine V_iconst 2 d_Mod_test_58 (by decide) ?_
                refine V_icmp_gt 142 v38E tc_2 d_Mod_test_59 (by decide) (fun c43 => ?_) (fun c43 => ?_)
                ·
                  obtain ⟨z44, z44E, z44e⟩ : ∃ y : Int32, y.toInt = v23Z + 1 ∧ y = v23 + Int32.ofInt 1 := ⟨_, ti_add v23E (by decide) (by (first | decide +kernel | omega)), rfl⟩
                  refine V_iinc 5 [some (.ref 116), some (.int o), some (.int a), some (.int v36), some (.int v37), some (.int z44), some (.int v38), none, none, none] d_Mod_test_142 rfl z44e.symm (by decide) rfl rfl ?_
                  refine V_goto 44 d_Mod_test_145 (by decide) ?_
                  refine V_drop 6 [some (.ref 116), some (.int o), some (.int a), some (.int v36), some (.int v37), some (.int z44), none, none, none, none] rfl ?_
                  exact ihL19 v36 v36Z v37 v37Z z44 ((v23Z + 1)) v36E v37E z44E (by (first | decide +kernel | omega)) (by rw [show (2 * ((v23Z + 1))).toNat = (2 * (v23Z) + v38Z - 1).toNat by (first | decide +kernel | omega)]; assumption) (by rw [show (2 * ((v23Z + 1))).toNat = (2 * (v23Z) + v38Z - 1).toNat by (first | decide +kernel | omega)]; assumption) (by (first | decide +kernel | omega))
                ·
                  refine V_aload_n 0 d_Mod_test_62 rfl rfl ?_
                  refine V_iload d_Mod_test_63 rfl ?_
                  refine V_iload_n 1 d_Mod_test_65 rfl rfl ?_
                  refine V_iload d_Mod_test_66 rfl ?_
                  refine V_iconst 1 d_Mod_test_68 (by decide) ?_
                  refine N_callVI [.int v23, .int o, .int v38, .int 1] [] cv_Mod_239 sk_116 rfl d_Mod_test_69 rfl (Nat.le_of_ble_eq_true rfl) (by decide) (by decide) (c_Mod_rodsByX h hI v23 v23Z v23E o oZ oE v38 v38Z v38E 1 1 tc_1 t tZ tE tK (by (first | decide +kernel | omega)) (by (first | decide +kernel | omega)) (by decide) hy0) (fun z45 h46 z45Z z45E p47 => ?_)
                  obtain ⟨eh46, p47⟩ := p47
                  subst eh46
                  refine V_istore 7 [some (.ref 116), some (.int o), some (.int a), some (.int v36), some (.int v37), some (.int v23), some (.int v38), some (.int z45), none, none] d_Mod_test_72 (by decide) rfl rfl ?_
                  refine V_aload_n 0 d_Mod_test_74 rfl rfl ?_
                  refine V_iload d_Mod_test_75 rfl ?_
                  refine V_iload_n 1 d_Mod_test_77 rfl rfl ?_
                  refine V_iload d_Mod_test_78 rfl ?_
                  refine V_iconst 0 d_Mod_test_80 (by decide) ?_
                  refine N_callVI [.int v23, .int o, .int v38, .int 0] [] cv_Mod_239 sk_116 rfl d_Mod_test_81 rfl (Nat.le_of_ble_eq_true rfl) (by decide) (by decide) (c_Mod_rodsByX h hI v23 v23Z v23E o oZ oE v38 v38Z v38E 0 0 tc_0 t tZ tE tK (by (first | decide +kernel | omega)) (by (first | decide +kernel | omega)) (by decide) hy0) (fun z48 h49 z48Z z48E p50 => ?_)
                  obtain ⟨eh49, p50⟩ := p50
                  subst eh49
                  refine V_istore 8 [some (.ref 116), some (.int o), some (.int a), some (.int v36), some (.int v37), some (.int v23), some (.int v38), some (.int z45), some (.int z48), none] d_Mod_test_84 (by decide) rfl rfl ?_
                  refine V_iload d_Mod_test_86 rfl ?_
                  refine V_iload d_Mod_test_88 rfl ?_
                  refine V_icmp_le 98 z45E z48E d_Mod_test_90 (by decide) (fun c51 => ?_) (fun c51 => ?_)
                  ·
                    refine V_iload d_Mod_test_98 rfl ?_
                    have hx9 : z48Z = gM h tZ.toNat oZ (v23Z).toNat v38Z := by unfold gM; rw [← z45E.symm.trans p47.1, ← z48E.symm.trans p50.1]; exact mx2_1 (by (first | decide +kernel | omega))
                    refine V_istore 9 [some (.ref 116), some (.int o), some (.int a), some (.int v36), some (.int v37), some (.int v23), some (.int v38), some (.int z45), some (.int z48), some (.int z48)] d_Mod_test_100 (by decide) rfl rfl ?_
                    refine V_iload d_Mod_test_102 rfl ?_
                    refine V_iload_n 3 d_Mod_test_104 rfl rfl ?_
                    refine V_icmp_ge 119 z48E v36E d_Mod_test_105 (by decide) (fun c52 => ?_) (fun c52 => ?_)
                    ·
                      refine V_iload d_Mod_test_119 rfl ?_
                      refine V_istore 4 [some (.ref 116), some (.int o), some (.int a), some (.int v36), some (.int v37), some (.int v23), some (.int v38), some (.int z45), some (.int z48), some (.int z48)] d_Mod_test_121 (by decide) rfl rfl ?_
                      refine V_iload d_Mod_test_123 rfl ?_
                      refine V_iload_n 3 d_Mod_test_125 rfl rfl ?_
                      refine V_icmp_ge 134 z48E v36E d_Mod_test_126 (by decide) (fun c53 => ?_) (fun c53 => ?_)
                      ·
                        refine V_iload_n 3 d_Mod_test_134 rfl rfl ?_
                        refine V_istore_n 3 [some (.ref 116), some (.int o), some (.int a), some (.int v36), some (.int v37), some (.int v23), some (.int v38), some (.int z45), some (.int z48), some (.int z48)] d_Mod_test_135 rfl (by decide) rfl rfl ?_
                        have hs9 := ts_n (g := gM h tZ.toNat oZ) (f0 := ((tt (QM h tZ.toNat oZ 0 1 1) 5 : Nat) + (tt (QM h tZ.toNat oZ 0 1 0) 5 : Nat) : Int)) (C := v23Z) (S := v38Z) (by (first | decide +kernel | omega)) (by (first | decide +kernel | omega)) (by assumption) (by assumption) hx9 (by (first | decide +kernel | omega))
                        obtain ⟨z54, z54E, z54e⟩ : ∃ y : Int32, y.toInt = v38Z + 1 ∧ y = v38 + Int32.ofInt 1 := ⟨_, ti_add v38E (by decide) (by (first | decide +kernel | omega)), rfl⟩
                        refine V_iinc 6 [some (.ref 116), some (.int o), some (.int a), some (.int v36), some (.int v37), some (.int v23), some (.int z54), some (.int z45), some (.int z48), some (.int z48)] d_Mod_test_136 rfl z54e.symm (by decide) rfl rfl ?_
                        refine V_goto 56 d_Mod_test_139 (by decide) ?_
                        refine V_drop 7 [some (.ref 116), some (.int o), some (.int a), some (.int v36), some (.int v37), some (.int v23), some (.int z54), none, some (.int z48), some (.int z48)] rfl ?_
                        refine V_drop 8 [some (.ref 116), some (.int o), some (.int a), some (.int v36), some (.int v37), some (.int v23), some (.int z54), none, none, some (.int z48)] rfl ?_
                        refine V_drop 9 [some (.ref 116), some (.int o), some (.int a), some (.int v36), some (.int v37), some (.int v23), some (.int z54), none, none, none] rfl ?_
                        exact ihL34 v36 v36Z v37 v37Z z54 ((v38Z + 1)) v36E v37E z54E (by (first | decide +kernel | omega)) hs9.1 hs9.2 (by (first | decide +kernel | omega))
                      ·
                        exact absurd c53 (by (first | decide +kernel | omega))
                    ·
                      refine V_bipush 10 d_Mod_test_108 (by decide) ?_
                      refine V_iload d_Mod_test_110 rfl ?_
                      refine V_imul tc_10 v23E (by (first | decide +kernel | omega)) d_Mod_test_112 (fun z55 z55e z55E => ?_)
                      refine V_iload d_Mod_test_113 rfl ?_
                      refine V_iadd z55E v38E (by (first | decide +kernel | omega)) d_Mod_test_115 (fun z56 z56e z56E => ?_)
                      refine V_goto 121 d_Mod_test_116 (by decide) ?_
                      refine V_istore 4 [some (.ref 116), some (.int o), some (.int a), some (.int v36), some (.int z56), some (.int v23), some (.int v38), some (.int z45), some (.int z48), some (.int z48)] d_Mod_test_121 (by decide) rfl rfl ?_
                      refine V_iload d_Mod_test_123 rfl ?_
                      refine V_iload_n 3 d_Mod_test_125 rfl rfl ?_
                      refine V_icmp_ge 134 z48E v36E d_Mod_test_126 (by decide) (fun c57 => ?_) (fun c57 => ?_)
                      ·
                        exact absurd c57 (by (first | decide +kernel | omega))
                      ·
                        refine V_iload d_Mod_test_129 rfl ?_
                        refine V_goto 135 d_Mod_test_131 (by decide) ?_
                        refine V_istore_n 3 [some (.ref 116), some (.int o), some (.int a), some (.int z48), some (.int z56), some (.int v23), some (.int v38), some (.int z45), some (.int z48), some (.int z48)] d_Mod_test_135 rfl (by decide) rfl rfl ?_
                        have hs9 := ts_y (g := gM h tZ.toNat oZ) (f0 := ((tt (QM h tZ.toNat oZ 0 1 1) 5 : Nat) + (tt (QM h tZ.toNat oZ 0 1 0) 5 : Nat) : Int)) (C := v23Z) (S := v38Z) (by (first | decide +kernel | omega)) (by (first | decide +kernel | omega)) (by assumption) hx9 (by (first | decide +kernel | omega))
                        obtain ⟨z58, z58E, z58e⟩ : ∃ y : Int32, y.toInt = v38Z + 1 ∧ y = v38 + Int32.ofInt 1 := ⟨_, ti_add v38E (by decide) (by (first | decide +kernel | omega)), rfl⟩
                        refine V_iinc 6 [some (.ref 116), some (.int o), some (.int a), some (.int z48), some (.int z56), some (.int v23), some (.int z58), some (.int z45), some (.int z48), some (.int z48)] d_Mod_test_136 rfl z58e.symm (by decide) rfl rfl ?_
                        refine V_goto 56 d_Mod_test_139 (by decide) ?_
                        refine V_drop 7 [some (.ref 116), some (.int o), some (.int a), some (.int z48), some (.int z56), some (.int v23), some (.int z58), none, some (.int z48), some (.int z48)] rfl ?_
                        refine V_drop 8 [some (.ref 116), some (.int o), some (.int a), some (.int z48), some (.int z56), some (.int v23), some (.int z58), none, none, some (.int z48)] rfl ?_
                        refine V_drop 9 [some (.ref 116), some (.int o), some (.int a), some (.int z48), some (.int z56), some (.int v23), some (.int z58), none, none, none] rfl ?_
                        exact ihL34 z48 z48Z z56 (((10 * v23Z) + v38Z)) z58 ((v38Z + 1)) z48E z56E z58E (by (first | decide +kernel | omega)) hs9.1 hs9.2 (by (first | decide +kernel | omega))
                  ·
                    refine V_iload d_Mod_test_93 rfl ?_
                    refine V_goto 100 d_Mod_test_95 (by decide) ?_
                    have hx9 : z45Z = gM h tZ.toNat oZ (v23Z).toNat v38Z := by unfold gM; rw [← z45E.symm.trans p47.1, ← z48E.symm.trans p50.1]; exact mx2_1 (by (first | decide +kernel | omega))
                    refine V_istore 9 [some (.ref 116), some (.int o), some (.int a), some (.int v36), some (.int v37), some (.int v23), some (.int v38), some (.int z45), some (.int z48), some (.int z45)] d_Mod_test_100 (by decide) rfl rfl ?_
                    refine V_iload d_Mod_test_102 rfl ?_
                    refine V_iload_n 3 d_Mod_test_104 rfl rfl ?_
                    refine V_icmp_ge 119 z45E v36E d_Mod_test_105 (by decide) (fun c59 => ?_) (fun c59 => ?_)
                    ·
                      refine V_iload d_Mod_test_119 rfl ?_
                      refine V_istore 4 [some (.ref 116), some (.int o), some (.int a), some (.int v36), some (.int v37), some (.int v23), some (.int v38), some (.int z45), some (.int z48), some (.int z45)] d_Mod_test_121 (by decide) rfl rfl ?_
                      refine V_iload d_Mod_test_123 rfl ?_
                      refine V_iload_n 3 d_Mod_test_125 rfl rfl ?_
                      refine V_icmp_ge 134 z45E v36E d_Mod_test_126 (by decide) (fun c60 => ?_) (fun c60 => ?_)
                      ·
                        refine V_iload_n 3 d_Mod_test_134 rfl rfl ?_
                        refine V_istore_n 3 [some (.ref 116), some (.int o), some (.int a), some (.int v36), some (.int v37), some (.int v23), some (.int v38), some (.int z45), some (.int z48), some (.int z45)] d_Mod_test_135 rfl (by decide) rfl rfl ?_
                        have hs9 := ts_n (g := gM h tZ.toNat oZ) (f0 := ((tt (QM h tZ.toNat oZ 0 1 1) 5 : Nat) + (tt (QM h tZ.toNat oZ 0 1 0) 5 : Nat) : Int)) (C := v23Z) (S := v38Z) (by (first | decide +kernel | omega)) (by (first | decide +kernel | omega)) (by assumption) (by assumption) hx9 (by (first | decide +kernel | omega))
                        obtain ⟨z61, z61E, z61e⟩ : ∃ y : Int32, y.toInt = v38Z + 1 ∧ y = v38 + Int32.ofInt 1 := ⟨_, ti_add v38E (by decide) (by (first | decide +kernel | omega)), rfl⟩
                        refine V_iinc 6 [some (.ref 116), some (.int o), some (.int a), some (.int v36), some (.int v37), some (.int v23), some (.int z61), some (.int z45), some (.int z48), some (.int z45)] d_Mod_test_136 rfl z61e.symm (by decide) rfl rfl ?_
                        refine V_goto 56 d_Mod_test_139 (by decide) ?_
                        refine V_drop 7 [some (.ref 116), some (.int o), some (.int a), some (.int v36), some (.int v37), some (.int v23), some (.int z61), none, some (.int z48), some (.int z45)] rfl ?_
                        refine V_drop 8 [some (.ref 116), some (.int o), some (.int a), some (.int v36), some (.int v37), some (.int v23), some (.int z61), none, none, some (.int z45)] rfl ?_
                        refine V_drop 9 [some (.ref 116), some (.int o), some (.int a), some (.int v36), some (.int v37), some (.int v23), some (.int z61), none, none, none] rfl ?_
                        exact ihL34 v36 v36Z v37 v37Z z61 ((v38Z + 1)) v36E v37E z61E (by (first | decide +kernel | omega)) hs9.1 hs9.2 (by (first | decide +kernel | omega))
                      ·
                        exact absurd c60 (by (first | decide +kernel | omega))
                    ·
                      refine V_bipush 10 d_Mod_test_108 (by decide) ?_
                      refine V_iload d_Mod_test_110 rfl ?_
                      refine V_imul tc_10 v23E (by (first | decide +kernel | omega)) d_Mod_test_112 (fun z62 z62e z62E => ?_)
                      refine V_iload d_Mod_test_113 rfl ?_
                      refine V_iadd z62E v38E (by (first | decide +kernel | omega)) d_Mod_test_115 (fun z63 z63e z63E => ?_)
                      refine V_goto 121 d_Mod_test_116 (by decide) ?_
                      refine V_istore 4 [some (.ref 116), some (.int o), some (.int a), some (.int v36), some (.int z63), some (.int v23), some (.int v38), some (.int z45), some (.int z48), some (.int z45)] d_Mod_test_121 (by decide) rfl rfl ?_
                      refine V_iload d_Mod_test_123 rfl ?_
                      refine V_iload_n 3 d_Mod_test_125 rfl rfl ?_
                      refine V_icmp_ge 134 z45E v36E d_Mod_test_126 (by decide) (fun c64 => ?_) (fun c64 => ?_)
                      ·
                        exact absurd c64 (by (first | decide +kernel | omega))
                      ·
                        refine V_iload d_Mod_test_129 rfl ?_
                        refine V_goto 135 d_Mod_test_131 (by decide) ?_
                        refine V_istore_n 3 [some (.ref 116), some (.int o), some (.int a), some (.int z45), some (.int z63), some (.int v23), some (.int v38), some (.int z45), some (.int z48), some (.int z45)] d_Mod_test_135 rfl (by decide) rfl rfl ?_
                        have hs9 := ts_y (g := gM h tZ.toNat oZ) (f0 := ((tt (QM h tZ.toNat oZ 0 1 1) 5 : Nat) + (tt (QM h tZ.toNat oZ 0 1 0) 5 : Nat) : Int)) (C := v23Z) (S := v38Z) (by (first | decide +kernel | omega)) (by (first | decide +kernel | omega)) (by assumption) hx9 (by (first | decide +kernel | omega))
                        obtain ⟨z65, z65E, z65e⟩ : ∃ y : Int32, y.toInt = v38Z + 1 ∧ y = v38 + Int32.ofInt 1 := ⟨_, ti_add v38E (by decide) (by (first | decide +kernel | omega)), rfl⟩
                        refine V_iinc 6 [some (.ref 116), some (.int o), some (.int a), some (.int z45), some (.int z63), some (.int v23), some (.int z65), some (.int z45), some (.int z48), some (.int z45)] d_Mod_test_136 rfl z65e.symm (by decide) rfl rfl ?_
                        refine V_goto 56 d_Mod_test_139 (by decide) ?_
                        refine V_drop 7 [some (.ref 116), some (.int o), some (.int a), some (.int z45), some (.int z63), some (.int v23), some (.int z65), none, some (.int z48), some (.int z45)] rfl ?_
                        refine V_drop 8 [some (.ref 116), some (.int o), some (.int a), some (.int z45), some (.int z63), some (.int v23), some (.int z65), none, none, some (.int z45)] rfl ?_
                        refine V_drop 9 [some (.ref 116), some (.int o), some (.int a), some (.int z45), some (.int z63), some (.int v23), some (.int z65), none, none, none] rfl ?_
                        exact ihL34 z45 z45Z z63 (((10 * v23Z) + v38Z)) z65 ((v38Z + 1)) z45E z63E z65E (by (first | decide +kernel | omega)) hs9.1 hs9.2 (by (first | decide +kernel | omega))
            exact L34 (Int.toNat ((3 - 1 : Int) + 1)) v21 v21Z v22 v22Z 1 1 v21E v22E tc_1 (by (first | decide +kernel | omega)) (by rw [show (2 * (v23Z) + 1 - 1).toNat = (2 * (v23Z)).toNat by (first | decide +kernel | omega)]; assumption) (by rw [show (2 * (v23Z) + 1 - 1).toNat = (2 * (v23Z)).toNat by (first | decide +kernel | omega)]; assumption) (by (first | decide +kernel | omega))
      exact L19 (Int.toNat ((16 - 0 : Int) + 1)) z18 ((z12Z + z15Z)) (-4) ((-4)) 0 0 z18E tc_m4 tc_0 (by (first | decide +kernel | omega)) hf0 rfl (by (first | decide +kernel | omega))
    ·
      refine V_iconst (-1) d_Mod_test_17 (by decide) ?_
      exact V_iret rfl d_Mod_test_18 ⟨(-1), rfl, ⟨rfl, (Or.inr ⟨by (first | decide +kernel | omega), tc_m1⟩)⟩⟩
end
section
def bsd (W G c : Int) (y : Nat) : Int := if y = 0 then (if W ≤ c then c - W else -1) else if y = 1 then (if 0 < c % W then c - 1 else -1) else if y = 2 then (if c % W < W - 1 then c + 1 else -1) else (if c + W < W * G then c + W else -1)
def bsdOk (w g : Nat) : Bool := (List.range (w * g)).all (fun c => (List.range 4).all (fun y => decide (bsd (w : Int) (g : Int) (c : Int) y = -1) || (decide (0 ≤ bsd (w : Int) (g : Int) (c : Int) y) && decide (bsd (w : Int) (g : Int) (c : Int) y < ((w * g : Nat) : Int)))) && (decide (0 ≤ bsd (w : Int) (g : Int) (c : Int) 0) || decide (0 ≤ bsd (w : Int) (g : Int) (c : Int) 3)))
theorem bsd_all : ∀ w, w < 5 → 2 ≤ w → ∀ g, g < 5 → 2 ≤ g → bsdOk w g = true := by decide +kernel
theorem bsd_b {W G c : Int} (hW : 2 ≤ W ∧ W ≤ 4) (hG : 2 ≤ G ∧ G ≤ 4) (hc : 0 ≤ c ∧ c < W * G) : (∀ y : Nat, y < 4 → bsd W G c y = -1 ∨ 0 ≤ bsd W G c y ∧ bsd W G c y < W * G) ∧ (0 ≤ bsd W G c 0 ∨ 0 ≤ bsd W G c 3) := by
  have e : ((W.toNat * G.toNat : Nat) : Int) = W * G := by rw [Int.natCast_mul, show ((W.toNat : Nat) : Int) = W by (first | decide +kernel | omega), show ((G.toNat : Nat) : Int) = G by (first | decide +kernel | omega)]
  have h0 := bsd_all W.toNat (by (first | decide +kernel | omega)) (by (first | decide +kernel | omega)) G.toNat (by (first | decide +kernel | omega)) (by (first | decide +kernel | omega))
  have h1 := List.all_eq_true.mp h0 c.toNat (List.mem_range.mpr (by (first | decide +kernel | omega)))
  rw [Bool.and_eq_true] at h1
  have w1 : ((W.toNat : Nat) : Int) = W := by (first | decide +kernel | omega)
  have w2 : ((G.toNat : Nat) : Int) = G := by (first | decide +kernel | omega)
  have w3 : ((c.toNat : Nat) : Int) = c := by (first | decide +kernel | omega)
  refine ⟨fun y hy => ?_, ?_⟩
  · have h2 := List.all_eq_true.mp h1.1 y (List.mem_range.mpr hy)
    rw [w1, w2, w3, e, Bool.or_eq_true, Bool.and_eq_true] at h2
    rcases h2 with h2 | ⟨h2, h3⟩
    · exact Or.inl (of_decide_eq_true h2)
    · exact Or.inr ⟨of_decide_eq_true h2, of_decide_eq_true h3⟩
  · have h2 := h1.2
    rw [w1, w2, w3, Bool.or_eq_true] at h2
    rcases h2 with h2 | h2
    · exact Or.inl (of_decide_eq_true h2)
    · exact Or.inr (of_decide_eq_true h2)
def bbN (f : Nat → Int) (W G c : Int) : Nat → Int
  | 0 => -1
  | y + 1 => if 0 ≤ bsd W G c y ∧ (bbN f W G c y < 0 ∨ f (bbN f W G c y).toNat < f (bsd W G c y).toNat) then bsd W G c y else bbN f W G c y
theorem bbN_s (f : Nat → Int) (W G c : Int) (y : Nat) : bbN f W G c (y + 1) = if 0 ≤ bsd W G c y ∧ (bbN f W G c y < 0 ∨ f (bbN f W G c y).toNat < f (bsd W G c y).toNat) then bsd W G c y else bbN f W G c y := rfl
theorem bbN_b {f : Nat → Int} {W G c : Int} (hW : 2 ≤ W ∧ W ≤ 4) (hG : 2 ≤ G ∧ G ≤ 4) (hc : 0 ≤ c ∧ c < W * G) : ∀ y : Nat, y ≤ 4 → bbN f W G c y = -1 ∨ 0 ≤ bbN f W G c y ∧ bbN f W G c y < W * G := by
  intro y
  induction y with
  | zero => intro _; exact Or.inl rfl
  | succ y ih =>
    intro hy
    have h1 := (bsd_b hW hG hc).1 y (by (first | decide +kernel | omega))
    have h2 := ih (by (first | decide +kernel | omega))
    rw [bbN_s]
    split
    · next q => omega
    · exact h2
theorem bbN_y {f : Nat → Int} {W G c : Int} {y : Nat} (h : 0 ≤ bsd W G c y) : 0 ≤ bbN f W G c (y + 1) := by
  rw [bbN_s]
  split
  · exact h
  · next q =>
    by_cases z : bbN f W G c y < 0
    · exact absurd ⟨h, Or.inl z⟩ q
    · omega
theorem bbN_up {f : Nat → Int} {W G c : Int} {y : Nat} (h : 0 ≤ bbN f W G c y) : 0 ≤ bbN f W G c (y + 1) := by
  rw [bbN_s]
  split
  · next q => exact q.1
  · exact h
theorem bbN_4 {f : Nat → Int} {W G c : Int} (hW : 2 ≤ W ∧ W ≤ 4) (hG : 2 ≤ G ∧ G ≤ 4) (hc : 0 ≤ c ∧ c < W * G) : 0 ≤ bbN f W G c 4 ∧ bbN f W G c 4 < W * G := by
  have h1 := bbN_b (f := f) hW hG hc 4 (by (first | decide +kernel | omega))
  have h2 : 0 ≤ bbN f W G c 4 := by
    rcases (bsd_b hW hG hc).2 with q | q
    · exact bbN_up (bbN_up (bbN_up (bbN_y q)))
    · exact bbN_y q
  omega
theorem bbN_cg {f g : Nat → Int} {W G c : Int} (hW : 2 ≤ W ∧ W ≤ 4) (hG : 2 ≤ G ∧ G ≤ 4) (hc : 0 ≤ c ∧ c < W * G) (e : ∀ i : Nat, (i : Int) < W * G → f i = g i) : ∀ y : Nat, y ≤ 4 → bbN f W G c y = bbN g W G c y := by
  intro y
  induction y with
  | zero => intro _; rfl
  | succ y ih =>
    intro hy
    have h1 := (bsd_b hW hG hc).1 y (by (first | decide +kernel | omega))
    have h2 := bbN_b (f := f) hW hG hc y (by (first | decide +kernel | omega))
    have h3 := ih (by (first | decide +kernel | omega))
    show (if 0 ≤ bsd W G c y ∧ (bbN f W G c y < 0 ∨ f (bbN f W G c y).toNat < f (bsd W G c y).toNat) then bsd W G c y else bbN f W G c y) = (if 0 ≤ bsd W G c y ∧ (bbN g W G c y < 0 ∨ g (bbN g W G c y).toNat < g (bsd W G c y).toNat) then bsd W G c y else bbN g W G c y)
    rw [← h3]
    by_cases q : 0 ≤ bsd W G c y ∧ 0 ≤ bbN f W G c y
    · rw [e (bbN f W G c y).toNat (by (first | decide +kernel | omega)), e (bsd W G c y).toNat (by (first | decide +kernel | omega))]
    · by_cases w : 0 ≤ bsd W G c y ∧ bbN f W G c y < 0
      · rw [if_pos ⟨w.1, Or.inl w.2⟩, if_pos ⟨w.1, Or.inl w.2⟩]
      · rw [if_neg (by (first | decide +kernel | omega)), if_neg (by (first | decide +kernel | omega))]
/-- one way more: the class's step, the reference's -/
theorem bb_y {f : Nat → Int} {W G c K L Y Z : Int} {n : Int} (hn : 0 ≤ n) (hk : K = bsd W G c n.toNat) (hl : L = bbN f W G c n.toNat) (h0 : 0 ≤ K) (h1 : L < 0 ∨ Y = f L.toNat ∧ Z = f K.toNat ∧ Y < Z) : K = bbN f W G c (n + 1).toNat := by
  rw [show (n + 1).toNat = n.toNat + 1 by (first | decide +kernel | omega)]
  show K = (if 0 ≤ bsd W G c n.toNat ∧ (bbN f W G c n.toNat < 0 ∨ f (bbN f W G c n.toNat).toNat < f (bsd W G c n.toNat).toNat) then bsd W G c n.toNat else bbN f W G c n.toNat)
  rw [← hk, ← hl]
  have h2 : L < 0 ∨ f L.toNat < f K.toNat := by
    rcases h1 with h1 | ⟨a, b, d⟩
    · exact Or.inl h1
    · exact Or.inr (by rw [← a, ← b]; exact d)
  rw [if_pos ⟨h0, h2⟩]
theorem bb_n {f : Nat → Int} {W G c K L Y Z : Int} {n : Int} (hn : 0 ≤ n) (hk : K = bsd W G c n.toNat) (hl : L = bbN f W G c n.toNat) (h1 : K < 0 ∨ 0 ≤ L ∧ Y = f L.toNat ∧ Z = f K.toNat ∧ Z ≤ Y) : L = bbN f W G c (n + 1).toNat := by
  rw [show (n + 1).toNat = n.toNat + 1 by (first | decide +kernel | omega)]
  show L = (if 0 ≤ bsd W G c n.toNat ∧ (bbN f W G c n.toNat < 0 ∨ f (bbN f W G c n.toNat).toNat < f (bsd W G c n.toNat).toNat) then bsd W G c n.toNat else bbN f W G c n.toNat)
  rw [← hk, ← hl]
  have h2 : ¬ (0 ≤ K ∧ (L < 0 ∨ f L.toNat < f K.toNat)) := by
    rcases h1 with h1 | ⟨z, a, b, d⟩
    · omega
    · rw [← a, ← b]; omega
  rw [if_neg h2]
theorem emod_p {c w : Int} (hc : 0 ≤ c) (h : 0 < c % w) : 1 ≤ c := by
  by_cases z : c = 0
  · rw [z, Int.zero_emod] at h; omega
  · omega
def mb (x : Int) : Int := if x < 0 then -4 else x
theorem mb_s (x : Int) : x < 0 ∧ mb x = -4 ∨ 0 ≤ x ∧ mb x = x := by
  unfold mb
  split <;> omega
/-- what one STEP SHOWS -/
noncomputable def svv (P : Prop) (w : Int) : Int := 2 * (@ite Int P (Classical.propDecidable P) 1 0) - (if 0 < w then 1 else 0)
theorem svv_t {P : Prop} {w : Int} (h : P) : svv P w = 2 - (if 0 < w then 1 else 0) := by unfold svv; rw [if_pos h]; rfl
theorem svv_f {P : Prop} {w : Int} (h : ¬ P) : svv P w = 0 - (if 0 < w then 1 else 0) := by unfold svv; rw [if_neg h]; rfl
theorem svv_b (P : Prop) (w : Int) : -1 ≤ svv P w ∧ svv P w ≤ 2 := by
  by_cases h : P
  · rw [svv_t h]; split <;> omega
  · rw [svv_f h]; split <;> omega
theorem svv_of {P : Prop} {r : Int32} {w x R : Int} (t : twR r P) (rE : r.toInt = R) (h : x = 2 * R - 1 ∧ 0 < w ∨ x = 2 * R ∧ w ≤ 0) : x = svv P w := by
  rcases t with ⟨a, b⟩ | ⟨a, b⟩
  · rw [svv_t b]; split <;> omega
  · rw [svv_f b]; split <;> omega
noncomputable def svC (h : Hp) (n m o : Int) (c : Nat) (s : Int) : Int := svv (twC h n m c o s) (h.1 2 c).toInt
noncomputable def svM (h : Hp) (n m o : Int) (c : Nat) (s : Int) : Int := svv (twM h n m c o s) (h.1 117 c).toInt
theorem svC_fr {S : List (Nat × Option Nat)} {h h' : Hp} (f : fr S h h') (ck : ckS S 0 16 = true) {n m o s : Int} {c : Nat} : svC h' n m o c s = svC h n m o c s := by
  unfold svC twC
  rw [f.1 2 c (ckS_no ck (by (first | decide +kernel | omega)) (by (first | decide +kernel | omega))), f.1 3 c (ckS_no ck (by (first | decide +kernel | omega)) (by (first | decide +kernel | omega))), f.1 5 c (ckS_no ck (by (first | decide +kernel | omega)) (by (first | decide +kernel | omega)))]
theorem svM_fr {S : List (Nat × Option Nat)} {h h' : Hp} (f : fr S h h') (ck : ckS S 117 117 = true) {n m o s : Int} {c : Nat} : svM h' n m o c s = svM h n m o c s := by
  unfold svM twM
  rw [f.1 117 c (ckS_no ck (by (first | decide +kernel | omega)) (by (first | decide +kernel | omega))), f.1 117 (16 + c) (ckS_no ck (by (first | decide +kernel | omega)) (by (first | decide +kernel | omega))), f.1 117 (48 + c) (ckS_no ck (by (first | decide +kernel | omega)) (by (first | decide +kernel | omega)))]
/-- the most that is SHOWN with so many STEPS behind -/
def vv9 (sv : Nat → Int → Int) (W G n : Int) : Nat → Nat → Int
  | 0, c => sv c n
  | k + 1, c => sv c (n - ((k : Int) + 1)) + vv9 sv W G n k (bbN (vv9 sv W G n k) W G (c : Int) 4).toNat
theorem vv9_b {sv : Nat → Int → Int} {W G n : Int} (hs : ∀ (c : Nat) (s : Int), -1 ≤ sv c s ∧ sv c s ≤ 2) : ∀ (k c : Nat), -((k : Int) + 1) ≤ vv9 sv W G n k c ∧ vv9 sv W G n k c ≤ 2 * ((k : Int) + 1) := by
  intro k
  induction k with
  | zero => intro c; have := hs c n; show _ ≤ sv c n ∧ sv c n ≤ _; omega
  | succ k ih =>
    intro c
    have h1 := hs c (n - ((k : Int) + 1))
    have h2 := ih (bbN (vv9 sv W G n k) W G (c : Int) 4).toNat
    show _ ≤ sv c (n - ((k : Int) + 1)) + vv9 sv W G n k (bbN (vv9 sv W G n k) W G (c : Int) 4).toNat ∧ sv c (n - ((k : Int) + 1)) + vv9 sv W G n k (bbN (vv9 sv W G n k) W G (c : Int) 4).toNat ≤ _
    omega
/-- a row holds that -/
def VR (v : Nat → Nat → Int) (W : Int) (g : Hp) (p o : Nat) (k : Nat) (m : Int) : Prop := ∀ c : Nat, (c : Int) < m → (c : Int) < W → (g.1 p (o + c)).toInt = v k c
theorem VR_0 {v : Nat → Nat → Int} {W : Int} {g : Hp} {p o k : Nat} : VR v W g p o k 0 := fun c hc _ => by (first | decide +kernel | omega)
theorem VR_s {v : Nat → Nat → Int} {W m X : Int} {g g2 : Hp} {p o k i : Nat} {x : Int32} (r : VR v W g p o k m) (hm : 0 ≤ m) (e : g2 = pI g p i x) (hi : i = o + m.toNat) (xE : x.toInt = X) (hx : X = v k m.toNat) : VR v W g2 p o k (m + 1) := fun c hc hw => by
  rw [e, pI_at]
  by_cases q : c = m.toNat
  · rw [if_pos ⟨rfl, by (first | decide +kernel | omega)⟩, xE, hx, q]
  · rw [if_neg (by (first | decide +kernel | omega))]; exact r c (by (first | decide +kernel | omega)) hw
theorem VR_ne {v : Nat → Nat → Int} {W m : Int} {g g2 : Hp} {p o k p2 i : Nat} {x : Int32} (r : VR v W g p o k m) (e : g2 = pI g p2 i x) (hp : p ≠ p2 ∨ i < o ∨ o + 16 ≤ i) (hW : W ≤ 16) : VR v W g2 p o k m := fun c hc hw => by
  rw [e, pI_at, if_neg (by (first | decide +kernel | omega))]
  exact r c hc hw
theorem vv9_s {sv : Nat → Int → Int} {W G n L : Int} {c : Int} (hc : 0 ≤ c) (hn : L < n - 1) (h0 : 0 ≤ L) : vv9 sv W G n (n - 1 - L).toNat c.toNat = sv c.toNat (L + 1) + vv9 sv W G n (n - 1 - (L + 1)).toNat (bbN (vv9 sv W G n (n - 1 - (L + 1)).toNat) W G c 4).toNat := by
  rw [show (n - 1 - L).toNat = (n - 1 - (L + 1)).toNat + 1 by (first | decide +kernel | omega)]
  show sv c.toNat (n - (((n - 1 - (L + 1)).toNat : Int) + 1)) + vv9 sv W G n (n - 1 - (L + 1)).toNat (bbN (vv9 sv W G n (n - 1 - (L + 1)).toNat) W G ((c.toNat : Nat) : Int) 4).toNat = _
  rw [show n - (((n - 1 - (L + 1)).toNat : Int) + 1) = L + 1 by (first | decide +kernel | omega), show ((c.toNat : Nat) : Int) = c by (first | decide +kernel | omega)]
theorem vv9_n {sv : Nat → Int → Int} {W G n L : Int} {c : Nat} (hn : L = n - 1) : vv9 sv W G n (n - 1 - L).toNat c = sv c (L + 1) := by
  rw [show (n - 1 - L).toNat = 0 by (first | decide +kernel | omega), show L + 1 = n by (first | decide +kernel | omega)]
  rfl
/-- the path -/
def pth (v : Nat → Nat → Int) (W G n c : Int) : Nat → Int
  | 0 => c
  | i + 1 => bbN (v (n - 1 - ((i : Int) + 1)).toNat) W G (pth v W G n c i) 4
theorem pth_b {v : Nat → Nat → Int} {W G n c : Int} (hW : 2 ≤ W ∧ W ≤ 4) (hG : 2 ≤ G ∧ G ≤ 4) (hc : 0 ≤ c ∧ c < W * G) : ∀ i : Nat, 0 ≤ pth v W G n c i ∧ pth v W G n c i < W * G := by
  intro i
  induction i with
  | zero => exact hc
  | succ i ih => exact bbN_4 hW hG ih
theorem pth_s {v : Nat → Nat → Int} {W G n c L : Int} (hL : 1 ≤ L) : pth v W G n c L.toNat = bbN (v (n - 1 - L).toNat) W G (pth v W G n c (L - 1).toNat) 4 := by
  rw [show L.toNat = (L - 1).toNat + 1 by (first | decide +kernel | omega)]
  show bbN (v (n - 1 - (((L - 1).toNat : Int) + 1)).toNat) W G (pth v W G n c (L - 1).toNat) 4 = _
  rw [show n - 1 - (((L - 1).toNat : Int) + 1) = n - 1 - L by (first | decide +kernel | omega)]
def PT (q : Nat → Int) (g : Hp) (m : Int) : Prop := ∀ i : Nat, (i : Int) < m → (g.1 101 i).toInt = q i
theorem PT_s {q : Nat → Int} {g g2 : Hp} {m X : Int} {x : Int32} (r : PT q g m) (hm : 0 ≤ m) (e : g2 = pI g 101 m.toNat x) (xE : x.toInt = X) (hx : X = q m.toNat) : PT q g2 (m + 1) := fun i hi => by
  rw [e, pI_at]
  by_cases w : i = m.toNat
  · rw [if_pos ⟨rfl, w⟩, xE, hx, w]
  · rw [if_neg (fun c => w c.2)]; exact r i (by (first | decide +kernel | omega))
/-- the answer -/
def SWr (v : Nat → Nat → Int) (W G n c a : Int) : Int := if a = 0 then 10 + v (n - 1).toNat c.toNat else pth v W G n c (a - 10).toNat
end
