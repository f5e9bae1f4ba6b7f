/-! sets of numbers as bits, by a proposition -/
def BP (x : Int32) (P : Nat → Prop) : Prop := ∀ j : Nat, (uN x).testBit j = true ↔ P j
theorem BP_lt {x : Int32} {P : Nat → Prop} (b : BP x P) {j : Nat} (h : P j) : j < 32 := by
  by_cases q : j < 32
  · exact q
  · have := (b j).mpr h
    rw [Nat.testBit_lt_two_pow (Nat.lt_of_lt_of_le (uN_lt x) (Nat.pow_le_pow_right (by decide) (by omega)))] at this
    cases this
theorem BP_cg {x : Int32} {P Q : Nat → Prop} (b : BP x P) (h : ∀ j : Nat, P j ↔ Q j) : BP x Q := fun j => (b j).trans (h j)
theorem BP_ext {x y : Int32} {P : Nat → Prop} (a : BP x P) (b : BP y P) : x = y := uN_inj (Nat.eq_of_testBit_eq (fun j => Bool.eq_iff_iff.mpr ((a j).trans (b j).symm)))
theorem BP_0 : BP 0 (fun _ => False) := fun j => by
  rw [BS_0 j]
  exact ⟨fun h => (by cases h), fun h => h.elim⟩
theorem BP_or {x y : Int32} {P Q : Nat → Prop} (a : BP x P) (b : BP y Q) : BP (x ||| y) (fun j => P j ∨ Q j) := fun j => by
  rw [uN_or, Nat.testBit_or, Bool.or_eq_true]
  exact or_congr (a j) (b j)
theorem BP_and {x y : Int32} {P Q : Nat → Prop} (a : BP x P) (b : BP y Q) : BP (x &&& y) (fun j => P j ∧ Q j) := fun j => by
  rw [uN_and, Nat.testBit_and, Bool.and_eq_true]
  exact and_congr (a j) (b j)
theorem BP_S {x : Int32} {p : Nat → Bool} (b : BS x p) : BP x (fun j => p j = true) := fun j => by rw [b j]
theorem BP_not {x : Int32} {P : Nat → Prop} (a : BP x P) : BP (x ^^^ -1) (fun j => j < 32 ∧ ¬ P j) := fun j => by
  have b : BS x (fun j => (uN x).testBit j) := fun _ => rfl
  rw [BS_not b j, Bool.and_eq_true, decide_eq_true_iff]
  refine and_congr Iff.rfl ?_
  show (!(uN x).testBit j) = true ↔ ¬ P j
  rw [← a j]
  cases (uN x).testBit j <;> decide
theorem BP_one {i : Int32} {I : Int} (iE : i.toInt = I) (h : 0 ≤ I ∧ I < 32) : BP (1 <<< (i &&& 31)) (fun j => j = I.toNat) := fun j => by
  rw [BS_one iE h j, decide_eq_true_iff]
theorem BP_sh {x i z w : Int32} {I W : Int} {P : Nat → Prop} (b : BP x P) (iE : i.toInt = I) (h : 0 ≤ I ∧ I < 32) (e1 : z = x >>> (i &&& 31)) (e2 : w = z &&& 1) (wE : w.toInt = W) : W = 1 ∧ P I.toNat ∨ W = 0 ∧ ¬ P I.toNat := by
  have b2 : BS x (fun j => (uN x).testBit j) := fun _ => rfl
  have := BS_sh b2 iE h e1 e2 wE
  have c := b I.toNat
  by_cases q : (uN x).testBit I.toNat = true
  · rw [if_pos q] at this; exact Or.inl ⟨this, c.mp q⟩
  · rw [if_neg q] at this; exact Or.inr ⟨this, fun d => q (c.mpr d)⟩
theorem BP_flag {f k z : Int32} {K : Int} {P : Prop} (hf : twR f P) (kE : k.toInt = K) (hk : 0 ≤ K ∧ K < 32) (e : z = f <<< (k &&& 31)) : BP z (fun j => P ∧ j = K.toNat) := by
  rcases hf with ⟨a, b⟩ | ⟨a, b⟩
  · have : f = 1 := same_of a rfl
    rw [e, this]
    exact BP_cg (BP_one kE hk) (fun j => ⟨fun q => ⟨b, q⟩, fun q => q.2⟩)
  · have : f = 0 := same_of a rfl
    rw [e, this, Int32.zero_shiftLeft]
    exact BP_cg BP_0 (fun j => ⟨fun q => q.elim, fun q => b q.1⟩)
theorem BP_add {x c s y : Int32} {P : Nat → Prop} {n : Int} (r : BP x (fun j => j < n.toNat ∧ P j)) (cE : c.toInt = n) (hn : 0 ≤ n ∧ n < 32) (g : P n.toNat) (e1 : s = 1 <<< (c &&& 31)) (e2 : y = x ||| s) : BP y (fun j => j < (n + 1).toNat ∧ P j) := by
  rw [e2, e1]
  refine BP_cg (BP_or r (BP_one cE hn)) (fun j => ⟨fun q => ?_, fun q => ?_⟩)
  · rcases q with q | q
    · exact ⟨by omega, q.2⟩
    · exact ⟨by omega, by rw [q]; exact g⟩
  · by_cases w : j = n.toNat
    · exact Or.inr w
    · exact Or.inl ⟨by omega, q.2⟩
theorem BP_skip {x : Int32} {P : Nat → Prop} {n : Int} (r : BP x (fun j => j < n.toNat ∧ P j)) (hn : 0 ≤ n) (g : ¬ P n.toNat) : BP x (fun j => j < (n + 1).toNat ∧ P j) := by
  refine BP_cg r (fun j => ⟨fun q => ⟨by omega, q.2⟩, fun q => ?_⟩)
  by_cases w : j = n.toNat
  · rw [w] at q; exact absurd q.2 g
  · exact ⟨by omega, q.2⟩
theorem BP_none {P : Nat → Prop} : BP 0 (fun j => j < (0 : Int).toNat ∧ P j) := BP_cg BP_0 (fun j => ⟨fun q => q.elim, fun q => by have := q.1; omega⟩)
/-! RODS by numbers -/
def rN (r : Nat) : Int := if r < 9 then 0 else if r < 18 then 4 else (r : Int) - 17
def rR (r : Nat) : Int := (r : Int) % 9 + 1
theorem rN_0 {r : Nat} {d x : Int} (h : 0 ≤ d ∧ d < 9) (hr : d = r) (e : x = 0) : x = rN r := by unfold rN; rw [if_pos (by omega), e]
theorem rN_4 {r : Nat} {d x : Int} (h : 9 ≤ d ∧ d < 18) (hr : d = r) (e : x = 4) : x = rN r := by unfold rN; rw [if_neg (by omega), if_pos (by omega), e]
theorem rN_u {r : Nat} {d x : Int} (h : 18 ≤ d) (hr : d = r) (e : x = d - 18 + 1) : x = rN r := by unfold rN; rw [if_neg (by omega), if_neg (by omega), e]; omega
theorem rN_b (r : Nat) (h : r < 21) : 0 ≤ rN r ∧ rN r ≤ 4 := by unfold rN; split; omega; split <;> omega
/-- all that was SEEN, the first k, is so by a rod: the class's, the reference's -/
def ftC (h : Hp) (n rc : Int) (k : Nat) : Prop := ∀ i : Nat, i < k → (twC h n rc (h.1 13 i).toInt.toNat (h.1 14 i).toInt (h.1 15 i).toInt ↔ (h.1 16 i).toInt = 1)
def ftM (h : Hp) (n rc : Int) (k : Nat) : Prop := ∀ i : Nat, i < k → (twM h n rc (h.1 117 (112 + 4 * i)).toInt.toNat (h.1 117 (113 + 4 * i)).toInt (h.1 117 (114 + 4 * i)).toInt ↔ (h.1 117 (115 + 4 * i)).toInt = 1)
theorem ft_same {h : Hp} (hI : Inv h) (ra : JA h) (rb : JB h) {n rc : Int} {k : Nat} (hk : k ≤ 8 ∧ (k : Int) ≤ (h.1 12 4).toInt) : ftC h n rc k ↔ ftM h n rc k := by
  have key : ∀ i : Nat, i < k → (twC h n rc (h.1 13 i).toInt.toNat (h.1 14 i).toInt (h.1 15 i).toInt ↔ twM h n rc (h.1 117 (112 + 4 * i)).toInt.toNat (h.1 117 (113 + 4 * i)).toInt (h.1 117 (114 + 4 * i)).toInt) ∧ ((h.1 16 i).toInt = 1 ↔ (h.1 117 (115 + 4 * i)).toInt = 1) := fun i hi => by
    have s := ra.1.2.2 i (by omega) (by rw [Nat.zero_add]; omega)
    rw [Nat.zero_add, Nat.zero_add, Nat.zero_add, Nat.zero_add, Nat.zero_add, Nat.zero_add, Nat.zero_add, Nat.zero_add] at s
    have b : 0 ≤ (h.1 13 i).toInt ∧ (h.1 13 i).toInt ≤ 15 := hI 13 i
    rw [← s.1, ← s.2.1, ← s.2.2.1, ← s.2.2.2]
    exact ⟨tw_same ra rb (by omega), Iff.rfl⟩
  exact ⟨fun f i hi => ⟨fun q => (key i hi).2.mp ((f i hi).mp ((key i hi).1.mpr q)), fun q => (key i hi).1.mp ((f i hi).mpr ((key i hi).2.mpr q))⟩, fun f i hi => ⟨fun q => (key i hi).2.mpr ((f i hi).mp ((key i hi).1.mp q)), fun q => (key i hi).1.mpr ((f i hi).mpr ((key i hi).2.mp q))⟩⟩
theorem ft_s {f : Nat → Prop} {n : Int} (hn : 0 ≤ n) : (∀ i : Nat, i < (n + 1).toNat → f i) ↔ (∀ i : Nat, i < n.toNat → f i) ∧ f n.toNat := by
  refine ⟨fun q => ⟨fun i hi => q i (by omega), q _ (by omega)⟩, fun q i hi => ?_⟩
  by_cases w : i = n.toNat
  · rw [w]; exact q.2
  · exact q.1 i (by omega)
theorem FT_0 {h : Hp} : BP 2097151 (fun j => j < 21 ∧ ftC h (rN j) (rR j) (0 : Int).toNat) := fun j => by
  rw [show uN 2097151 = 2 ^ 21 - 1 by decide, Nat.testBit_two_pow_sub_one, decide_eq_true_iff]
  exact ⟨fun q => ⟨q, fun i hi => by omega⟩, fun q => q.1⟩
theorem FT_1 {h : Hp} {x t y c o s w : Int32} {n C O S W : Int} (hn : 0 ≤ n) (r : BP x (fun j => j < 21 ∧ ftC h (rN j) (rR j) n.toNat)) (b : BP t (fun j => j < 21 ∧ twC h (rN j) (rR j) C.toNat O S)) (ce : c = h.1 13 n.toNat) (cE : c.toInt = C) (oe : o = h.1 14 n.toNat) (oE : o.toInt = O) (se : s = h.1 15 n.toNat) (sE : s.toInt = S) (we : w = h.1 16 n.toNat) (wE : w.toInt = W) (hw : W = 1) (e : y = x &&& t) : BP y (fun j => j < 21 ∧ ftC h (rN j) (rR j) (n + 1).toNat) := by
  rw [e]
  refine BP_cg (BP_and r b) (fun j => ?_)
  unfold ftC
  rw [ft_s hn, ← ce, ← oe, ← se, ← we, cE, oE, sE, wE]
  exact ⟨fun q => ⟨q.1.1, q.1.2, ⟨fun _ => hw, fun _ => q.2.2⟩⟩, fun q => ⟨⟨q.1, q.2.1⟩, q.1, q.2.2.mpr hw⟩⟩
theorem FT_n {h : Hp} {x t t2 y c o s w : Int32} {n C O S W : Int} (hn : 0 ≤ n) (r : BP x (fun j => j < 21 ∧ ftC h (rN j) (rR j) n.toNat)) (b : BP t (fun j => j < 21 ∧ twC h (rN j) (rR j) C.toNat O S)) (ce : c = h.1 13 n.toNat) (cE : c.toInt = C) (oe : o = h.1 14 n.toNat) (oE : o.toInt = O) (se : s = h.1 15 n.toNat) (sE : s.toInt = S) (we : w = h.1 16 n.toNat) (wE : w.toInt = W) (hw : W = 0) (e0 : t2 = t ^^^ -1) (e : y = x &&& t2) : BP y (fun j => j < 21 ∧ ftC h (rN j) (rR j) (n + 1).toNat) := by
  rw [e, e0]
  refine BP_cg (BP_and r (BP_not b)) (fun j => ?_)
  unfold ftC
  rw [ft_s hn, ← ce, ← oe, ← se, ← we, cE, oE, sE, wE]
  refine ⟨fun q => ⟨q.1.1, q.1.2, ⟨fun k => absurd ⟨q.1.1, k⟩ q.2.2, fun k => ?_⟩⟩, fun q => ⟨⟨q.1, q.2.1⟩, by omega, fun k => ?_⟩⟩
  · omega
  · have := q.2.2.mp k.2; omega
theorem FM_s {h : Hp} {n m K : Int} {f g c o s w r z : Int32} {R F C O S W : Int} (hK : 0 ≤ K) (a : twR f (ftM h n m K.toNat)) (fE : f.toInt = F) (hF : F ≠ 0) (t : twR r (twM h n m C.toNat O S)) (rE : r.toInt = R) (fl : R ≠ 0 ∧ z.toInt = 1 ∨ R = 0 ∧ z.toInt = 0) (ce : c = h.1 117 (112 + 4 * K).toNat) (cE : c.toInt = C) (oe : o = h.1 117 (112 + 4 * K + 1).toNat) (oE : o.toInt = O) (se : s = h.1 117 (112 + 4 * K + 2).toNat) (sE : s.toInt = S) (we : w = h.1 117 (112 + 4 * K + 3).toNat) (wE : w.toInt = W) (wb : 0 ≤ W ∧ W ≤ 1) {Z G : Int} (zE : z.toInt = Z) (gE : g.toInt = G) (hg : Z = W ∧ G = 1 ∨ Z ≠ W ∧ G = 0) : twR g (ftM h n m (K + 1).toNat) := by
  rw [show (112 + 4 * K).toNat = 112 + 4 * K.toNat by omega] at ce
  rw [show (112 + 4 * K + 1).toNat = 113 + 4 * K.toNat by omega] at oe
  rw [show (112 + 4 * K + 2).toNat = 114 + 4 * K.toNat by omega] at se
  rw [show (112 + 4 * K + 3).toNat = 115 + 4 * K.toNat by omega] at we
  have ha : ftM h n m K.toNat := by
    rcases a with ⟨_, a⟩ | ⟨a, _⟩
    · exact a
    · omega
  have q := ft_s (f := fun i => (twM h n m (h.1 117 (112 + 4 * i)).toInt.toNat (h.1 117 (113 + 4 * i)).toInt (h.1 117 (114 + 4 * i)).toInt ↔ (h.1 117 (115 + 4 * i)).toInt = 1)) hK
  have q2 : ftM h n m (K + 1).toNat ↔ ftM h n m K.toNat ∧ (twM h n m C.toNat O S ↔ W = 1) := by
    rw [← ce, ← oe, ← se, ← we, cE, oE, sE, wE] at q
    exact q
  refine twR_cg (P := (twM h n m C.toNat O S ↔ W = 1)) ?_ (by rw [q2]; exact ⟨fun k => ⟨ha, k⟩, fun k => k.2⟩)
  unfold twR
  rw [gE]
  rcases t with ⟨t1, t2⟩ | ⟨t1, t2⟩
  · rcases hg with ⟨g1, g2⟩ | ⟨g1, g2⟩
    · exact Or.inl ⟨g2, ⟨fun _ => by omega, fun _ => t2⟩⟩
    · exact Or.inr ⟨g2, fun k => by have := k.mp t2; omega⟩
  · rcases hg with ⟨g1, g2⟩ | ⟨g1, g2⟩
    · exact Or.inl ⟨g2, ⟨fun k => absurd k t2, fun k => by omega⟩⟩
    · exact Or.inr ⟨g2, fun k => t2 (k.mpr (by omega))⟩
theorem FM_n {h : Hp} {n m K F : Int} {f : Int32} (hK : 0 ≤ K) (a : twR f (ftM h n m K.toNat)) (fE : f.toInt = F) (hF : F = 0) : twR 0 (ftM h n m (K + 1).toNat) := by
  rcases a with ⟨a, _⟩ | ⟨_, a⟩
  · omega
  · exact Or.inr ⟨rfl, fun q => a (fun i hi => q i (by omega))⟩
theorem FM_0 {h : Hp} {n m : Int} : twR 1 (ftM h n m (0 : Int).toNat) := Or.inl ⟨rfl, fun i hi => by omega⟩
/-! natures, reaches -/
def NQ (F : Int → Int → Prop) (n : Nat) (j : Nat) : Prop := ∃ q : Nat, q < n ∧ F (rN q) (rR q) ∧ rN q = (j : Int)
theorem NQ_0 {F : Int → Int → Prop} : BP 0 (NQ F (0 : Int).toNat) := BP_cg BP_0 (fun j => ⟨fun q => q.elim, fun ⟨q, a, _⟩ => by omega⟩)
theorem NQ_n {F : Int → Int → Prop} {x : Int32} {n : Int} (r : BP x (NQ F n.toNat)) (hn : 0 ≤ n) (g : ¬ F (rN n.toNat) (rR n.toNat)) : BP x (NQ F (n + 1).toNat) := by
  refine BP_cg r (fun j => ⟨fun ⟨q, a, b⟩ => ⟨q, by omega, b⟩, fun ⟨q, a, b, c⟩ => ?_⟩)
  by_cases w : q = n.toNat
  · rw [w] at b; exact absurd b g
  · exact ⟨q, by omega, b, c⟩
theorem NQ_1 {F : Int → Int → Prop} {x k s y : Int32} {n : Int} (r : BP x (NQ F n.toNat)) (hn : 0 ≤ n ∧ n < 21) (g : F (rN n.toNat) (rR n.toNat)) (ke : k.toInt = rN n.toNat) (e1 : s = 1 <<< (k &&& 31)) (e2 : y = x ||| s) : BP y (NQ F (n + 1).toNat) := by
  have b := rN_b n.toNat (by omega)
  rw [e2, e1]
  refine BP_cg (BP_or r (BP_one ke (by omega))) (fun j => ⟨fun q => ?_, fun ⟨q, a, c, d⟩ => ?_⟩)
  · rcases q with ⟨q, a, c⟩ | q
    · exact ⟨q, by omega, c⟩
    · exact ⟨n.toNat, by omega, g, by omega⟩
  · by_cases w : q = n.toNat
    · rw [w] at d; exact Or.inr (by omega)
    · exact Or.inl ⟨q, by omega, c, d⟩
def rO (k : Int) : Int := if k = 0 ∨ k = 4 then 9 else 1
/-- the reference's: all of the natures below K, and of K the reaches below R -/
def MQ2 (F : Int → Int → Prop) (K R : Int) (j : Nat) : Prop := ∃ k r : Int, 0 ≤ k ∧ (k < K ∧ r ≤ rO k ∨ k = K ∧ r < R) ∧ 1 ≤ r ∧ F k r ∧ k = (j : Int)
theorem MQ2_0 {F : Int → Int → Prop} : BP 0 (MQ2 F 0 1) := BP_cg BP_0 (fun j => ⟨fun q => q.elim, fun ⟨k, r, a, b, c, _⟩ => by omega⟩)
theorem MQ2_k {F : Int → Int → Prop} {x : Int32} {K R : Int} (r : BP x (MQ2 F K R)) (hR : rO K < R) (hK : 0 ≤ K) (hR2 : R ≤ rO K + 1) : BP x (MQ2 F (K + 1) 1) := by
  refine BP_cg r (fun j => ⟨fun ⟨k, q, a, b, c⟩ => ⟨k, q, a, ?_, c⟩, fun ⟨k, q, a, b, c⟩ => ⟨k, q, a, ?_, c⟩⟩)
  · rcases b with b | ⟨b1, b2⟩
    · exact Or.inl ⟨by omega, b.2⟩
    · subst b1; exact Or.inl ⟨by omega, by omega⟩
  · rcases b with b | b
    · by_cases w : k = K
      · subst w; exact Or.inr ⟨rfl, by omega⟩
      · exact Or.inl ⟨by omega, b.2⟩
    · omega
theorem MQ2_r {F : Int → Int → Prop} {x f k s y : Int32} {K R : Int} (r : BP x (MQ2 F K R)) (hf : twR f (F K R)) (kE : k.toInt = K) (hK : 0 ≤ K ∧ K ≤ 4) (hR : 1 ≤ R) (e1 : s = f <<< (k &&& 31)) (e2 : y = x ||| s) : BP y (MQ2 F K (R + 1)) := by
  rw [e2]
  refine BP_cg (BP_or r (BP_flag hf kE (by omega) e1)) (fun j => ⟨fun q => ?_, fun ⟨k, q, a, b, c, d, e⟩ => ?_⟩)
  · rcases q with ⟨k, q, a, b, c⟩ | ⟨q, w⟩
    · exact ⟨k, q, a, by omega, c⟩
    · exact ⟨K, R, hK.1, Or.inr ⟨rfl, by omega⟩, hR, q, by omega⟩
  · by_cases w : k = K ∧ q = R
    · obtain ⟨rfl, rfl⟩ := w
      exact Or.inr ⟨d, by omega⟩
    · exact Or.inl ⟨k, q, a, by omega, c, d, e⟩
/-- of NATURES 1, 2, 3 the REACH is idle -/
def idle (F : Int → Int → Prop) : Prop := ∀ k r r2 : Int, 1 ≤ k → k ≤ 3 → (F k r ↔ F k r2)
theorem tw_idle {k r r2 w i l o s : Int} (h1 : 1 ≤ k) (h3 : k ≤ 3) : tw k r w i l o s ↔ tw k r2 w i l o s := by
  unfold tw
  refine or_congr ⟨fun q => by omega, fun q => by omega⟩ (or_congr Iff.rfl (or_congr Iff.rfl (or_congr Iff.rfl ⟨fun q => by omega, fun q => by omega⟩)))
theorem ftM_idle {h : Hp} {k : Nat} : idle (fun n rc => ftM h n rc k) := fun n r r2 h1 h3 => by
  have : ∀ i : Nat, (twM h n r (h.1 117 (112 + 4 * i)).toInt.toNat (h.1 117 (113 + 4 * i)).toInt (h.1 117 (114 + 4 * i)).toInt ↔ twM h n r2 (h.1 117 (112 + 4 * i)).toInt.toNat (h.1 117 (113 + 4 * i)).toInt (h.1 117 (114 + 4 * i)).toInt) := fun i => tw_idle h1 h3
  exact ⟨fun f i hi => (this i).symm.trans (f i hi), fun f i hi => (this i).trans (f i hi)⟩
theorem NQ_MQ {F : Int → Int → Prop} (id : idle F) (j : Nat) : NQ F 21 j ↔ MQ2 F 5 1 j := by
  constructor
  · rintro ⟨q, a, b, c⟩
    by_cases w : q < 18
    · refine ⟨rN q, rR q, (rN_b q a).1, Or.inl ⟨by have := rN_b q a; omega, ?_⟩, by unfold rR; omega, b, c⟩
      have : rN q = 0 ∨ rN q = 4 := by unfold rN; split; exact Or.inl rfl; exact Or.inr rfl
      unfold rO rR
      rw [if_pos this]
      omega
    · have e : rN q = (q : Int) - 17 := by unfold rN; rw [if_neg (by omega), if_neg w]
      refine ⟨rN q, 1, by omega, Or.inl ⟨by omega, ?_⟩, by omega, (id _ _ 1 (by omega) (by omega)).mp b, c⟩
      unfold rO
      split <;> omega
  · rintro ⟨k, r, a, b, c, d, e⟩
    have hb : k < 5 ∧ r ≤ rO k := by omega
    unfold rO at hb
    by_cases w : k = 0
    · subst w
      rw [if_pos (Or.inl rfl)] at hb
      have e0 : rN (r - 1).toNat = 0 := by unfold rN; rw [if_pos (by omega)]
      have e1 : rR (r - 1).toNat = r := by unfold rR; omega
      exact ⟨(r - 1).toNat, by omega, by rw [e0, e1]; exact d, by rw [e0]; exact e⟩
    · by_cases w4 : k = 4
      · subst w4
        rw [if_pos (Or.inr rfl)] at hb
        have e0 : rN (r + 8).toNat = 4 := by unfold rN; rw [if_neg (by omega), if_pos (by omega)]
        have e1 : rR (r + 8).toNat = r := by unfold rR; omega
        exact ⟨(r + 8).toNat, by omega, by rw [e0, e1]; exact d, by rw [e0]; exact e⟩
      · have e0 : rN (k + 17).toNat = k := by unfold rN; rw [if_neg (by omega), if_neg (by omega)]; omega
        exact ⟨(k + 17).toNat, by omega, by rw [e0]; exact (id _ _ _ (by omega) (by omega)).mp d, by rw [e0]; exact e⟩
/-! reaches -/
def RQ (F : Int → Int → Prop) (k : Int) (n : Nat) (j : Nat) : Prop := ∃ q : Nat, q < n ∧ F (rN q) (rR q) ∧ rN q = k ∧ (q < 18 ∧ rR q = (j : Int) ∨ 18 ≤ q ∧ 1 ≤ j ∧ j ≤ 9)
theorem RQ_0 {F : Int → Int → Prop} {k : Int} : BP 0 (RQ F k (0 : Int).toNat) := BP_cg BP_0 (fun j => ⟨fun q => q.elim, fun ⟨q, a, _⟩ => by omega⟩)
theorem RQ_n {F : Int → Int → Prop} {k : Int} {x : Int32} {n : Int} (r : BP x (RQ F k n.toNat)) (hn : 0 ≤ n) (g : ¬ (F (rN n.toNat) (rR n.toNat) ∧ rN n.toNat = k)) : BP x (RQ F k (n + 1).toNat) := by
  refine BP_cg r (fun j => ⟨fun ⟨q, a, b⟩ => ⟨q, by omega, b⟩, fun ⟨q, a, b, c, d⟩ => ?_⟩)
  by_cases w : q = n.toNat
  · rw [w] at b c; exact absurd ⟨b, c⟩ g
  · exact ⟨q, by omega, b, c, d⟩
theorem RQ_1 {F : Int → Int → Prop} {k : Int} {x s y : Int32} {n : Int} (r : BP x (RQ F k n.toNat)) (hn : 0 ≤ n ∧ n < 21) (g : F (rN n.toNat) (rR n.toNat)) (g2 : rN n.toNat = k) (b : BP s (fun j => n < 18 ∧ rR n.toNat = (j : Int) ∨ 18 ≤ n ∧ 1 ≤ j ∧ j ≤ 9)) (e2 : y = x ||| s) : BP y (RQ F k (n + 1).toNat) := by
  rw [e2]
  refine BP_cg (BP_or r b) (fun j => ⟨fun q => ?_, fun ⟨q, a, c, d, e⟩ => ?_⟩)
  · rcases q with ⟨q, a, c⟩ | q
    · exact ⟨q, by omega, c⟩
    · exact ⟨n.toNat, by omega, g, g2, by omega⟩
  · by_cases w : q = n.toNat
    · rw [w] at e; exact Or.inr (by omega)
    · exact Or.inl ⟨q, by omega, c, d, e⟩
theorem rB_1 {d r z : Int32} {D : Int} (hd : 0 ≤ D ∧ D < 18) (re : r.toInt = rR D.toNat) (e : z = 1 <<< (r &&& 31)) : BP z (fun j => D < 18 ∧ rR D.toNat = (j : Int) ∨ 18 ≤ D ∧ 1 ≤ j ∧ j ≤ 9) := by
  have b : 0 ≤ rR D.toNat ∧ rR D.toNat < 32 := by unfold rR; omega
  rw [e]
  exact BP_cg (BP_one re b) (fun j => ⟨fun q => Or.inl ⟨hd.2, by omega⟩, fun q => by omega⟩)
theorem all9 : ∀ j, j < 32 → ((uN 1022).testBit j = true ↔ 1 ≤ j ∧ j ≤ 9) := by decide +kernel
theorem rB_9 {D : Int} (hd : 18 ≤ D) : BP 1022 (fun j => D < 18 ∧ rR D.toNat = (j : Int) ∨ 18 ≤ D ∧ 1 ≤ j ∧ j ≤ 9) := fun j => by
  by_cases q : j < 32
  · rw [all9 j q]; omega
  · rw [Nat.testBit_lt_two_pow (Nat.lt_of_lt_of_le (uN_lt 1022) (Nat.pow_le_pow_right (by decide) (by omega)))]
    exact ⟨fun h => (by cases h), fun h => by omega⟩
def MR3 (F : Int → Int → Prop) (k R : Int) (j : Nat) : Prop := ∃ r : Int, 1 ≤ r ∧ r < R ∧ F k r ∧ r = (j : Int)
theorem MR3_0 {F : Int → Int → Prop} {k : Int} : BP 0 (MR3 F k 1) := BP_cg BP_0 (fun j => ⟨fun q => q.elim, fun ⟨r, a, b, _⟩ => by omega⟩)
theorem MR3_r {F : Int → Int → Prop} {x f c s y : Int32} {k R : Int} (r : BP x (MR3 F k R)) (hf : twR f (F k R)) (cE : c.toInt = R) (hR : 1 ≤ R ∧ R ≤ 9) (e1 : s = f <<< (c &&& 31)) (e2 : y = x ||| s) : BP y (MR3 F k (R + 1)) := by
  rw [e2]
  refine BP_cg (BP_or r (BP_flag hf cE (by omega) e1)) (fun j => ⟨fun q => ?_, fun ⟨q, a, b, c, d⟩ => ?_⟩)
  · rcases q with ⟨q, a, b, c⟩ | ⟨q, w⟩
    · exact ⟨q, a, by omega, c⟩
    · exact ⟨R, by omega, by omega, q, by omega⟩
  · by_cases w : q = R
    · subst w; exact Or.inr ⟨c, by omega⟩
    · exact Or.inl ⟨q, a, by omega, c, d⟩
theorem RQ_MR {F : Int → Int → Prop} (id : idle F) {k : Int} (hk : 0 ≤ k ∧ k ≤ 4) (j : Nat) : RQ F k 21 j ↔ MR3 F k 10 j := by
  constructor
  · rintro ⟨q, a, b, c, d⟩
    rcases d with ⟨d1, d2⟩ | ⟨d1, d2⟩
    · refine ⟨rR q, by unfold rR; omega, by unfold rR; omega, by rw [← c]; exact b, d2⟩
    · have e : rN q = (q : Int) - 17 := by unfold rN; rw [if_neg (by omega), if_neg (by omega)]
      exact ⟨(j : Int), by omega, by omega, by rw [← c]; exact (id _ _ _ (by omega) (by omega)).mp b, rfl⟩
  · rintro ⟨r, a, b, c, d⟩
    by_cases w : k = 0
    · subst w
      have e0 : rN (r - 1).toNat = 0 := by unfold rN; rw [if_pos (by omega)]
      have e1 : rR (r - 1).toNat = r := by unfold rR; omega
      exact ⟨(r - 1).toNat, by omega, by rw [e0, e1]; exact c, e0, Or.inl ⟨by omega, by rw [e1]; exact d⟩⟩
    · by_cases w4 : k = 4
      · subst w4
        have e0 : rN (r + 8).toNat = 4 := by unfold rN; rw [if_neg (by omega), if_pos (by omega)]
        have e1 : rR (r + 8).toNat = r := by unfold rR; omega
        exact ⟨(r + 8).toNat, by omega, by rw [e0, e1]; exact c, e0, Or.inl ⟨by omega, by rw [e1]; exact d⟩⟩
      · have e0 : rN (k + 17).toNat = k := by unfold rN; rw [if_neg (by omega), if_neg (by omega)]; omega
        exact ⟨(k + 17).toNat, by omega, by rw [e0]; exact (id _ _ _ (by omega) (by omega)).mp c, e0, Or.inr ⟨by omega, by omega, by omega⟩⟩
