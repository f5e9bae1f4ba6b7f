def G9 (W : Int) (o c d : Int32) : Prop := 0 ≤ o.toInt ∧ o.toInt ≤ 3 ∧ 0 ≤ c.toInt ∧ c.toInt < W ∧ 1 ≤ d.toInt ∧ d.toInt ≤ 9
def ag (n : Nat) (p q : Nat → Int32) : Prop := ∀ i : Nat, i < n → p i = q i
theorem ag_rf {n : Nat} {p : Nat → Int32} : ag n p p := fun _ _ => rfl
theorem ag_sy {n : Nat} {p q : Nat → Int32} (h : ag n p q) : ag n q p := fun i hi => (h i hi).symm
theorem ag_tr {n : Nat} {p q r : Nat → Int32} (h : ag n p q) (g : ag n q r) : ag n p r := fun i hi => (h i hi).trans (g i hi)
/-- a bore is done: purses p and bores b become p', b' -/
def ST1 (l w : Nat → Int32) (co q : Int32) (W : Int) (o c d : Int32) (p b p' b' : Nat → Int32) : Prop := G9 W o c d ∧ ∃ x : Int32, bLf (p o.toInt.toNat) (b c.toInt.toNat) (w c.toInt.toNat) co q d x ∧ ¬ bRf (l c.toInt.toNat) o (p o.toInt.toNat) (b c.toInt.toNat) co d x ∧ (∀ i : Nat, i < 4 → p' i = if i = o.toInt.toNat then x else p i) ∧ ∀ i : Nat, i < 16 → b' i = if i = c.toInt.toNat then bD (b c.toInt.toNat) d else b i
/-- a bore is refused -/
def SF1 (l w : Nat → Int32) (co q : Int32) (W : Int) (o c d : Int32) (p b : Nat → Int32) : Prop := ¬ G9 W o c d ∨ G9 W o c d ∧ ∃ x : Int32, bLf (p o.toInt.toNat) (b c.toInt.toNat) (w c.toInt.toNat) co q d x ∧ bRf (l c.toInt.toNat) o (p o.toInt.toNat) (b c.toInt.toNat) co d x
theorem ST1_cg {l w l2 w2 : Nat → Int32} {co q : Int32} {W : Int} {o c d : Int32} {p b p' b' p2 b2 : Nat → Int32} (hW : W ≤ 16) (al : ag 16 l l2) (aw : ag 16 w w2) (ap : ag 4 p p2) (ab : ag 16 b b2) (h : ST1 l w co q W o c d p b p' b') : ST1 l2 w2 co q W o c d p2 b2 p' b' := by
  obtain ⟨g, x, h1, h2, h3, h4⟩ := h
  have g' := g
  unfold G9 at g'
  rw [ap o.toInt.toNat (by (first | decide +kernel | omega)), ab c.toInt.toNat (by (first | decide +kernel | omega)), aw c.toInt.toNat (by (first | decide +kernel | omega))] at h1
  rw [al c.toInt.toNat (by (first | decide +kernel | omega)), ap o.toInt.toNat (by (first | decide +kernel | omega)), ab c.toInt.toNat (by (first | decide +kernel | omega))] at h2
  refine ⟨g, x, h1, h2, fun i hi => ?_, fun i hi => ?_⟩
  · rw [h3 i hi, ap i hi]
  · rw [h4 i hi, ab i hi, ab c.toInt.toNat (by (first | decide +kernel | omega))]
theorem SF1_cg {l w l2 w2 : Nat → Int32} {co q : Int32} {W : Int} {o c d : Int32} {p b p2 b2 : Nat → Int32} (hW : W ≤ 16) (al : ag 16 l l2) (aw : ag 16 w w2) (ap : ag 4 p p2) (ab : ag 16 b b2) (h : SF1 l w co q W o c d p b) : SF1 l2 w2 co q W o c d p2 b2 := by
  rcases h with h | ⟨g, x, h1, h2⟩
  · exact Or.inl h
  · have g' := g
    unfold G9 at g'
    rw [ap o.toInt.toNat (by (first | decide +kernel | omega)), ab c.toInt.toNat (by (first | decide +kernel | omega)), aw c.toInt.toNat (by (first | decide +kernel | omega))] at h1
    rw [al c.toInt.toNat (by (first | decide +kernel | omega)), ap o.toInt.toNat (by (first | decide +kernel | omega)), ab c.toInt.toNat (by (first | decide +kernel | omega))] at h2
    exact Or.inr ⟨g, x, h1, h2⟩
theorem ST1_un {l w : Nat → Int32} {co q : Int32} {W : Int} {o c d : Int32} {p b p' b' p2 b2 : Nat → Int32} (h : ST1 l w co q W o c d p b p' b') (g : ST1 l w co q W o c d p b p2 b2) : ag 4 p' p2 ∧ ag 16 b' b2 := by
  obtain ⟨_, x, h1, _, h3, h4⟩ := h
  obtain ⟨_, y, g1, _, g3, g4⟩ := g
  have e := bLf_un h1 g1
  subst e
  exact ⟨fun i hi => by rw [h3 i hi, g3 i hi], fun i hi => by rw [h4 i hi, g4 i hi]⟩
theorem ST1_SF {l w : Nat → Int32} {co q : Int32} {W : Int} {o c d : Int32} {p b p' b' : Nat → Int32} (h : ST1 l w co q W o c d p b p' b') (g : SF1 l w co q W o c d p b) : False := by
  obtain ⟨g0, x, h1, h2, _⟩ := h
  rcases g with g | ⟨_, y, g1, g2⟩
  · exact g g0
  · have e := bLf_un h1 g1
    subst e
    exact h2 g2
/-- n bores of a sheet s from cell f on -/
def RN (l w : Nat → Int32) (co q : Int32) (W : Int) (s : Nat → Int32) (f : Nat) (p b : Nat → Int32) : Nat → (Nat → Int32) → (Nat → Int32) → Prop
  | 0, p', b' => ag 4 p p' ∧ ag 16 b b'
  | n + 1, p', b' => ∃ p1 b1 : Nat → Int32, RN l w co q W s f p b n p1 b1 ∧ ST1 l w co q W (s (f + 3 * n)) (s (f + 3 * n + 1)) (s (f + 3 * n + 2)) p1 b1 p' b'
theorem RN_un {l w : Nat → Int32} {co q : Int32} {W : Int} {s : Nat → Int32} {f : Nat} {p b : Nat → Int32} (hW : W ≤ 16) : ∀ (n : Nat) (p1 b1 p2 b2 : Nat → Int32), RN l w co q W s f p b n p1 b1 → RN l w co q W s f p b n p2 b2 → ag 4 p1 p2 ∧ ag 16 b1 b2 := by
  intro n
  induction n with
  | zero => intro p1 b1 p2 b2 h g; exact ⟨ag_tr (ag_sy h.1) g.1, ag_tr (ag_sy h.2) g.2⟩
  | succ n ih =>
    intro p1 b1 p2 b2 h g
    obtain ⟨pa, ba, ha, hb⟩ := h
    obtain ⟨pc, bc, ga, gb⟩ := g
    obtain ⟨e1, e2⟩ := ih pa ba pc bc ha ga
    exact ST1_un hb (ST1_cg hW ag_rf ag_rf (ag_sy e1) (ag_sy e2) gb)
theorem RN_pre {l w : Nat → Int32} {co q : Int32} {W : Int} {s : Nat → Int32} {f : Nat} {p b : Nat → Int32} : ∀ (n i : Nat) (p' b' : Nat → Int32), i < n → RN l w co q W s f p b n p' b' → ∃ p1 b1 p2 b2 : Nat → Int32, RN l w co q W s f p b i p1 b1 ∧ ST1 l w co q W (s (f + 3 * i)) (s (f + 3 * i + 1)) (s (f + 3 * i + 2)) p1 b1 p2 b2 := by
  intro n
  induction n with
  | zero => intro i p' b' hi; omega
  | succ n ih =>
    intro i p' b' hi h
    obtain ⟨p1, b1, h1, h2⟩ := h
    by_cases e : i = n
    · subst e; exact ⟨p1, b1, p', b', h1, h2⟩
    · exact ih i p1 b1 (by (first | decide +kernel | omega)) h1
theorem RN_cg {l w l2 w2 : Nat → Int32} {co q : Int32} {W : Int} {s s2 : Nat → Int32} {f m : Nat} {p b p2 b2 : Nat → Int32} (hW : W ≤ 16) (al : ag 16 l l2) (aw : ag 16 w w2) (ap : ag 4 p p2) (ab : ag 16 b b2) (as : ∀ j : Nat, f ≤ j → j < f + 3 * m → s j = s2 j) : ∀ (n : Nat) (p' b' : Nat → Int32), n ≤ m → RN l w co q W s f p b n p' b' → RN l2 w2 co q W s2 f p2 b2 n p' b' := by
  intro n
  induction n with
  | zero => intro p' b' _ h; exact ⟨ag_tr (ag_sy ap) h.1, ag_tr (ag_sy ab) h.2⟩
  | succ n ih =>
    intro p' b' hn h
    obtain ⟨p1, b1, h1, h2⟩ := h
    refine ⟨p1, b1, ih p1 b1 (by (first | decide +kernel | omega)) h1, ?_⟩
    rw [← as _ (by (first | decide +kernel | omega)) (by (first | decide +kernel | omega)), ← as _ (by (first | decide +kernel | omega)) (by (first | decide +kernel | omega)), ← as _ (by (first | decide +kernel | omega)) (by (first | decide +kernel | omega))]
    exact ST1_cg hW al aw ag_rf ag_rf h2
/-- what a read answers, and what it leaves: all m bores are done, or one is refused and all is as it was -/
def RO (l w : Nat → Int32) (co q : Int32) (W : Int) (s : Nat → Int32) (f m : Nat) (p b : Nat → Int32) (r : Int32) (p' b' : Nat → Int32) : Prop := r.toInt = m ∧ RN l w co q W s f p b m p' b' ∨ (∃ i : Nat, i < m ∧ r.toInt = -20 - (i : Int) ∧ ∃ p1 b1 : Nat → Int32, RN l w co q W s f p b i p1 b1 ∧ SF1 l w co q W (s (f + 3 * i)) (s (f + 3 * i + 1)) (s (f + 3 * i + 2)) p1 b1) ∧ ag 4 p p' ∧ ag 16 b b'
theorem RO_un {l w : Nat → Int32} {co q : Int32} {W : Int} {s : Nat → Int32} {f m : Nat} {p b p1 b1 p2 b2 : Nat → Int32} {r1 r2 : Int32} (hW : W ≤ 16) (h : RO l w co q W s f m p b r1 p1 b1) (g : RO l w co q W s f m p b r2 p2 b2) : r1 = r2 ∧ ag 4 p1 p2 ∧ ag 16 b1 b2 := by
  rcases h with ⟨h1, h2⟩ | ⟨⟨i, hi, h1, pa, ba, h2, h3⟩, h4, h5⟩
  · rcases g with ⟨g1, g2⟩ | ⟨⟨j, hj, g1, pc, bc, g2, g3⟩, g4, g5⟩
    · exact ⟨same_of h1 g1, RN_un hW m _ _ _ _ h2 g2⟩
    · exfalso
      obtain ⟨pd, bd, pe, be, d1, d2⟩ := RN_pre m j _ _ hj h2
      obtain ⟨e1, e2⟩ := RN_un hW j _ _ _ _ g2 d1
      exact ST1_SF d2 (SF1_cg hW ag_rf ag_rf e1 e2 g3)
  · rcases g with ⟨g1, g2⟩ | ⟨⟨j, hj, g1, pc, bc, g2, g3⟩, g4, g5⟩
    · exfalso
      obtain ⟨pd, bd, pe, be, d1, d2⟩ := RN_pre m i _ _ hi g2
      obtain ⟨e1, e2⟩ := RN_un hW i _ _ _ _ h2 d1
      exact ST1_SF d2 (SF1_cg hW ag_rf ag_rf e1 e2 h3)
    · have hij : i = j := by
        by_cases c : i < j
        · exfalso
          obtain ⟨pd, bd, pe, be, d1, d2⟩ := RN_pre j i _ _ c g2
          obtain ⟨e1, e2⟩ := RN_un hW i _ _ _ _ h2 d1
          exact ST1_SF d2 (SF1_cg hW ag_rf ag_rf e1 e2 h3)
        · by_cases c2 : j < i
          · exfalso
            obtain ⟨pd, bd, pe, be, d1, d2⟩ := RN_pre i j _ _ c2 h2
            obtain ⟨e1, e2⟩ := RN_un hW j _ _ _ _ g2 d1
            exact ST1_SF d2 (SF1_cg hW ag_rf ag_rf e1 e2 g3)
          · omega
      subst hij
      exact ⟨same_of h1 g1, ag_tr (ag_sy h4) g4, ag_tr (ag_sy h5) g5⟩
/-- a bore of an object, as such a step -/
theorem ST_of {h h' : Hp} {kp kb op ob : Nat} {W : Int} {l w : Nat → Int32} {lo o c d co q r : Int32} {wo : Int32} (hne : kp ≠ kb ∨ op + 4 ≤ ob ∨ ob + 16 ≤ op) (hW : W ≤ 16) (f : BE h h' kp (op + o.toInt.toNat) kb (ob + c.toInt.toNat) (G9 W o c d) lo o (h.1 kp (op + o.toInt.toNat)) (h.1 kb (ob + c.toInt.toNat)) wo co q d r) (hl : G9 W o c d → lo = l c.toInt.toNat) (hw : G9 W o c d → wo = w c.toInt.toNat) : r.toInt < 0 ∧ h' = h ∧ SF1 l w co q W o c d (fun i => h.1 kp (op + i)) (fun i => h.1 kb (ob + i)) ∨ 0 ≤ r.toInt ∧ ST1 l w co q W o c d (fun i => h.1 kp (op + i)) (fun i => h.1 kb (ob + i)) (fun i => h'.1 kp (op + i)) (fun i => h'.1 kb (ob + i)) := by
  rcases f with ⟨f1, f2, f3⟩ | ⟨f1, x, f2, f3⟩
  · exact Or.inl ⟨by (first | decide +kernel | omega), f2, Or.inl f1⟩
  · rw [hw f1] at f2 f3
    rw [hl f1] at f3
    rcases f3 with ⟨a1, a2, a3⟩ | ⟨a1, a2, a3⟩
    · exact Or.inl ⟨by (first | decide +kernel | omega), a2, Or.inr ⟨f1, x, f2, a1⟩⟩
    · refine Or.inr ⟨by rcases a3 with ⟨_, a⟩ | ⟨_, a⟩ <;> omega, f1, x, f2, a1, fun i hi => ?_, fun i hi => ?_⟩
      · have g := f1
        unfold G9 at g
        show h'.1 kp (op + i) = _
        rw [a2, pI_at, if_neg (by (first | decide +kernel | omega)), pI_at]
        by_cases e : i = o.toInt.toNat
        · subst e; rw [if_pos ⟨rfl, rfl⟩, if_pos rfl]
        · rw [if_neg (by (first | decide +kernel | omega)), if_neg e]
      · have g := f1
        unfold G9 at g
        show h'.1 kb (ob + i) = _
        rw [a2, pI_at]
        by_cases e : i = c.toInt.toNat
        · subst e; rw [if_pos ⟨rfl, rfl⟩, if_pos rfl]
        · rw [if_neg (by (first | decide +kernel | omega)), if_neg e, pI_at, if_neg (by (first | decide +kernel | omega))]
