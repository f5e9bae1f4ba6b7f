theorem BE_cg {h h' : Hp} {kp ip kb ib : Nat} {G : Prop} {l o p b w c q d r l2 p2 b2 w2 : Int32} (f : BE h h' kp ip kb ib G l o p b w c q d r) (e : G → l = l2 ∧ p = p2 ∧ b = b2 ∧ w = w2) : BE h h' kp ip kb ib G l2 o p2 b2 w2 c q d r := by
  by_cases g : G
  · obtain ⟨rfl, rfl, rfl, rfl⟩ := e g
    exact f
  · rcases f with f | ⟨f, _⟩
    · exact Or.inl f
    · exact absurd f g
theorem JB_bore2 {S : List (Nat × Option Nat)} {h h1 h2 : Hp} {o c dd W : Int} {ow d r s : Int32} (ra : JA h) (rb : JB h) (f : fr S h h1) (ck : ckS S 116 117 = true) (hW : W ≤ 16) (E1 : BE h h1 8 o.toNat 6 c.toNat (0 ≤ o ∧ o ≤ 3 ∧ 0 ≤ c ∧ c < W ∧ 1 ≤ dd ∧ dd ≤ 9) (h.1 5 c.toNat) ow (h.1 8 o.toNat) (h.1 6 c.toNat) (h.1 2 c.toNat) (h.1 1 2) (h.1 1 3) d r)
    (E2 : BE h1 h2 117 (80 + o).toNat 117 (64 + c).toNat (0 ≤ o ∧ o ≤ 3 ∧ 0 ≤ c ∧ c < W ∧ 1 ≤ dd ∧ dd ≤ 9) (h1.1 117 (48 + c).toNat) ow (h1.1 117 (80 + o).toNat) (h1.1 117 (64 + c).toNat) (h1.1 117 (0 + c).toNat) (h1.1 116 4) (h1.1 116 5) d s) : JB h2 ∧ r = s := by
  have m1 : ∀ k i : Nat, 116 ≤ k → k ≤ 117 → h1.1 k i = h.1 k i := fun k i p q => f.1 _ _ (ckS_no ck p q)
  rw [m1 116 4 (by (first | decide +kernel | omega)) (by (first | decide +kernel | omega)), m1 116 5 (by (first | decide +kernel | omega)) (by (first | decide +kernel | omega)), ← show h.1 1 2 = h.1 116 4 from JA_wh ra (i := 2) (by decide), ← show h.1 1 3 = h.1 116 5 from JA_wh ra (i := 3) (by decide)] at E2
  have E3 := BE_cg (l2 := h.1 5 c.toNat) (p2 := h.1 8 o.toNat) (b2 := h.1 6 c.toNat) (w2 := h.1 2 c.toNat) E2 (fun g => by
    rw [m1 117 _ (by (first | decide +kernel | omega)) (by (first | decide +kernel | omega)), m1 117 _ (by (first | decide +kernel | omega)) (by (first | decide +kernel | omega)), m1 117 _ (by (first | decide +kernel | omega)) (by (first | decide +kernel | omega)), m1 117 _ (by (first | decide +kernel | omega)) (by (first | decide +kernel | omega)), show (48 + c).toNat = 48 + c.toNat by (first | decide +kernel | omega), show (80 + o).toNat = 80 + o.toNat by (first | decide +kernel | omega), show (64 + c).toNat = 64 + c.toNat by (first | decide +kernel | omega), show (0 + c).toNat = c.toNat by (first | decide +kernel | omega)]
    exact ⟨(JA_cell ra (dof_5 (by (first | decide +kernel | omega))) (by unfold aP; omega) (by (first | decide +kernel | omega))).symm, (JB_p rb (by (first | decide +kernel | omega))).symm, (JB_b rb (by (first | decide +kernel | omega))).symm, (JB_w rb (by (first | decide +kernel | omega))).1.symm⟩)
  exact JB_bore rb E1 E3 (fun g => by (first | decide +kernel | omega))
theorem nA_rain {h h' : Hp} {G : Prop} {v : Int32} {W : Int} (E : G ∧ rW h h' 117 v W ∧ (∀ j : Nat, 16 ≤ j → h'.1 117 j = h.1 117 j) ∨ ¬ G ∧ h' = h) : nA h h' := fun i hi => by
  rcases E with ⟨_, _, e⟩ | ⟨_, e⟩
  · exact e i (by (first | decide +kernel | omega))
  · rw [e]
theorem cA_RD {h h' : Hp} {RB : Prop} {k : Nat} {l f n W : Int} {r : Int32} (E : RB ∧ h' = h ∧ r.toInt = -1 ∨ ¬ RB ∧ RDc h h' k l f n W r) : cA h h' := fun k i hk hn => by
  rcases E with ⟨_, e, _⟩ | ⟨_, e⟩
  · rw [e]
  · exact e.2 k i hk ⟨hn.2.1, hn.2.2⟩
theorem nA_RD {h h' : Hp} {RB : Prop} {k : Nat} {l f n W : Int} {r : Int32} (E : RB ∧ h' = h ∧ r.toInt = -1 ∨ ¬ RB ∧ RDm h h' k l f n W r) : nA h h' := by
  rcases E with ⟨_, e, _⟩ | ⟨_, e⟩
  · intro i _; rw [e]
  · exact nA_nC e.2
theorem wg16 {h : Hp} (hI : Inv h) : 4 ≤ (h.1 1 0).toInt * (h.1 1 1).toInt ∧ (h.1 1 0).toInt * (h.1 1 1).toInt ≤ 16 := mul24 (show 2 ≤ (h.1 1 0).toInt ∧ (h.1 1 0).toInt ≤ 4 from hI 1 0) (show 2 ≤ (h.1 1 1).toInt ∧ (h.1 1 1).toInt ≤ 4 from hI 1 1)
