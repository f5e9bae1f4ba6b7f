/-! both objects' calls that read or change water, bores, purses -/
theorem BE_cg {h h' : Hp} {kp ip kb ib : Nat} {G : Prop} {l o p b w c q d r l2 p2 b2 w2 : Int32} (f : BE h h' kp ip kb ib G l o p b w c q d r) (e : G → l = l2 ∧ p = p2 ∧ b = b2 ∧ w = w2) : BE h h' kp ip kb ib G l2 o p2 b2 w2 c q d r := by
  by_cases g : G
  · obtain ⟨rfl, rfl, rfl, rfl⟩ := e g
    exact f
  · rcases f with f | ⟨f, _⟩
    · exact Or.inl f
    · exact absurd f g
theorem JB_bore2 {S : List (Nat × Option Nat)} {h h1 h2 : Hp} {o c dd W : Int} {ow d r s : Int32} (ra : JA h) (rb : JB h) (f : fr S h h1) (ck : ckS S 116 117 = true) (hW : W ≤ 16) (E1 : BE h h1 8 o.toNat 6 c.toNat (0 ≤ o ∧ o ≤ 3 ∧ 0 ≤ c ∧ c < W ∧ 1 ≤ dd ∧ dd ≤ 9) (h.1 5 c.toNat) ow (h.1 8 o.toNat) (h.1 6 c.toNat) (h.1 2 c.toNat) (h.1 1 2) (h.1 1 3) d r)
    (E2 : BE h1 h2 117 (80 + o).toNat 117 (64 + c).toNat (0 ≤ o ∧ o ≤ 3 ∧ 0 ≤ c ∧ c < W ∧ 1 ≤ dd ∧ dd ≤ 9) (h1.1 117 (48 + c).toNat) ow (h1.1 117 (80 + o).toNat) (h1.1 117 (64 + c).toNat) (h1.1 117 (0 + c).toNat) (h1.1 116 4) (h1.1 116 5) d s) : JB h2 ∧ r = s := by
  have m1 : ∀ k i : Nat, 116 ≤ k → k ≤ 117 → h1.1 k i = h.1 k i := fun k i p q => f.1 _ _ (ckS_no ck p q)
  rw [m1 116 4 (by omega) (by omega), m1 116 5 (by omega) (by omega), ← show h.1 1 2 = h.1 116 4 from JA_wh ra (i := 2) (by decide), ← show h.1 1 3 = h.1 116 5 from JA_wh ra (i := 3) (by decide)] at E2
  have E3 := BE_cg (l2 := h.1 5 c.toNat) (p2 := h.1 8 o.toNat) (b2 := h.1 6 c.toNat) (w2 := h.1 2 c.toNat) E2 (fun g => by
    rw [m1 117 _ (by omega) (by omega), m1 117 _ (by omega) (by omega), m1 117 _ (by omega) (by omega), m1 117 _ (by omega) (by omega), show (48 + c).toNat = 48 + c.toNat by omega, show (80 + o).toNat = 80 + o.toNat by omega, show (64 + c).toNat = 64 + c.toNat by omega, show (0 + c).toNat = c.toNat by omega]
    exact ⟨(JA_cell ra (dof_5 (by omega)) (by unfold aP; omega) (by omega)).symm, (JB_p rb (by omega)).symm, (JB_b rb (by omega)).symm, (JB_w rb (by omega)).1.symm⟩)
  exact JB_bore rb E1 E3 (fun g => by omega)
theorem nA_rain {h h' : Hp} {G : Prop} {v : Int32} {W : Int} (E : G ∧ rW h h' 117 v W ∧ (∀ j : Nat, 16 ≤ j → h'.1 117 j = h.1 117 j) ∨ ¬ G ∧ h' = h) : nA h h' := fun i hi => by
  rcases E with ⟨_, _, e⟩ | ⟨_, e⟩
  · exact e i (by omega)
  · rw [e]
theorem cA_RD {h h' : Hp} {RB : Prop} {k : Nat} {l f n W : Int} {r : Int32} (E : RB ∧ h' = h ∧ r.toInt = -1 ∨ ¬ RB ∧ RDc h h' k l f n W r) : cA h h' := fun k i hk hn => by
  rcases E with ⟨_, e, _⟩ | ⟨_, e⟩
  · rw [e]
  · exact e.2 k i hk ⟨hn.2.1, hn.2.2⟩
theorem nA_RD {h h' : Hp} {RB : Prop} {k : Nat} {l f n W : Int} {r : Int32} (E : RB ∧ h' = h ∧ r.toInt = -1 ∨ ¬ RB ∧ RDm h h' k l f n W r) : nA h h' := by
  rcases E with ⟨_, e, _⟩ | ⟨_, e⟩
  · intro i _; rw [e]
  · exact nA_nC e.2
theorem wg16 {h : Hp} (hI : Inv h) : 4 ≤ (h.1 1 0).toInt * (h.1 1 1).toInt ∧ (h.1 1 0).toInt * (h.1 1 1).toInt ≤ 16 := mul24 (show 2 ≤ (h.1 1 0).toInt ∧ (h.1 1 0).toInt ≤ 4 from hI 1 0) (show 2 ≤ (h.1 1 1).toInt ∧ (h.1 1 1).toInt ≤ 4 from hI 1 1)
theorem dof_3 {i : Nat} (hi : i < 16) : dof (68 + 3) i = some (16 + i) := by unfold dof; rw [if_neg (by omega), if_pos ⟨rfl, hi⟩]
theorem dof_4 {i : Nat} (hi : i < 16) : dof (68 + 4) i = some (32 + i) := by unfold dof; rw [if_neg (by omega), if_neg (by omega), if_pos ⟨rfl, hi⟩]
theorem JC_cell {h : Hp} (ra : JA h) (rb : JB h) {c j : Nat} (hc : c < 16) (hj : j ≤ 4) : h.1 (2 + j) c = h.1 117 (16 * j + c) := by
  rcases (by omega : j = 0 ∨ j = 1 ∨ j = 2 ∨ j = 3 ∨ j = 4) with rfl | rfl | rfl | rfl | rfl
  · rw [show 16 * 0 + c = c by omega]; exact (JB_w rb hc).1
  · exact JA_cell ra (dof_3 hc) (by unfold aP; omega) (by omega)
  · exact JA_cell ra (dof_4 hc) (by unfold aP; omega) (by omega)
  · exact JA_cell ra (dof_5 hc) (by unfold aP; omega) (by omega)
  · exact JB_b rb hc
theorem JB_wl {h : Hp} (rb : JB h) {W : Int} (hW : 0 ≤ W ∧ W ≤ 16) : ct (WQ (h.1 2) (h.1 6) W) 32 = ct (WQ (fun i => h.1 117 i) (fun i => h.1 117 (64 + i)) W) W.toNat := by
  rw [WQ_ct (by omega)]
  exact ct_cg _ (fun i hi => WQ_cg (fun j hj => (JB_w rb (by omega)).1) (fun j hj => JB_b rb (by omega)) i)
theorem wl_same {h1 h2 : Hp} {W1 W2 : Int} {G : Prop} {r s : Int32} {S : List (Nat × Option Nat)} (rb : JB h2) (f : fr S h1 h2) (ck : ckS S 0 16 = true) (hW : 0 ≤ W1 ∧ W1 ≤ 16) (e : W2 = W1) (p : G ∧ r.toInt = (ct (WQ (h1.1 2) (h1.1 6) W1) 32 : Nat) ∨ ¬ G ∧ r.toInt = -1) (q : G ∧ s.toInt = (ct (WQ (fun i => h2.1 117 i) (fun i => h2.1 117 (64 + i)) W2) W2.toNat : Nat) ∨ ¬ G ∧ s.toInt = -1) : r = s := by
  subst e
  rcases p with ⟨p1, p2⟩ | ⟨p1, p2⟩ <;> rcases q with ⟨q1, q2⟩ | ⟨q1, q2⟩
  · refine same_of p2 (q2.trans ?_)
    rw [← JB_wl rb hW]
    exact congrArg (fun z : Nat => (z : Int)) (ct_cg 32 (fun i _ => WQ_cg (fun j _ => f.1 2 j (ckS_no ck (by omega) (by omega))) (fun j _ => f.1 6 j (ckS_no ck (by omega) (by omega))) i))
  · exact absurd p1 q1
  · exact absurd q1 p1
  · exact same_of p2 q2
