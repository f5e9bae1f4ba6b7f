def JS (h : Hp) : Prop := ∀ j : Nat, j < 4 → ((h.1 (108 + 2 * j) 1).toInt = -1 ∧ (h.1 128 j).toInt = -4 ∨ 0 ≤ (h.1 (108 + 2 * j) 1).toInt ∧ h.1 (108 + 2 * j) 1 = h.1 128 j) ∧ h.1 (108 + 2 * j) 2 = h.1 129 j ∧ ∀ i : Nat, i < 40 → h.1 (109 + 2 * j) i = h.1 130 (40 * j + i)
theorem RO_cg {l w l2 w2 : Nat → Int32} {co q : Int32} {W : Int} {s s2 : Nat → Int32} {f m : Nat} {p b p2 b2 p' b' : Nat → Int32} {r : Int32} (hW : W ≤ 16) (al : ag 16 l l2) (aw : ag 16 w w2) (ap : ag 4 p p2) (ab : ag 16 b b2) (as : ∀ j : Nat, f ≤ j → j < f + 3 * m → s j = s2 j) (h : RO l w co q W s f m p b r p' b') : RO l2 w2 co q W s2 f m p2 b2 r p' b' := by
  rcases h with ⟨h1, h2⟩ | ⟨⟨i, hi, h1, pa, ba, h2, h3⟩, h4, h5⟩
  · exact Or.inl ⟨h1, RN_cg hW al aw ap ab as m _ _ (Nat.le_refl m) h2⟩
  · refine Or.inr ⟨⟨i, hi, h1, pa, ba, RN_cg hW al aw ap ab as i _ _ (by (first | decide +kernel | omega)) h2, ?_⟩, ag_tr (ag_sy ap) h4, ag_tr (ag_sy ab) h5⟩
    rw [← as _ (by (first | decide +kernel | omega)) (by (first | decide +kernel | omega)), ← as _ (by (first | decide +kernel | omega)) (by (first | decide +kernel | omega)), ← as _ (by (first | decide +kernel | omega)) (by (first | decide +kernel | omega))]
    exact SF1_cg hW al aw ag_rf ag_rf h3
theorem dof_5 {i : Nat} (hi : i < 16) : dof (68 + 5) i = some (48 + i) := by unfold dof; rw [if_neg (by (first | decide +kernel | omega)), if_neg (by (first | decide +kernel | omega)), if_neg (by (first | decide +kernel | omega)), if_pos ⟨rfl, hi⟩]
theorem whl_same {t t2 s l f n : Int} (h : t = -1 ∧ t2 = -4 ∨ 0 ≤ t ∧ t = t2) (hl : 0 ≤ l) : whl t s l f n = whl t2 s l f n := by
  unfold whl
  rcases h with ⟨h1, h2⟩ | ⟨_, h2⟩
  · rw [if_pos (by (first | decide +kernel | omega)), if_pos (by (first | decide +kernel | omega))]
  · rw [h2]
theorem whl_b {t s l f n : Int} (hn : 0 ≤ n) : 0 ≤ whl t s l f n ∧ (whl t s l f n = 0 ∨ 0 ≤ f ∧ f + 3 * whl t s l f n ≤ s) := by
  unfold whl
  split
  · omega
  · split <;> omega
theorem nA_nC {h h' : Hp} (r : nC h h') : nA h h' := fun i hi => r i (by (first | decide +kernel | omega))
theorem JB_read {S1 S2 : List (Nat × Option Nat)} {h h1 h2 : Hp} {k l f n W : Int} {r1 r2 : Int32} {RB : Prop} (hI : Inv h) (ra : JA h) (rb : JB h) (rs : JS h) (f1 : fr S1 h h1) (f2 : fr S2 h1 h2) (s1 : ckS S1 34 84 = true) (s2 : ckS S1 86 131 = true) (s3 : ckS S2 0 115 = true) (hW : W ≤ 16) (hk : ¬ RB → 0 ≤ k ∧ k ≤ 3 ∧ 0 ≤ l ∧ 0 ≤ n)
    (E1 : RB ∧ h1 = h ∧ r1.toInt = -1 ∨ ¬ RB ∧ RDc h h1 k.toNat l f n W r1) (E2 : RB ∧ h2 = h1 ∧ r2.toInt = -1 ∨ ¬ RB ∧ RDm h1 h2 k.toNat l f n W r2) : JB h2 ∧ r1 = r2 := by
  rcases E1 with ⟨a1, a2, a3⟩ | ⟨a1, ⟨m1, a2, a3⟩, a4⟩
  · rcases E2 with ⟨b1, b2, b3⟩ | ⟨b1, b2⟩
    · rw [b2, a2]; exact ⟨rb, same_of a3 b3⟩
    · exact absurd a1 b1
  · rcases E2 with ⟨b1, b2, b3⟩ | ⟨b1, ⟨m2, b2, b3⟩, b4⟩
    · exact absurd b1 a1
    · have kk := hk a1
      have m1' : ∀ k i : Nat, 86 ≤ k → k ≤ 131 → h1.1 k i = h.1 k i := fun k i p q => f1.1 _ _ (ckS_no s2 p q)
      have c6 : ∀ k i : Nat, k ≤ 115 → h2.1 k i = h1.1 k i := fun k i p => f2.1 _ _ (ckS_no s3 (by (first | decide +kernel | omega)) p)
      obtain ⟨j1, j2, j3⟩ := rs k.toNat (by (first | decide +kernel | omega))
      have sz : 0 ≤ (h.1 129 k.toNat).toInt ∧ (h.1 129 k.toNat).toInt ≤ 40 := hI 129 k.toNat
      rw [m1' 128 _ (by (first | decide +kernel | omega)) (by (first | decide +kernel | omega)), m1' 129 _ (by (first | decide +kernel | omega)) (by (first | decide +kernel | omega)), ← j2] at b2
      have lane : (h.1 (108 + 2 * k.toNat) 1).toInt = -1 ∧ (h.1 128 k.toNat).toInt = -4 ∨ 0 ≤ (h.1 (108 + 2 * k.toNat) 1).toInt ∧ (h.1 (108 + 2 * k.toNat) 1).toInt = (h.1 128 k.toNat).toInt := by
        rcases j1 with j | ⟨j, e⟩
        · exact Or.inl j
        · exact Or.inr ⟨j, by rw [e]⟩
      rw [← whl_same lane kk.2.2.1] at b2
      have hm : m1 = m2 := by (first | decide +kernel | omega)
      subst hm
      have wb := whl_b (t := (h.1 (108 + 2 * k.toNat) 1).toInt) (s := (h.1 (108 + 2 * k.toNat) 2).toInt) (l := l) (f := f) (n := n) kk.2.2.2
      rw [← a2] at wb
      have sz2 : (h.1 (108 + 2 * k.toNat) 2).toInt ≤ 40 := by rw [j2]; exact sz.2
      rw [m1' 116 4 (by (first | decide +kernel | omega)) (by (first | decide +kernel | omega)), m1' 116 5 (by (first | decide +kernel | omega)) (by (first | decide +kernel | omega)), ← show h.1 1 2 = h.1 116 4 from JA_wh ra (i := 2) (by decide), ← show h.1 1 3 = h.1 116 5 from JA_wh ra (i := 3) (by decide)] at b3
      have b5 := RO_cg (l2 := h.1 5) (w2 := h.1 2) (p2 := h.1 8) (b2 := h.1 6) (s2 := h.1 (109 + 2 * k.toNat)) hW
        (fun i hi => by show h1.1 117 (48 + i) = h.1 5 i; rw [m1' 117 _ (by (first | decide +kernel | omega)) (by (first | decide +kernel | omega))]; exact (JA_cell ra (dof_5 hi) (by unfold aP; omega) (by (first | decide +kernel | omega))).symm)
        (fun i hi => by show h1.1 117 (0 + i) = h.1 2 i; rw [m1' 117 _ (by (first | decide +kernel | omega)) (by (first | decide +kernel | omega)), Nat.zero_add]; exact (JB_w rb hi).1.symm)
        (fun i hi => by show h1.1 117 (80 + i) = h.1 8 i; rw [m1' 117 _ (by (first | decide +kernel | omega)) (by (first | decide +kernel | omega))]; exact (JB_p rb hi).symm)
        (fun i hi => by show h1.1 117 (64 + i) = h.1 6 i; rw [m1' 117 _ (by (first | decide +kernel | omega)) (by (first | decide +kernel | omega))]; exact (JB_b rb hi).symm)
        (fun j p q => by show h1.1 130 (40 * k.toNat + j) = h.1 (109 + 2 * k.toNat) j; rw [m1' 130 _ (by (first | decide +kernel | omega)) (by (first | decide +kernel | omega))]; exact (j3 j (by (first | decide +kernel | omega))).symm) b3
      obtain ⟨e1, e2, e3⟩ := RO_un hW a3 b5
      refine ⟨JB_rest rb ⟨fun i hi => ?_, fun i hi => ?_, fun i hi => ?_⟩ (fun k i w => ?_), e1⟩
      · rw [Nat.zero_add, Nat.zero_add, c6 2 i (by (first | decide +kernel | omega)), a4 2 i (by unfold cpl; omega) (by (first | decide +kernel | omega)), b4 i (by (first | decide +kernel | omega)), m1' 117 _ (by (first | decide +kernel | omega)) (by (first | decide +kernel | omega))]
        exact JB_w rb hi
      · rw [Nat.zero_add, Nat.zero_add, c6 6 i (by (first | decide +kernel | omega))]
        exact e3 i hi
      · rw [Nat.zero_add, Nat.zero_add, c6 8 i (by (first | decide +kernel | omega))]
        exact e2 i hi
      · by_cases q : k = 117
        · subst q
          rw [b4 _ (by (first | decide +kernel | omega)), m1' 117 _ (by (first | decide +kernel | omega)) (by (first | decide +kernel | omega))]
        · rw [c6 k i (by (first | decide +kernel | omega))]
          by_cases q2 : k = 87
          · subst q2; exact m1' 87 i (by (first | decide +kernel | omega)) (by (first | decide +kernel | omega))
          · exact f1.1 _ _ (ckS_no s1 (by (first | decide +kernel | omega)) (by (first | decide +kernel | omega)))
