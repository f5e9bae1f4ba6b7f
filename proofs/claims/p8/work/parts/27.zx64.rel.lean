def aP (d : Nat) : Prop := 16 ≤ d ∧ d < 64 ∨ 84 ≤ d
def mK (d : Nat) : Nat := if d < 144 then 117 else 116
def mJ (o d : Nat) : Nat := if d < 144 then o + d else d - 142
/-- the cells of a county that are copied with it -/
def cpl (k i : Nat) : Prop := k = 0 ∧ (i = 3 ∨ i = 4) ∨ k = 1 ∧ i < 4 ∨ (2 ≤ k ∧ k ≤ 6) ∧ i < 16 ∨ (k = 7 ∨ k = 12) ∧ i = 4 ∨ k = 8 ∧ i < 4 ∨ (9 ≤ k ∧ k ≤ 11 ∨ 13 ≤ k ∧ k ≤ 16) ∧ i < 8
/-- a county of the class (k its first place), one of the reference (o its first cell) -/
def CA (h : Hp) (k o : Nat) : Prop := ∀ k' i d : Nat, dof (68 + k') i = some d → aP d → h.1 (k + k') i = h.1 (mK d) (mJ o d)
def DA (h : Hp) (k o : Nat) : Prop := ∀ i : Nat, i < 8 → (i : Int) < (h.1 (k + 7) 4).toInt → h.1 (k + 9) i = h.1 117 (o + (87 + 3 * i)) ∧ h.1 (k + 10) i = h.1 117 (o + (88 + 3 * i)) ∧ h.1 (k + 11) i = h.1 117 (o + (89 + 3 * i))
def SA (h : Hp) (k o : Nat) : Prop := ∀ i : Nat, i < 8 → (i : Int) < (h.1 (k + 12) 4).toInt → h.1 (k + 13) i = h.1 117 (o + (112 + 4 * i)) ∧ h.1 (k + 14) i = h.1 117 (o + (113 + 4 * i)) ∧ h.1 (k + 15) i = h.1 117 (o + (114 + 4 * i)) ∧ h.1 (k + 16) i = h.1 117 (o + (115 + 4 * i))
def CE (h : Hp) (k o : Nat) : Prop := CA h k o ∧ DA h k o ∧ SA h k o
def JA (h : Hp) : Prop := CE h 0 0 ∧ (h.1 87 0 = h.1 118 0 ∧ h.1 87 1 = h.1 118 1) ∧ (h.1 87 0 ≠ 0 → CE h 34 144) ∧ (h.1 87 1 ≠ 0 → CE h 51 288)
theorem mK_lt {d : Nat} (h : d < 144) : mK d = 117 := if_pos h
theorem mK_ge {d : Nat} (h : ¬ d < 144) : mK d = 116 := if_neg h
theorem mJ_lt {o d : Nat} (h : d < 144) : mJ o d = o + d := if_pos h
theorem mJ_ge {o d : Nat} (h : ¬ d < 144) : mJ o d = d - 142 := if_neg h
theorem dof_c {k i d : Nat} (h : dof (68 + k) i = some d) : cpl k i ∧ d ≤ 147 := by
  unfold cpl
  rcases dof_e h with e | e | e | e | e | e | e | e | e | e | e
  · exact ⟨Or.inr (Or.inr (Or.inl ⟨by (first | decide +kernel | omega), e.1.2⟩)), by (first | decide +kernel | omega)⟩
  · exact ⟨Or.inr (Or.inr (Or.inl ⟨by (first | decide +kernel | omega), e.1.2⟩)), by (first | decide +kernel | omega)⟩
  · exact ⟨Or.inr (Or.inr (Or.inl ⟨by (first | decide +kernel | omega), e.1.2⟩)), by (first | decide +kernel | omega)⟩
  · exact ⟨Or.inr (Or.inr (Or.inl ⟨by (first | decide +kernel | omega), e.1.2⟩)), by (first | decide +kernel | omega)⟩
  · exact ⟨Or.inr (Or.inr (Or.inl ⟨by (first | decide +kernel | omega), e.1.2⟩)), by (first | decide +kernel | omega)⟩
  · exact ⟨Or.inr (Or.inr (Or.inr (Or.inr (Or.inl ⟨by (first | decide +kernel | omega), e.1.2⟩)))), by (first | decide +kernel | omega)⟩
  · exact ⟨Or.inl ⟨by (first | decide +kernel | omega), Or.inl e.1.2⟩, by (first | decide +kernel | omega)⟩
  · exact ⟨Or.inl ⟨by (first | decide +kernel | omega), Or.inr e.1.2⟩, by (first | decide +kernel | omega)⟩
  · exact ⟨Or.inr (Or.inr (Or.inr (Or.inl ⟨Or.inl (by (first | decide +kernel | omega)), e.1.2⟩))), by (first | decide +kernel | omega)⟩
  · exact ⟨Or.inr (Or.inr (Or.inr (Or.inl ⟨Or.inr (by (first | decide +kernel | omega)), e.1.2⟩))), by (first | decide +kernel | omega)⟩
  · exact ⟨Or.inr (Or.inl ⟨by (first | decide +kernel | omega), e.1.2⟩), by (first | decide +kernel | omega)⟩
theorem dof_p {k i d : Nat} (h : dof (68 + k) i = some d) (ha : aP d) : k ≠ 2 ∧ k ≠ 6 ∧ k ≠ 8 := by
  unfold aP at ha
  rcases dof_e h with e | e | e | e | e | e | e | e | e | e | e <;> omega
theorem pI_at (h : Hp) (k i : Nat) (x : Int32) (k' i' : Nat) : (pI h k i x).1 k' i' = if k' = k ∧ i' = i then x else h.1 k' i' := by
  by_cases q : k' = k
  · subst q
    by_cases w : i' = i
    · subst w; rw [pI_eq, if_pos ⟨rfl, rfl⟩]
    · rw [pI_nei w, if_neg (fun c => w c.2)]
  · rw [pI_ne q, if_neg (fun c => q c.1)]
theorem pI_comm {h : Hp} {k i k' i' : Nat} {x y : Int32} (hne : ¬ (k = k' ∧ i = i')) : pI (pI h k i x) k' i' y = pI (pI h k' i' y) k i x := by
  refine Prod.ext (funext (fun a => funext (fun b => ?_))) rfl
  rw [pI_at, pI_at, pI_at, pI_at]
  by_cases q : a = k' ∧ b = i'
  · rw [if_pos q, if_pos q, if_neg (fun c => hne ⟨c.1.symm.trans q.1, c.2.symm.trans q.2⟩)]
  · rw [if_neg q, if_neg q]
theorem CE_at {h h' : Hp} {k o : Nat} (e1 : ∀ k' i : Nat, cpl k' i → k' ≠ 2 ∧ k' ≠ 6 ∧ k' ≠ 8 → h'.1 (k + k') i = h.1 (k + k') i) (e2 : ∀ i : Nat, aP i → i < 144 → h'.1 117 (o + i) = h.1 117 (o + i)) (e3 : ∀ i : Nat, 2 ≤ i → i ≤ 5 → h'.1 116 i = h.1 116 i) (r : CE h k o) : CE h' k o := by
  refine ⟨fun k' i d hd ha => ?_, fun i hi hc => ?_, fun i hi hc => ?_⟩
  · have c := dof_c hd
    rw [e1 k' i c.1 (dof_p hd ha), r.1 k' i d hd ha]
    by_cases q : d < 144
    · rw [mK_lt q, mJ_lt q]; exact (e2 d ha q).symm
    · rw [mK_ge q, mJ_ge q]; exact (e3 _ (by (first | decide +kernel | omega)) (by (first | decide +kernel | omega))).symm
  · rw [e1 7 4 (by unfold cpl; omega) (by (first | decide +kernel | omega))] at hc
    rw [e1 9 i (by unfold cpl; omega) (by (first | decide +kernel | omega)), e1 10 i (by unfold cpl; omega) (by (first | decide +kernel | omega)), e1 11 i (by unfold cpl; omega) (by (first | decide +kernel | omega)), e2 _ (by unfold aP; omega) (by (first | decide +kernel | omega)), e2 _ (by unfold aP; omega) (by (first | decide +kernel | omega)), e2 _ (by unfold aP; omega) (by (first | decide +kernel | omega))]
    exact r.2.1 i hi hc
  · rw [e1 12 4 (by unfold cpl; omega) (by (first | decide +kernel | omega))] at hc
    rw [e1 13 i (by unfold cpl; omega) (by (first | decide +kernel | omega)), e1 14 i (by unfold cpl; omega) (by (first | decide +kernel | omega)), e1 15 i (by unfold cpl; omega) (by (first | decide +kernel | omega)), e1 16 i (by unfold cpl; omega) (by (first | decide +kernel | omega)), e2 _ (by unfold aP; omega) (by (first | decide +kernel | omega)), e2 _ (by unfold aP; omega) (by (first | decide +kernel | omega)), e2 _ (by unfold aP; omega) (by (first | decide +kernel | omega)), e2 _ (by unfold aP; omega) (by (first | decide +kernel | omega))]
    exact r.2.2 i hi hc
theorem CE_cp {h h' : Hp} {k o k2 o2 : Nat} (e1 : ∀ k' i : Nat, cpl k' i → h'.1 (k + k') i = h.1 (k2 + k') i) (e2 : ∀ i : Nat, i < 144 → h'.1 117 (o + i) = h.1 117 (o2 + i)) (e3 : ∀ i : Nat, 2 ≤ i → i ≤ 5 → h'.1 116 i = h.1 116 i) (r : CE h k2 o2) : CE h' k o := by
  refine ⟨fun k' i d hd ha => ?_, fun i hi hc => ?_, fun i hi hc => ?_⟩
  · have c := dof_c hd
    rw [e1 k' i c.1, r.1 k' i d hd ha]
    by_cases q : d < 144
    · rw [mK_lt q, mJ_lt q, mJ_lt q]; exact (e2 d q).symm
    · rw [mK_ge q, mJ_ge q, mJ_ge q]; exact (e3 _ (by (first | decide +kernel | omega)) (by (first | decide +kernel | omega))).symm
  · rw [e1 7 4 (by unfold cpl; omega)] at hc
    rw [e1 9 i (by unfold cpl; omega), e1 10 i (by unfold cpl; omega), e1 11 i (by unfold cpl; omega), e2 _ (by (first | decide +kernel | omega)), e2 _ (by (first | decide +kernel | omega)), e2 _ (by (first | decide +kernel | omega))]
    exact r.2.1 i hi hc
  · rw [e1 12 4 (by unfold cpl; omega)] at hc
    rw [e1 13 i (by unfold cpl; omega), e1 14 i (by unfold cpl; omega), e1 15 i (by unfold cpl; omega), e1 16 i (by unfold cpl; omega), e2 _ (by (first | decide +kernel | omega)), e2 _ (by (first | decide +kernel | omega)), e2 _ (by (first | decide +kernel | omega)), e2 _ (by (first | decide +kernel | omega))]
    exact r.2.2 i hi hc
/-- the cells that the relation reads -/
def jaC (k i : Nat) : Prop := cpl k i ∧ (k ≠ 2 ∧ k ≠ 6 ∧ k ≠ 8) ∨ (34 ≤ k ∧ k ≤ 67) ∨ k = 87 ∨ k = 118 ∨ k = 117 ∧ (16 ≤ i ∧ i < 64 ∨ 84 ≤ i) ∨ k = 116 ∧ 2 ≤ i ∧ i ≤ 5
theorem jaC_c {k i : Nat} (h : cpl k i) (g : k ≠ 2 ∧ k ≠ 6 ∧ k ≠ 8) : jaC k i := Or.inl ⟨h, g⟩
theorem jaC_i {k i : Nat} (h : 34 ≤ k ∧ k ≤ 67) : jaC k i := Or.inr (Or.inl h)
theorem jaC_k {i : Nat} : jaC 87 i := Or.inr (Or.inr (Or.inl rfl))
theorem jaC_m {i : Nat} : jaC 118 i := Or.inr (Or.inr (Or.inr (Or.inl rfl)))
theorem jaC_s {i : Nat} (h : 16 ≤ i ∧ i < 64 ∨ 84 ≤ i) : jaC 117 i := Or.inr (Or.inr (Or.inr (Or.inr (Or.inl ⟨rfl, h⟩))))
theorem jaC_w {i : Nat} (h : 2 ≤ i) (g : i ≤ 5) : jaC 116 i := Or.inr (Or.inr (Or.inr (Or.inr (Or.inr ⟨rfl, h, g⟩))))
theorem cpl_k {k i : Nat} (h : cpl k i) : k ≤ 16 := by unfold cpl at h; omega
theorem CE0_at {h h' : Hp} (e : ∀ k i : Nat, jaC k i → h'.1 k i = h.1 k i) (r : CE h 0 0) : CE h' 0 0 :=
  CE_at (fun k' i c g => by rw [Nat.zero_add]; exact e _ _ (jaC_c c g)) (fun i ha _ => by rw [Nat.zero_add]; exact e _ _ (jaC_s ha)) (fun i a b => e _ _ (jaC_w a b)) r
theorem CE2_at {h h' : Hp} (e : ∀ k i : Nat, jaC k i → h'.1 k i = h.1 k i) (r : CE h 34 144) : CE h' 34 144 :=
  CE_at (fun k' i c _ => e _ _ (jaC_i (by have := cpl_k c; omega))) (fun i _ _ => e _ _ (jaC_s (by (first | decide +kernel | omega)))) (fun i a b => e _ _ (jaC_w a b)) r
theorem CE3_at {h h' : Hp} (e : ∀ k i : Nat, jaC k i → h'.1 k i = h.1 k i) (r : CE h 51 288) : CE h' 51 288 :=
  CE_at (fun k' i c _ => e _ _ (jaC_i (by have := cpl_k c; omega))) (fun i _ _ => e _ _ (jaC_s (by (first | decide +kernel | omega)))) (fun i a b => e _ _ (jaC_w a b)) r
theorem JA_at {h h' : Hp} (e : ∀ k i : Nat, jaC k i → h'.1 k i = h.1 k i) (r : JA h) : JA h' := by
  obtain ⟨r1, ⟨r2, r3⟩, r4, r5⟩ := r
  refine ⟨CE0_at e r1, ⟨?_, ?_⟩, fun c => ?_, fun c => ?_⟩
  · rw [e _ _ jaC_k, e _ _ jaC_m]; exact r2
  · rw [e _ _ jaC_k, e _ _ jaC_m]; exact r3
  · rw [e _ _ jaC_k] at c; exact CE2_at e (r4 c)
  · rw [e _ _ jaC_k] at c; exact CE3_at e (r5 c)
def jaS (S : List (Nat × Option Nat)) : Bool := S.all (fun q => decide ((16 < q.1 ∧ q.1 < 34 ∨ 67 < q.1 ∨ q.1 = 2 ∨ q.1 = 6 ∨ q.1 = 8) ∧ q.1 ≠ 87 ∧ q.1 ≠ 118 ∧ q.1 ≠ 117) && (decide (q.1 ≠ 116) || (match q.2 with | none => false | some j => decide (j < 2 ∨ 5 < j))))
theorem jaS_no {S : List (Nat × Option Nat)} (hc : jaS S = true) {k i : Nat} (hk : jaC k i) : inS S k i = false := by
  unfold inS
  rw [List.any_eq_false]
  intro q hq e
  have h1 := List.all_eq_true.mp hc q hq
  rw [Bool.and_eq_true, Bool.or_eq_true] at h1
  rw [Bool.and_eq_true] at e
  have e2 : q.1 = k := eq_of_beq e.1
  have h2 := of_decide_eq_true h1.1
  rcases hk with hk | hk | hk | hk | hk | hk
  · have := cpl_k hk.1; omega
  · omega
  · omega
  · omega
  · omega
  · rcases h1.2 with h3 | h3
    · have := of_decide_eq_true h3; omega
    · have e3 := e.2
      cases hz : q.2 with
      | none => rw [hz] at h3; cases h3
      | some j =>
        rw [hz] at h3 e3
        have h4 := of_decide_eq_true h3
        have h5 : j = i := eq_of_beq e3
        omega
theorem JA_fr {S : List (Nat × Option Nat)} {h h' : Hp} (f : fr S h h') (hc : jaS S = true) (r : JA h) : JA h' := JA_at (fun _ _ hk => f.1 _ _ (jaS_no hc hk)) r
theorem inS_flt {S : List (Nat × Option Nat)} {P : Nat → Bool} {k i : Nat} (hp : P k = true) (h : inS (S.filter (fun q => P q.1)) k i = false) : inS S k i = false := by
  unfold inS at h ⊢
  rw [List.any_eq_false] at h ⊢
  intro q hq e
  have e2 : q.1 = k := by rw [Bool.and_eq_true] at e; exact eq_of_beq e.1
  exact h q (List.mem_filter.mpr ⟨hq, by rw [e2]; exact hp⟩) e
theorem JA_mix {S : List (Nat × Option Nat)} {h h' : Hp} (P : Nat → Bool) (f : fr S h h') (hc : jaS (S.filter (fun q => P q.1)) = true) (e : ∀ k i : Nat, jaC k i → P k = false → h'.1 k i = h.1 k i) (r : JA h) : JA h' := JA_at (fun k i hk => by
  cases hp : P k with
  | true => exact f.1 k i (inS_flt hp (jaS_no hc hk))
  | false => exact e k i hk hp) r
/-- the reference's row keeps all but water, bores, purses -/
def nA (h h' : Hp) : Prop := ∀ i : Nat, (16 ≤ i ∧ i < 64 ∨ 84 ≤ i) → h'.1 117 i = h.1 117 i
theorem JA_nA {S : List (Nat × Option Nat)} {h h' : Hp} (f : fr S h h') (hc : jaS (S.filter (fun q => decide (q.1 ≠ 117))) = true) (g : nA h h') (r : JA h) : JA h' := JA_mix (fun k => decide (k ≠ 117)) f hc (fun k i hk hp => by
  have hp' : k = 117 := by
    have := of_decide_eq_false hp
    omega
  subst hp'
  refine g i ?_
  rcases hk with hk | hk | hk | hk | hk | hk
  · have := cpl_k hk.1; omega
  · omega
  · omega
  · omega
  · exact hk.2
  · omega) r
/-- the class's county keeps all but water, bores, purses -/
def cA (h h' : Hp) : Prop := ∀ k i : Nat, cpl k i → k ≠ 2 ∧ k ≠ 6 ∧ k ≠ 8 → h'.1 k i = h.1 k i
theorem JA_cA {S : List (Nat × Option Nat)} {h h' : Hp} (f : fr S h h') (hc : jaS (S.filter (fun q => decide (16 < q.1))) = true) (g : cA h h') (r : JA h) : JA h' := JA_mix (fun k => decide (16 < k)) f hc (fun k i hk hp => by
  have hp' := of_decide_eq_false hp
  rcases hk with hk | hk | hk | hk | hk | hk
  · exact g k i hk.1 hk.2
  · omega
  · omega
  · omega
  · omega
  · omega) r
theorem CA_put {h h1 h2 : Hp} {k i d : Nat} {x : Int32} (r : CA h 0 0) (hd : dof (68 + k) i = some d) (h144 : d < 144) (e1 : h1 = pI h k i x) (e2 : h2 = pI h1 117 d x) : CA h2 0 0 := fun k' i' d' hd' ha => by
  have b := dof_k hd
  have b' := dof_k hd'
  have c' := dof_c hd'
  rw [Nat.zero_add]
  have g := r k' i' d' hd' ha
  rw [Nat.zero_add] at g
  by_cases q : k' = k ∧ i' = i
  · obtain ⟨rfl, rfl⟩ := q
    rw [hd] at hd'
    cases hd'
    rw [mK_lt h144, mJ_lt h144, Nat.zero_add, e2, pI_at, if_neg (by (first | decide +kernel | omega)), e1, pI_at, if_pos ⟨rfl, rfl⟩, pI_at, if_pos ⟨rfl, rfl⟩]
  · have hne : d' ≠ d := fun c => by
      subst c
      have a1 := dofi_of hd
      have a2 := dofi_of hd'
      rw [a1] at a2
      have a3 : 68 + k = 68 + k' := congrArg Prod.fst a2
      have a4 : i = i' := congrArg Prod.snd a2
      exact q ⟨by (first | decide +kernel | omega), a4.symm⟩
    have e3 : h2.1 k' i' = h.1 k' i' := by rw [e2, pI_at, if_neg (by (first | decide +kernel | omega)), e1, pI_at, if_neg q]
    rw [e3, g]
    by_cases w : d' < 144
    · rw [mK_lt w, mJ_lt w, Nat.zero_add, e2, pI_at, if_neg (by (first | decide +kernel | omega)), e1, pI_at, if_neg (by (first | decide +kernel | omega))]
    · rw [mK_ge w, mJ_ge w, e2, pI_at, if_neg (by (first | decide +kernel | omega)), e1, pI_at, if_neg (by (first | decide +kernel | omega))]
theorem JA_rest {h h2 : Hp} (r : JA h) (c : CE h2 0 0) (e : ∀ k i : Nat, (34 ≤ k ∧ k ≤ 67 ∨ k = 87 ∨ k = 118 ∨ k = 117 ∧ 144 ≤ i ∨ k = 116 ∧ 2 ≤ i ∧ i ≤ 5) → h2.1 k i = h.1 k i) : JA h2 := by
  obtain ⟨r1, ⟨r2, r3⟩, r4, r5⟩ := r
  refine ⟨c, ⟨?_, ?_⟩, fun q => ?_, fun q => ?_⟩
  · rw [e 87 0 (by (first | decide +kernel | omega)), e 118 0 (by (first | decide +kernel | omega))]; exact r2
  · rw [e 87 1 (by (first | decide +kernel | omega)), e 118 1 (by (first | decide +kernel | omega))]; exact r3
  · rw [e 87 0 (by (first | decide +kernel | omega))] at q
    exact CE_at (fun k' i c _ => e _ _ (by have := cpl_k c; omega)) (fun i _ _ => e _ _ (by (first | decide +kernel | omega))) (fun i a b => e _ _ (by (first | decide +kernel | omega))) (r4 q)
  · rw [e 87 1 (by (first | decide +kernel | omega))] at q
    exact CE_at (fun k' i c _ => e _ _ (by have := cpl_k c; omega)) (fun i _ _ => e _ _ (by (first | decide +kernel | omega))) (fun i a b => e _ _ (by (first | decide +kernel | omega))) (r5 q)
theorem dof_not {k i d : Nat} (hd : dof (68 + k) i = some d) (h86 : d < 86) : k ≠ 7 ∧ k ≠ 12 ∧ k ≤ 12 := by
  rcases dof_e hd with e | e | e | e | e | e | e | e | e | e | e <;> omega
theorem JA_put {h h1 h2 : Hp} {k i d : Nat} {x : Int32} (r : JA h) (hd : dof (68 + k) i = some d) (h86 : d < 86) (e1 : h1 = pI h k i x) (e2 : h2 = pI h1 117 d x) : JA h2 := by
  have b := dof_k hd
  have b2 := dof_not hd h86
  have cell : ∀ k' i' : Nat, k' ≠ k → ¬ (k' = 117 ∧ i' = d) → h2.1 k' i' = h.1 k' i' := fun k' i' a c => by
    rw [e2, pI_at, if_neg c, e1, pI_at, if_neg (fun w => a w.1)]
  refine JA_rest r ⟨CA_put r.1.1 hd (by (first | decide +kernel | omega)) e1 e2, fun j hj hc => ?_, fun j hj hc => ?_⟩ (fun k' i' w => cell k' i' (by (first | decide +kernel | omega)) (by (first | decide +kernel | omega)))
  · rw [cell _ _ (by (first | decide +kernel | omega)) (by (first | decide +kernel | omega))] at hc
    rw [cell _ _ (by (first | decide +kernel | omega)) (by (first | decide +kernel | omega)), cell _ _ (by (first | decide +kernel | omega)) (by (first | decide +kernel | omega)), cell _ _ (by (first | decide +kernel | omega)) (by (first | decide +kernel | omega)), cell _ _ (by (first | decide +kernel | omega)) (by (first | decide +kernel | omega)), cell _ _ (by (first | decide +kernel | omega)) (by (first | decide +kernel | omega)), cell _ _ (by (first | decide +kernel | omega)) (by (first | decide +kernel | omega))]
    exact r.1.2.1 j hj hc
  · rw [cell _ _ (by (first | decide +kernel | omega)) (by (first | decide +kernel | omega))] at hc
    rw [cell _ _ (by (first | decide +kernel | omega)) (by (first | decide +kernel | omega)), cell _ _ (by (first | decide +kernel | omega)) (by (first | decide +kernel | omega)), cell _ _ (by (first | decide +kernel | omega)) (by (first | decide +kernel | omega)), cell _ _ (by (first | decide +kernel | omega)) (by (first | decide +kernel | omega)), cell _ _ (by (first | decide +kernel | omega)) (by (first | decide +kernel | omega)), cell _ _ (by (first | decide +kernel | omega)) (by (first | decide +kernel | omega)), cell _ _ (by (first | decide +kernel | omega)) (by (first | decide +kernel | omega)), cell _ _ (by (first | decide +kernel | omega)) (by (first | decide +kernel | omega))]
    exact r.1.2.2 j hj hc
theorem JA_cell {h : Hp} {k i d : Nat} (r : JA h) (hd : dof (68 + k) i = some d) (ha : aP d) (h144 : d < 144) : h.1 k i = h.1 117 d := by
  have g := r.1.1 k i d hd ha
  rw [Nat.zero_add, mK_lt h144, mJ_lt h144, Nat.zero_add] at g
  exact g
theorem JA_wh {h : Hp} (r : JA h) {i : Nat} (hi : i < 4) : h.1 1 i = h.1 116 (i + 2) := by
  have hd : dof (68 + 1) i = some (144 + i) := by
    unfold dof
    rw [if_neg (by (first | decide +kernel | omega)), if_neg (by (first | decide +kernel | omega)), if_neg (by (first | decide +kernel | omega)), if_neg (by (first | decide +kernel | omega)), if_neg (by (first | decide +kernel | omega)), if_neg (by (first | decide +kernel | omega)), if_neg (by (first | decide +kernel | omega)), if_neg (by (first | decide +kernel | omega)), if_neg (by (first | decide +kernel | omega)), if_neg (by (first | decide +kernel | omega)), if_pos (by (first | decide +kernel | omega))]
  have g := r.1.1 1 i (144 + i) hd (by unfold aP; omega)
  rw [mK_ge (by (first | decide +kernel | omega)), mJ_ge (by (first | decide +kernel | omega)), show 144 + i - 142 = i + 2 by (first | decide +kernel | omega)] at g
  exact g
theorem m1_eq {r s : Int32} (a : r.toInt = -1) (b : s.toInt = -1) : r = s := Int32.toInt_inj.mp (a.trans b.symm)
/-- a cell is told anew, its old number is the answer; or BAD -/
def Er (h h' : Hp) (k i : Nat) (G : Prop) (V : Int32 → Prop) (r : Int32) : Prop := G ∧ (∃ x : Int32, V x ∧ h' = pI h k i x ∧ r = h.1 k i) ∨ ¬ G ∧ h' = h ∧ r.toInt = -1
theorem JA_row {h h1 h2 : Hp} {k i d : Nat} {G1 G2 : Prop} {V1 V2 : Int32 → Prop} {r1 r2 : Int32} (r : JA h) (f1 : Er h h1 k i G1 V1 r1) (f2 : Er h1 h2 117 d G2 V2 r2) (hG : G1 ↔ G2) (hV : ∀ x y : Int32, V1 x → V2 y → x = y) (hd : G1 → dof (68 + k) i = some d ∧ d < 86 ∧ aP d) : JA h2 ∧ r1 = r2 := by
  rcases f1 with ⟨g1, x, vx, e1, q1⟩ | ⟨g1, e1, q1⟩
  · rcases f2 with ⟨g2, y, vy, e2, q2⟩ | ⟨g2, e2, q2⟩
    · obtain ⟨d1, d2, d3⟩ := hd g1
      have b := dof_k d1
      rw [← hV x y vx vy] at e2
      refine ⟨JA_put r d1 d2 e1 e2, ?_⟩
      rw [q1, q2, e1, pI_at, if_neg (by (first | decide +kernel | omega))]
      exact JA_cell r d1 d3 (by (first | decide +kernel | omega))
    · exact absurd (hG.mp g1) g2
  · rcases f2 with ⟨g2, y, vy, e2, q2⟩ | ⟨g2, e2, q2⟩
    · exact absurd (hG.mpr g2) g1
    · rw [e1] at e2
      rw [e2]
      exact ⟨r, m1_eq q1 q2⟩
/-- one that becomes another state -/
def Ew (h h' : Hp) (G : Prop) (hn : Hp) (r0 r : Int32) : Prop := G ∧ h' = hn ∧ r = r0 ∨ ¬ G ∧ h' = h ∧ r.toInt = -1
theorem JA_cut {h h1 h2 : Hp} {G1 G2 : Prop} {n v a b r1 r2 : Int32} (r : JA h) (f1 : Ew h h1 G1 (pI (pI h 0 3 n) 0 4 v) a r1) (f2 : Ew h1 h2 G2 (pI (pI h1 117 85 v) 117 84 n) b r2) (hG : G1 ↔ G2) (ha : a = h.1 0 3) (hb : b = h.1 117 84) : JA h2 ∧ r1 = r2 := by
  rcases f1 with ⟨g1, e1, q1⟩ | ⟨g1, e1, q1⟩
  · rcases f2 with ⟨g2, e2, q2⟩ | ⟨g2, e2, q2⟩
    · refine ⟨?_, ?_⟩
      · have e3 : h2 = pI (pI (pI (pI h 0 3 n) 117 84 n) 0 4 v) 117 85 v := by
          rw [e2, e1, pI_comm (h := pI (pI h 0 3 n) 0 4 v) (k := 117) (i := 85) (by (first | decide +kernel | omega)), pI_comm (h := pI h 0 3 n) (k := 0) (i := 4) (by (first | decide +kernel | omega))]
        exact JA_put (JA_put r (k := 0) (i := 3) (d := 84) rfl (by decide) rfl rfl) (k := 0) (i := 4) (d := 85) rfl (by decide) rfl e3
      · rw [q1, q2, ha, hb]
        exact JA_cell r rfl (Or.inr (by decide)) (by decide)
    · exact absurd (hG.mp g1) g2
  · rcases f2 with ⟨g2, e2, q2⟩ | ⟨g2, e2, q2⟩
    · exact absurd (hG.mpr g2) g1
    · rw [e1] at e2
      rw [e2]
      exact ⟨r, m1_eq q1 q2⟩
theorem JA_cnt7 {h h1 h2 : Hp} {n : Int32} (r : JA h) (hn : n.toInt ≤ (h.1 7 4).toInt) (e1 : h1 = pI h 7 4 n) (e2 : h2 = pI h1 117 86 n) : JA h2 := by
  have cell : ∀ k' i' : Nat, k' ≠ 7 → ¬ (k' = 117 ∧ i' = 86) → h2.1 k' i' = h.1 k' i' := fun k' i' a c => by
    rw [e2, pI_at, if_neg c, e1, pI_at, if_neg (fun w => a w.1)]
  refine JA_rest r ⟨CA_put r.1.1 (k := 7) (i := 4) (d := 86) rfl (by decide) e1 e2, fun j hj hc => ?_, fun j hj hc => ?_⟩ (fun k' i' w => cell k' i' (by (first | decide +kernel | omega)) (by (first | decide +kernel | omega)))
  · have e7 : h2.1 (0 + 7) 4 = n := by rw [e2, pI_at, if_neg (by (first | decide +kernel | omega)), e1, pI_at, if_pos (by (first | decide +kernel | omega))]
    rw [e7] at hc
    rw [cell _ _ (by (first | decide +kernel | omega)) (by (first | decide +kernel | omega)), cell _ _ (by (first | decide +kernel | omega)) (by (first | decide +kernel | omega)), cell _ _ (by (first | decide +kernel | omega)) (by (first | decide +kernel | omega)), cell _ _ (by (first | decide +kernel | omega)) (by (first | decide +kernel | omega)), cell _ _ (by (first | decide +kernel | omega)) (by (first | decide +kernel | omega)), cell _ _ (by (first | decide +kernel | omega)) (by (first | decide +kernel | omega))]
    exact r.1.2.1 j hj (by rw [Nat.zero_add]; omega)
  · rw [cell _ _ (by (first | decide +kernel | omega)) (by (first | decide +kernel | omega))] at hc
    rw [cell _ _ (by (first | decide +kernel | omega)) (by (first | decide +kernel | omega)), cell _ _ (by (first | decide +kernel | omega)) (by (first | decide +kernel | omega)), cell _ _ (by (first | decide +kernel | omega)) (by (first | decide +kernel | omega)), cell _ _ (by (first | decide +kernel | omega)) (by (first | decide +kernel | omega)), cell _ _ (by (first | decide +kernel | omega)) (by (first | decide +kernel | omega)), cell _ _ (by (first | decide +kernel | omega)) (by (first | decide +kernel | omega)), cell _ _ (by (first | decide +kernel | omega)) (by (first | decide +kernel | omega)), cell _ _ (by (first | decide +kernel | omega)) (by (first | decide +kernel | omega))]
    exact r.1.2.2 j hj hc
theorem JA_cnt12 {h h1 h2 : Hp} {n : Int32} (r : JA h) (hn : n.toInt ≤ (h.1 12 4).toInt) (e1 : h1 = pI h 12 4 n) (e2 : h2 = pI h1 117 111 n) : JA h2 := by
  have cell : ∀ k' i' : Nat, k' ≠ 12 → ¬ (k' = 117 ∧ i' = 111) → h2.1 k' i' = h.1 k' i' := fun k' i' a c => by
    rw [e2, pI_at, if_neg c, e1, pI_at, if_neg (fun w => a w.1)]
  refine JA_rest r ⟨CA_put r.1.1 (k := 12) (i := 4) (d := 111) rfl (by decide) e1 e2, fun j hj hc => ?_, fun j hj hc => ?_⟩ (fun k' i' w => cell k' i' (by (first | decide +kernel | omega)) (by (first | decide +kernel | omega)))
  · rw [cell _ _ (by (first | decide +kernel | omega)) (by (first | decide +kernel | omega))] at hc
    rw [cell _ _ (by (first | decide +kernel | omega)) (by (first | decide +kernel | omega)), cell _ _ (by (first | decide +kernel | omega)) (by (first | decide +kernel | omega)), cell _ _ (by (first | decide +kernel | omega)) (by (first | decide +kernel | omega)), cell _ _ (by (first | decide +kernel | omega)) (by (first | decide +kernel | omega)), cell _ _ (by (first | decide +kernel | omega)) (by (first | decide +kernel | omega)), cell _ _ (by (first | decide +kernel | omega)) (by (first | decide +kernel | omega))]
    exact r.1.2.1 j hj hc
  · have e7 : h2.1 (0 + 12) 4 = n := by rw [e2, pI_at, if_neg (by (first | decide +kernel | omega)), e1, pI_at, if_pos (by (first | decide +kernel | omega))]
    rw [e7] at hc
    rw [cell _ _ (by (first | decide +kernel | omega)) (by (first | decide +kernel | omega)), cell _ _ (by (first | decide +kernel | omega)) (by (first | decide +kernel | omega)), cell _ _ (by (first | decide +kernel | omega)) (by (first | decide +kernel | omega)), cell _ _ (by (first | decide +kernel | omega)) (by (first | decide +kernel | omega)), cell _ _ (by (first | decide +kernel | omega)) (by (first | decide +kernel | omega)), cell _ _ (by (first | decide +kernel | omega)) (by (first | decide +kernel | omega)), cell _ _ (by (first | decide +kernel | omega)) (by (first | decide +kernel | omega)), cell _ _ (by (first | decide +kernel | omega)) (by (first | decide +kernel | omega))]
    exact r.1.2.2 j hj (by rw [Nat.zero_add]; omega)
theorem JA_pay {h h1 h2 : Hp} {G1 G2 : Prop} {n a b r1 r2 : Int32} (r : JA h) (f1 : Ew h h1 G1 (pI h 7 4 n) a r1) (f2 : Ew h1 h2 G2 (pI h1 117 86 n) b r2) (hG : G1 ↔ G2) (hn : G1 → n.toInt ≤ (h.1 7 4).toInt) (ha : a = h.1 7 4) (hb : b = h.1 117 86) : JA h2 ∧ r1 = r2 := by
  rcases f1 with ⟨g1, e1, q1⟩ | ⟨g1, e1, q1⟩
  · rcases f2 with ⟨g2, e2, q2⟩ | ⟨g2, e2, q2⟩
    · exact ⟨JA_cnt7 r (hn g1) e1 e2, by rw [q1, q2, ha, hb]; exact JA_cell r rfl (Or.inr (by decide)) (by decide)⟩
    · exact absurd (hG.mp g1) g2
  · rcases f2 with ⟨g2, e2, q2⟩ | ⟨g2, e2, q2⟩
    · exact absurd (hG.mpr g2) g1
    · rw [e1] at e2
      rw [e2]
      exact ⟨r, m1_eq q1 q2⟩
theorem JA_forget {h h1 h2 : Hp} {G1 G2 : Prop} {n a b r1 r2 : Int32} (r : JA h) (f1 : Ew h h1 G1 (pI h 12 4 n) a r1) (f2 : Ew h1 h2 G2 (pI h1 117 111 n) b r2) (hG : G1 ↔ G2) (hn : G1 → n.toInt ≤ (h.1 12 4).toInt) (ha : a = h.1 12 4) (hb : b = h.1 117 111) : JA h2 ∧ r1 = r2 := by
  rcases f1 with ⟨g1, e1, q1⟩ | ⟨g1, e1, q1⟩
  · rcases f2 with ⟨g2, e2, q2⟩ | ⟨g2, e2, q2⟩
    · exact ⟨JA_cnt12 r (hn g1) e1 e2, by rw [q1, q2, ha, hb]; exact JA_cell r rfl (Or.inr (by decide)) (by decide)⟩
    · exact absurd (hG.mp g1) g2
  · rcases f2 with ⟨g2, e2, q2⟩ | ⟨g2, e2, q2⟩
    · exact absurd (hG.mpr g2) g1
    · rw [e1] at e2
      rw [e2]
      exact ⟨r, m1_eq q1 q2⟩
