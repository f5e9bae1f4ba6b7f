section
def aP (d : Nat) : Prop := 16 ≤ d ∧ d < 64 ∨ 84 ≤ d
def mK (d : Nat) : Nat := if d < 144 then 117 else 116
def mJ (o d : Nat) : Nat := if d < 144 then o + d else d - 142
/-- the cells of a county that are copied with it -/
def cpl (k i : Nat) : Prop := k = 0 ∧ (i = 3 ∨ i = 4) ∨ k = 1 ∧ i < 4 ∨ (2 ≤ k ∧ k ≤ 6) ∧ i < 16 ∨ (k = 7 ∨ k = 12) ∧ i = 4 ∨ k = 8 ∧ i < 4 ∨ (9 ≤ k ∧ k ≤ 11 ∨ 13 ≤ k ∧ k ≤ 16) ∧ i < 8
/-- a county of the class (k its first place), one of the reference (o its first cell) -/
def CA (h : Hp) (k o : Nat) : Prop := ∀ k' i d : Nat, dof (68 + k') i = some d → aP d → h.1 (k + k') i = h.1 (mK d) (mJ o d)
def DA (h : Hp) (k o : Nat) : Prop := ∀ i : Nat, i < 8 → (i : Int) < (h.1 (k + 7) 4).toInt → h.1 (k + 9) i = h.1 117 (o + (87 + 3 * i)) ∧ h.1 (k + 10) i = h.1 117 (o + (88 + 3 * i)) ∧ h.1 (k + 11) i = h.1 117 (o + (89 + 3 * i))
def SA (h : Hp) (k o : Nat) : Prop := ∀ i : Nat, i < 8 → (i : Int) < (h.1 (k + 12) 4).toInt → h.1 (k + 13) i = h.1 117 (o + (112 + 4 * i)) ∧ h.1 (k + 14) i = h.1 117 (o + (113 + 4 * i)) ∧ h.1 (k + 15) i = h.1 117 (o + (114 + 4 * i)) ∧ h.1 (k + 16) i = h.1 117 (o + (115 + 4 * i))
def CE (h : Hp) (k o : Nat) : Prop := CA h k o ∧ DA h k o ∧ SA h k o
def JA (h : Hp) : Prop := CE h 0 0 ∧ (h.1 87 0 = h.1 118 0 ∧ h.1 87 1 = h.1 118 1) ∧ (h.1 87 0 ≠ 0 → CE h 34 144) ∧ (h.1 87 1 ≠ 0 → CE h 51 288)
theorem mK_lt {d : Nat} (h : d < 144) : mK d = 117 := if_pos h
theorem mK_ge {d : Nat} (h : ¬ d < 144) : mK d = 116 := if_neg h
theorem mJ_lt {o d : Nat} (h : d < 144) : mJ o d = o + d := if_pos h
theorem mJ_ge {o d : Nat} (h : ¬ d < 144) : mJ o d = d - 142 := if_neg h
theorem dof_c {k i d : Nat} (h : dof (68 + k) i = some d) : cpl k i ∧ d ≤ 147 := by
  unfold dof at h
  unfold cpl
  repeat' split at h
  all_goals first | (cases h; omega) | (cases h)
theorem dof_p {k i d : Nat} (h : dof (68 + k) i = some d) (ha : aP d) : k ≠ 2 ∧ k ≠ 6 ∧ k ≠ 8 := by
  unfold dof at h
  unfold aP at ha
  repeat' split at h
  all_goals first | (cases h; omega) | (cases h)
theorem pI_at (h : Hp) (k i : Nat) (x : Int32) (k' i' : Nat) : (pI h k i x).1 k' i' = if k' = k ∧ i' = i then x else h.1 k' i' := by
  by_cases q : k' = k
  · subst q
    by_cases w : i' = i
    · subst w; rw [pI_eq, if_pos ⟨rfl, rfl⟩]
    · rw [pI_nei w, if_neg (fun c => w c.2)]
  · rw [pI_ne q, if_neg (fun c => q c.1)]
theorem pI_comm {h : Hp} {k i k' i' : Nat} {x y : Int32} (hne : ¬ (k = k' ∧ i = i')) : pI (pI h k i x) k' i' y = pI (pI h k' i' y) k i x := by
  refine Prod.ext (funext (fun a => funext (fun b => ?_))) rfl
  rw [pI_at, pI_at, pI_at, pI_at]
  by_cases q : a = k' ∧ b = i'
  · rw [if_pos q, if_pos q, if_neg (fun c => hne ⟨c.1.symm.trans q.1, c.2.symm.trans q.2⟩)]
  · rw [if_neg q, if_neg q]
theorem CE_at {h h' : Hp} {k o : Nat} (e1 : ∀ k' i : Nat, cpl k' i → k' ≠ 2 ∧ k' ≠ 6 ∧ k' ≠ 8 → h'.1 (k + k') i = h.1 (k + k') i) (e2 : ∀ i : Nat, aP i → i < 144 → h'.1 117 (o + i) = h.1 117 (o + i)) (e3 : ∀ i : Nat, 2 ≤ i → i ≤ 5 → h'.1 116 i = h.1 116 i) (r : CE h k o) : CE h' k o := by
  refine ⟨fun k' i d hd ha => ?_, fun i hi hc => ?_, fun i hi hc => ?_⟩
  · have c := dof_c hd
    rw [e1 k' i c.1 (dof_p hd ha), r.1 k' i d hd ha]
    by_cases q : d < 144
    · rw [mK_lt q, mJ_lt q]; exact (e2 d ha q).symm
    · rw [mK_ge q, mJ_ge q]; exact (e3 _ (by omega) (by omega)).symm
  · rw [e1 7 4 (by unfold cpl; omega) (by omega)] at hc
    rw [e1 9 i (by unfold cpl; omega) (by omega), e1 10 i (by unfold cpl; omega) (by omega), e1 11 i (by unfold cpl; omega) (by omega), e2 _ (by unfold aP; omega) (by omega), e2 _ (by unfold aP; omega) (by omega), e2 _ (by unfold aP; omega) (by omega)]
    exact r.2.1 i hi hc
  · rw [e1 12 4 (by unfold cpl; omega) (by omega)] at hc
    rw [e1 13 i (by unfold cpl; omega) (by omega), e1 14 i (by unfold cpl; omega) (by omega), e1 15 i (by unfold cpl; omega) (by omega), e1 16 i (by unfold cpl; omega) (by omega), e2 _ (by unfold aP; omega) (by omega), e2 _ (by unfold aP; omega) (by omega), e2 _ (by unfold aP; omega) (by omega), e2 _ (by unfold aP; omega) (by omega)]
    exact r.2.2 i hi hc
theorem CE_cp {h h' : Hp} {k o k2 o2 : Nat} (e1 : ∀ k' i : Nat, cpl k' i → h'.1 (k + k') i = h.1 (k2 + k') i) (e2 : ∀ i : Nat, i < 144 → h'.1 117 (o + i) = h.1 117 (o2 + i)) (e3 : ∀ i : Nat, 2 ≤ i → i ≤ 5 → h'.1 116 i = h.1 116 i) (r : CE h k2 o2) : CE h' k o := by
  refine ⟨fun k' i d hd ha => ?_, fun i hi hc => ?_, fun i hi hc => ?_⟩
  · have c := dof_c hd
    rw [e1 k' i c.1, r.1 k' i d hd ha]
    by_cases q : d < 144
    · rw [mK_lt q, mJ_lt q, mJ_lt q]; exact (e2 d q).symm
    · rw [mK_ge q, mJ_ge q, mJ_ge q]; exact (e3 _ (by omega) (by omega)).symm
  · rw [e1 7 4 (by unfold cpl; omega)] at hc
    rw [e1 9 i (by unfold cpl; omega), e1 10 i (by unfold cpl; omega), e1 11 i (by unfold cpl; omega), e2 _ (by omega), e2 _ (by omega), e2 _ (by omega)]
    exact r.2.1 i hi hc
  · rw [e1 12 4 (by unfold cpl; omega)] at hc
    rw [e1 13 i (by unfold cpl; omega), e1 14 i (by unfold cpl; omega), e1 15 i (by unfold cpl; omega), e1 16 i (by unfold cpl; omega), e2 _ (by omega), e2 _ (by omega), e2 _ (by omega), e2 _ (by omega)]
    exact r.2.2 i hi hc
/-- the cells that the relation reads -/
def jaC (k i : Nat) : Prop := cpl k i ∧ (k ≠ 2 ∧ k ≠ 6 ∧ k ≠ 8) ∨ (34 ≤ k ∧ k ≤ 67) ∨ k = 87 ∨ k = 118 ∨ k = 117 ∧ (16 ≤ i ∧ i < 64 ∨ 84 ≤ i) ∨ k = 116 ∧ 2 ≤ i ∧ i ≤ 5
theorem jaC_c {k i : Nat} (h : cpl k i) (g : k ≠ 2 ∧ k ≠ 6 ∧ k ≠ 8) : jaC k i := Or.inl ⟨h, g⟩
theorem jaC_i {k i : Nat} (h : 34 ≤ k ∧ k ≤ 67) : jaC k i := Or.inr (Or.inl h)
theorem jaC_k {i : Nat} : jaC 87 i := Or.inr (Or.inr (Or.inl rfl))
theorem jaC_m {i : Nat} : jaC 118 i := Or.inr (Or.inr (Or.inr (Or.inl rfl)))
theorem jaC_s {i : Nat} (h : 16 ≤ i ∧ i < 64 ∨ 84 ≤ i) : jaC 117 i := Or.inr (Or.inr (Or.inr (Or.inr (Or.inl ⟨rfl, h⟩))))
theorem jaC_w {i : Nat} (h : 2 ≤ i) (g : i ≤ 5) : jaC 116 i := Or.inr (Or.inr (Or.inr (Or.inr (Or.inr ⟨rfl, h, g⟩))))
theorem cpl_k {k i : Nat} (h : cpl k i) : k ≤ 16 := by unfold cpl at h; omega
theorem CE0_at {h h' : Hp} (e : ∀ k i : Nat, jaC k i → h'.1 k i = h.1 k i) (r : CE h 0 0) : CE h' 0 0 :=
  CE_at (fun k' i c g => by rw [Nat.zero_add]; exact e _ _ (jaC_c c g)) (fun i ha _ => by rw [Nat.zero_add]; exact e _ _ (jaC_s ha)) (fun i a b => e _ _ (jaC_w a b)) r
theorem CE2_at {h h' : Hp} (e : ∀ k i : Nat, jaC k i → h'.1 k i = h.1 k i) (r : CE h 34 144) : CE h' 34 144 :=
  CE_at (fun k' i c _ => e _ _ (jaC_i (by have := cpl_k c; omega))) (fun i _ _ => e _ _ (jaC_s (by omega))) (fun i a b => e _ _ (jaC_w a b)) r
theorem CE3_at {h h' : Hp} (e : ∀ k i : Nat, jaC k i → h'.1 k i = h.1 k i) (r : CE h 51 288) : CE h' 51 288 :=
  CE_at (fun k' i c _ => e _ _ (jaC_i (by have := cpl_k c; omega))) (fun i _ _ => e _ _ (jaC_s (by omega))) (fun i a b => e _ _ (jaC_w a b)) r
theorem JA_at {h h' : Hp} (e : ∀ k i : Nat, jaC k i → h'.1 k i = h.1 k i) (r : JA h) : JA h' := by
  obtain ⟨r1, ⟨r2, r3⟩, r4, r5⟩ := r
  refine ⟨CE0_at e r1, ⟨?_, ?_⟩, fun c => ?_, fun c => ?_⟩
  · rw [e _ _ jaC_k, e _ _ jaC_m]; exact r2
  · rw [e _ _ jaC_k, e _ _ jaC_m]; exact r3
  · rw [e _ _ jaC_k] at c; exact CE2_at e (r4 c)
  · rw [e _ _ jaC_k] at c; exact CE3_at e (r5 c)
def jaS (S : List (Nat × Option Nat)) : Bool := S.all (fun q => decide ((16 < q.1 ∧ q.1 < 34 ∨ 67 < q.1 ∨ q.1 = 2 ∨ q.1 = 6 ∨ q.1 = 8) ∧ q.1 ≠ 87 ∧ q.1 ≠ 118 ∧ q.1 ≠ 117) && (decide (q.1 ≠ 116) || (match q.2 with | none => false | some j => decide (j < 2 ∨ 5 < j))))
theorem jaS_no {S : List (Nat × Option Nat)} (hc : jaS S = true) {k i : Nat} (hk : jaC k i) : inS S k i = false := by
  unfold inS
  rw [List.any_eq_false]
  intro q hq e
  have h1 := List.all_eq_true.mp hc q hq
  rw [Bool.and_eq_true, Bool.or_eq_true] at h1
  rw [Bool.and_eq_true] at e
  have e2 : q.1 = k := eq_of_beq e.1
  have h2 := of_decide_eq_true h1.1
  rcases hk with hk | hk | hk | hk | hk | hk
  · have := cpl_k hk.1; omega
  · omega
  · omega
  · omega
  · omega
  · rcases h1.2 with h3 | h3
    · have := of_decide_eq_true h3; omega
    · have e3 := e.2
      cases hz : q.2 with
      | none => rw [hz] at h3; cases h3
      | some j =>
        rw [hz] at h3 e3
        have h4 := of_decide_eq_true h3
        have h5 : j = i := eq_of_beq e3
        omega
theorem JA_fr {S : List (Nat × Option Nat)} {h h' : Hp} (f : fr S h h') (hc : jaS S = true) (r : JA h) : JA h' := JA_at (fun _ _ hk => f.1 _ _ (jaS_no hc hk)) r
theorem inS_flt {S : List (Nat × Option Nat)} {P : Nat → Bool} {k i : Nat} (hp : P k = true) (h : inS (S.filter (fun q => P q.1)) k i = false) : inS S k i = false := by
  unfold inS at h ⊢
  rw [List.any_eq_false] at h ⊢
  intro q hq e
  have e2 : q.1 = k := by rw [Bool.and_eq_true] at e; exact eq_of_beq e.1
  exact h q (List.mem_filter.mpr ⟨hq, by rw [e2]; exact hp⟩) e
theorem JA_mix {S : List (Nat × Option Nat)} {h h' : Hp} (P : Nat → Bool) (f : fr S h h') (hc : jaS (S.filter (fun q => P q.1)) = true) (e : ∀ k i : Nat, jaC k i → P k = false → h'.1 k i = h.1 k i) (r : JA h) : JA h' := JA_at (fun k i hk => by
  cases hp : P k with
  | true => exact f.1 k i (inS_flt hp (jaS_no hc hk))
  | false => exact e k i hk hp) r
/-- the reference's row keeps all but water, bores, purses -/
def nA (h h' : Hp) : Prop := ∀ i : Nat, (16 ≤ i ∧ i < 64 ∨ 84 ≤ i) → h'.1 117 i = h.1 117 i
theorem nA_rf {h : Hp} : nA h h := fun _ _ => rfl
theorem nA_s {h h1 h2 : Hp} {k i : Nat} {x : Int32} (r : nA h h1) (e : h2 = pI h1 k i x) (hi : ¬ (k = 117 ∧ (16 ≤ i ∧ i < 64 ∨ 84 ≤ i))) : nA h h2 := fun j hj => by
  rw [e, pI_at, if_neg (by omega)]
  exact r j hj
theorem nA_t {h h1 h2 : Hp} (r : nA h h1) (g : nA h1 h2) : nA h h2 := fun j hj => (g j hj).trans (r j hj)
theorem JA_nA {S : List (Nat × Option Nat)} {h h' : Hp} (f : fr S h h') (hc : jaS (S.filter (fun q => decide (q.1 ≠ 117))) = true) (g : nA h h') (r : JA h) : JA h' := JA_mix (fun k => decide (k ≠ 117)) f hc (fun k i hk hp => by
  have hp' : k = 117 := by
    have := of_decide_eq_false hp
    omega
  subst hp'
  refine g i ?_
  rcases hk with hk | hk | hk | hk | hk | hk
  · have := cpl_k hk.1; omega
  · omega
  · omega
  · omega
  · exact hk.2
  · omega) r
/-- the class's county keeps all but water, bores, purses -/
def cA (h h' : Hp) : Prop := ∀ k i : Nat, cpl k i → k ≠ 2 ∧ k ≠ 6 ∧ k ≠ 8 → h'.1 k i = h.1 k i
theorem JA_cA {S : List (Nat × Option Nat)} {h h' : Hp} (f : fr S h h') (hc : jaS (S.filter (fun q => decide (16 < q.1))) = true) (g : cA h h') (r : JA h) : JA h' := JA_mix (fun k => decide (16 < k)) f hc (fun k i hk hp => by
  have hp' := of_decide_eq_false hp
  rcases hk with hk | hk | hk | hk | hk | hk
  · exact g k i hk.1 hk.2
  · omega
  · omega
  · omega
  · omega
  · omega) r
theorem CA_put {h h1 h2 : Hp} {k i d : Nat} {x : Int32} (r : CA h 0 0) (hd : dof (68 + k) i = some d) (h144 : d < 144) (e1 : h1 = pI h k i x) (e2 : h2 = pI h1 117 d x) : CA h2 0 0 := fun k' i' d' hd' ha => by
  have b := dof_k hd
  have b' := dof_k hd'
  have c' := dof_c hd'
  rw [Nat.zero_add]
  have g := r k' i' d' hd' ha
  rw [Nat.zero_add] at g
  by_cases q : k' = k ∧ i' = i
  · obtain ⟨rfl, rfl⟩ := q
    rw [hd] at hd'
    cases hd'
    rw [mK_lt h144, mJ_lt h144, Nat.zero_add, e2, pI_at, if_neg (by omega), e1, pI_at, if_pos ⟨rfl, rfl⟩, pI_at, if_pos ⟨rfl, rfl⟩]
  · have hne : d' ≠ d := fun c => by
      subst c
      have a1 := dofi_of hd
      have a2 := dofi_of hd'
      rw [a1] at a2
      have a3 : 68 + k = 68 + k' := congrArg Prod.fst a2
      have a4 : i = i' := congrArg Prod.snd a2
      exact q ⟨by omega, a4.symm⟩
    have e3 : h2.1 k' i' = h.1 k' i' := by rw [e2, pI_at, if_neg (by omega), e1, pI_at, if_neg q]
    rw [e3, g]
    by_cases w : d' < 144
    · rw [mK_lt w, mJ_lt w, Nat.zero_add, e2, pI_at, if_neg (by omega), e1, pI_at, if_neg (by omega)]
    · rw [mK_ge w, mJ_ge w, e2, pI_at, if_neg (by omega), e1, pI_at, if_neg (by omega)]
theorem JA_rest {h h2 : Hp} (r : JA h) (c : CE h2 0 0) (e : ∀ k i : Nat, (34 ≤ k ∧ k ≤ 67 ∨ k = 87 ∨ k = 118 ∨ k = 117 ∧ 144 ≤ i ∨ k = 116 ∧ 2 ≤ i ∧ i ≤ 5) → h2.1 k i = h.1 k i) : JA h2 := by
  obtain ⟨r1, ⟨r2, r3⟩, r4, r5⟩ := r
  refine ⟨c, ⟨?_, ?_⟩, fun q => ?_, fun q => ?_⟩
  · rw [e 87 0 (by omega), e 118 0 (by omega)]; exact r2
  · rw [e 87 1 (by omega), e 118 1 (by omega)]; exact r3
  · rw [e 87 0 (by omega)] at q
    exact CE_at (fun k' i c _ => e _ _ (by have := cpl_k c; omega)) (fun i _ _ => e _ _ (by omega)) (fun i a b => e _ _ (by omega)) (r4 q)
  · rw [e 87 1 (by omega)] at q
    exact CE_at (fun k' i c _ => e _ _ (by have := cpl_k c; omega)) (fun i _ _ => e _ _ (by omega)) (fun i a b => e _ _ (by omega)) (r5 q)
theorem dof_not {k i d : Nat} (hd : dof (68 + k) i = some d) (h86 : d < 86) : k ≠ 7 ∧ k ≠ 12 ∧ k ≤ 12 := by
  have b := dof_k hd
  refine ⟨fun c => ?_, fun c => ?_, by omega⟩
  · subst c
    unfold dof at hd
    repeat' split at hd
    all_goals first | (cases hd; omega) | (cases hd)
  · subst c
    unfold dof at hd
    repeat' split at hd
    all_goals first | (cases hd; omega) | (cases hd)
theorem JA_put {h h1 h2 : Hp} {k i d : Nat} {x : Int32} (r : JA h) (hd : dof (68 + k) i = some d) (h86 : d < 86) (e1 : h1 = pI h k i x) (e2 : h2 = pI h1 117 d x) : JA h2 := by
  have b := dof_k hd
  have b2 := dof_not hd h86
  have cell : ∀ k' i' : Nat, k' ≠ k → ¬ (k' = 117 ∧ i' = d) → h2.1 k' i' = h.1 k' i' := fun k' i' a c => by
    rw [e2, pI_at, if_neg c, e1, pI_at, if_neg (fun w => a w.1)]
  refine JA_rest r ⟨CA_put r.1.1 hd (by omega) e1 e2, fun j hj hc => ?_, fun j hj hc => ?_⟩ (fun k' i' w => cell k' i' (by omega) (by omega))
  · rw [cell _ _ (by omega) (by omega)] at hc
    rw [cell _ _ (by omega) (by omega), cell _ _ (by omega) (by omega), cell _ _ (by omega) (by omega), cell _ _ (by omega) (by omega), cell _ _ (by omega) (by omega), cell _ _ (by omega) (by omega)]
    exact r.1.2.1 j hj hc
  · rw [cell _ _ (by omega) (by omega)] at hc
    rw [cell _ _ (by omega) (by omega), cell _ _ (by omega) (by omega), cell _ _ (by omega) (by omega), cell _ _ (by omega) (by omega), cell _ _ (by omega) (by omega), cell _ _ (by omega) (by omega), cell _ _ (by omega) (by omega), cell _ _ (by omega) (by omega)]
    exact r.1.2.2 j hj hc
theorem JA_cell {h : Hp} {k i d : Nat} (r : JA h) (hd : dof (68 + k) i = some d) (ha : aP d) (h144 : d < 144) : h.1 k i = h.1 117 d := by
  have g := r.1.1 k i d hd ha
  rw [Nat.zero_add, mK_lt h144, mJ_lt h144, Nat.zero_add] at g
  exact g
theorem JA_wh {h : Hp} (r : JA h) {i : Nat} (hi : i < 4) : h.1 1 i = h.1 116 (i + 2) := by
  have hd : dof (68 + 1) i = some (144 + i) := by
    unfold dof
    rw [if_neg (by omega), if_neg (by omega), if_neg (by omega), if_neg (by omega), if_neg (by omega), if_neg (by omega), if_neg (by omega), if_neg (by omega), if_neg (by omega), if_neg (by omega), if_pos (by omega)]
  have g := r.1.1 1 i (144 + i) hd (by unfold aP; omega)
  rw [mK_ge (by omega), mJ_ge (by omega), show 144 + i - 142 = i + 2 by omega] at g
  exact g
theorem m1_eq {r s : Int32} (a : r.toInt = -1) (b : s.toInt = -1) : r = s := Int32.toInt_inj.mp (a.trans b.symm)
/-- a cell is told anew, its old number is the answer; or BAD -/
def Er (h h' : Hp) (k i : Nat) (G : Prop) (V : Int32 → Prop) (r : Int32) : Prop := G ∧ (∃ x : Int32, V x ∧ h' = pI h k i x ∧ r = h.1 k i) ∨ ¬ G ∧ h' = h ∧ r.toInt = -1
theorem JA_row {h h1 h2 : Hp} {k i d : Nat} {G1 G2 : Prop} {V1 V2 : Int32 → Prop} {r1 r2 : Int32} (r : JA h) (f1 : Er h h1 k i G1 V1 r1) (f2 : Er h1 h2 117 d G2 V2 r2) (hG : G1 ↔ G2) (hV : ∀ x y : Int32, V1 x → V2 y → x = y) (hd : G1 → dof (68 + k) i = some d ∧ d < 86 ∧ aP d) : JA h2 ∧ r1 = r2 := by
  rcases f1 with ⟨g1, x, vx, e1, q1⟩ | ⟨g1, e1, q1⟩
  · rcases f2 with ⟨g2, y, vy, e2, q2⟩ | ⟨g2, e2, q2⟩
    · obtain ⟨d1, d2, d3⟩ := hd g1
      have b := dof_k d1
      rw [← hV x y vx vy] at e2
      refine ⟨JA_put r d1 d2 e1 e2, ?_⟩
      rw [q1, q2, e1, pI_at, if_neg (by omega)]
      exact JA_cell r d1 d3 (by omega)
    · exact absurd (hG.mp g1) g2
  · rcases f2 with ⟨g2, y, vy, e2, q2⟩ | ⟨g2, e2, q2⟩
    · exact absurd (hG.mpr g2) g1
    · rw [e1] at e2
      rw [e2]
      exact ⟨r, m1_eq q1 q2⟩
/-- one that becomes another state -/
def Ew (h h' : Hp) (G : Prop) (hn : Hp) (r0 r : Int32) : Prop := G ∧ h' = hn ∧ r = r0 ∨ ¬ G ∧ h' = h ∧ r.toInt = -1
theorem JA_cut {h h1 h2 : Hp} {G1 G2 : Prop} {n v a b r1 r2 : Int32} (r : JA h) (f1 : Ew h h1 G1 (pI (pI h 0 3 n) 0 4 v) a r1) (f2 : Ew h1 h2 G2 (pI (pI h1 117 85 v) 117 84 n) b r2) (hG : G1 ↔ G2) (ha : a = h.1 0 3) (hb : b = h.1 117 84) : JA h2 ∧ r1 = r2 := by
  rcases f1 with ⟨g1, e1, q1⟩ | ⟨g1, e1, q1⟩
  · rcases f2 with ⟨g2, e2, q2⟩ | ⟨g2, e2, q2⟩
    · refine ⟨?_, ?_⟩
      · have e3 : h2 = pI (pI (pI (pI h 0 3 n) 117 84 n) 0 4 v) 117 85 v := by
          rw [e2, e1, pI_comm (h := pI (pI h 0 3 n) 0 4 v) (k := 117) (i := 85) (by omega), pI_comm (h := pI h 0 3 n) (k := 0) (i := 4) (by omega)]
        exact JA_put (JA_put r (k := 0) (i := 3) (d := 84) rfl (by decide) rfl rfl) (k := 0) (i := 4) (d := 85) rfl (by decide) rfl e3
      · rw [q1, q2, ha, hb]
        exact JA_cell r rfl (Or.inr (by decide)) (by decide)
    · exact absurd (hG.mp g1) g2
  · rcases f2 with ⟨g2, e2, q2⟩ | ⟨g2, e2, q2⟩
    · exact absurd (hG.mpr g2) g1
    · rw [e1] at e2
      rw [e2]
      exact ⟨r, m1_eq q1 q2⟩
theorem JA_cnt7 {h h1 h2 : Hp} {n : Int32} (r : JA h) (hn : n.toInt ≤ (h.1 7 4).toInt) (e1 : h1 = pI h 7 4 n) (e2 : h2 = pI h1 117 86 n) : JA h2 := by
  have cell : ∀ k' i' : Nat, k' ≠ 7 → ¬ (k' = 117 ∧ i' = 86) → h2.1 k' i' = h.1 k' i' := fun k' i' a c => by
    rw [e2, pI_at, if_neg c, e1, pI_at, if_neg (fun w => a w.1)]
  refine JA_rest r ⟨CA_put r.1.1 (k := 7) (i := 4) (d := 86) rfl (by decide) e1 e2, fun j hj hc => ?_, fun j hj hc => ?_⟩ (fun k' i' w => cell k' i' (by omega) (by omega))
  · have e7 : h2.1 (0 + 7) 4 = n := by rw [e2, pI_at, if_neg (by omega), e1, pI_at, if_pos (by omega)]
    rw [e7] at hc
    rw [cell _ _ (by omega) (by omega), cell _ _ (by omega) (by omega), cell _ _ (by omega) (by omega), cell _ _ (by omega) (by omega), cell _ _ (by omega) (by omega), cell _ _ (by omega) (by omega)]
    exact r.1.2.1 j hj (by rw [Nat.zero_add]; omega)
  · rw [cell _ _ (by omega) (by omega)] at hc
    rw [cell _ _ (by omega) (by omega), cell _ _ (by omega) (by omega), cell _ _ (by omega) (by omega), cell _ _ (by omega) (by omega), cell _ _ (by omega) (by omega), cell _ _ (by omega) (by omega), cell _ _ (by omega) (by omega), cell _ _ (by omega) (by omega)]
    exact r.1.2.2 j hj hc
theorem JA_cnt12 {h h1 h2 : Hp} {n : Int32} (r : JA h) (hn : n.toInt ≤ (h.1 12 4).toInt) (e1 : h1 = pI h 12 4 n) (e2 : h2 = pI h1 117 111 n) : JA h2 := by
  have cell : ∀ k' i' : Nat, k' ≠ 12 → ¬ (k' = 117 ∧ i' = 111) → h2.1 k' i' = h.1 k' i' := fun k' i' a c => by
    rw [e2, pI_at, if_neg c, e1, pI_at, if_neg (fun w => a w.1)]
  refine JA_rest r ⟨CA_put r.1.1 (k := 12) (i := 4) (d := 111) rfl (by decide) e1 e2, fun j hj hc => ?_, fun j hj hc => ?_⟩ (fun k' i' w => cell k' i' (by omega) (by omega))
  · rw [cell _ _ (by omega) (by omega)] at hc
    rw [cell _ _ (by omega) (by omega), cell _ _ (by omega) (by omega), cell _ _ (by omega) (by omega), cell _ _ (by omega) (by omega), cell _ _ (by omega) (by omega), cell _ _ (by omega) (by omega)]
    exact r.1.2.1 j hj hc
  · have e7 : h2.1 (0 + 12) 4 = n := by rw [e2, pI_at, if_neg (by omega), e1, pI_at, if_pos (by omega)]
    rw [e7] at hc
    rw [cell _ _ (by omega) (by omega), cell _ _ (by omega) (by omega), cell _ _ (by omega) (by omega), cell _ _ (by omega) (by omega), cell _ _ (by omega) (by omega), cell _ _ (by omega) (by omega), cell _ _ (by omega) (by omega), cell _ _ (by omega) (by omega)]
    exact r.1.2.2 j hj (by rw [Nat.zero_add]; omega)
theorem JA_pay {h h1 h2 : Hp} {G1 G2 : Prop} {n a b r1 r2 : Int32} (r : JA h) (f1 : Ew h h1 G1 (pI h 7 4 n) a r1) (f2 : Ew h1 h2 G2 (pI h1 117 86 n) b r2) (hG : G1 ↔ G2) (hn : G1 → n.toInt ≤ (h.1 7 4).toInt) (ha : a = h.1 7 4) (hb : b = h.1 117 86) : JA h2 ∧ r1 = r2 := by
  rcases f1 with ⟨g1, e1, q1⟩ | ⟨g1, e1, q1⟩
  · rcases f2 with ⟨g2, e2, q2⟩ | ⟨g2, e2, q2⟩
    · exact ⟨JA_cnt7 r (hn g1) e1 e2, by rw [q1, q2, ha, hb]; exact JA_cell r rfl (Or.inr (by decide)) (by decide)⟩
    · exact absurd (hG.mp g1) g2
  · rcases f2 with ⟨g2, e2, q2⟩ | ⟨g2, e2, q2⟩
    · exact absurd (hG.mpr g2) g1
    · rw [e1] at e2
      rw [e2]
      exact ⟨r, m1_eq q1 q2⟩
theorem JA_forget {h h1 h2 : Hp} {G1 G2 : Prop} {n a b r1 r2 : Int32} (r : JA h) (f1 : Ew h h1 G1 (pI h 12 4 n) a r1) (f2 : Ew h1 h2 G2 (pI h1 117 111 n) b r2) (hG : G1 ↔ G2) (hn : G1 → n.toInt ≤ (h.1 12 4).toInt) (ha : a = h.1 12 4) (hb : b = h.1 117 111) : JA h2 ∧ r1 = r2 := by
  rcases f1 with ⟨g1, e1, q1⟩ | ⟨g1, e1, q1⟩
  · rcases f2 with ⟨g2, e2, q2⟩ | ⟨g2, e2, q2⟩
    · exact ⟨JA_cnt12 r (hn g1) e1 e2, by rw [q1, q2, ha, hb]; exact JA_cell r rfl (Or.inr (by decide)) (by decide)⟩
    · exact absurd (hG.mp g1) g2
  · rcases f2 with ⟨g2, e2, q2⟩ | ⟨g2, e2, q2⟩
    · exact absurd (hG.mpr g2) g1
    · rw [e1] at e2
      rw [e2]
      exact ⟨r, m1_eq q1 q2⟩
end
section
theorem JA_owe1 {h h1 h2 : Hp} {a b v u : Int32} {t : Int} (r : JA h) (ht : 0 ≤ t ∧ t < 8) (h7 : (h.1 7 4).toInt = t) (hu : u.toInt = t + 1) (e1 : h1 = pI (pI (pI (pI h 9 t.toNat a) 10 t.toNat b) 11 t.toNat v) 7 4 u) (e2 : h2 = pI (pI (pI (pI h1 117 (87 + 3 * t).toNat a) 117 (87 + 3 * t + 1).toNat b) 117 (87 + 3 * t + 2).toNat v) 117 86 u) : JA h2 := by
  have cell : ∀ k i : Nat, k ≠ 7 → k ≠ 9 → k ≠ 10 → k ≠ 11 → ¬ (k = 117 ∧ 86 ≤ i ∧ i ≤ 110) → h2.1 k i = h.1 k i := fun k i a1 a2 a3 a4 a5 => by
    rw [e2, pI_at, if_neg (by omega), pI_at, if_neg (by omega), pI_at, if_neg (by omega), pI_at, if_neg (by omega), e1, pI_at, if_neg (by omega), pI_at, if_neg (by omega), pI_at, if_neg (by omega), pI_at, if_neg (by omega)]
  have c7 : h2.1 7 4 = u := by rw [e2, pI_at, if_neg (by omega), pI_at, if_neg (by omega), pI_at, if_neg (by omega), pI_at, if_neg (by omega), e1, pI_at, if_pos (by omega)]
  have c86 : h2.1 117 86 = u := by rw [e2, pI_at, if_pos (by omega)]
  refine JA_rest r ⟨fun k i d hd ha => ?_, fun j hj hc => ?_, fun j hj hc => ?_⟩ (fun k i w => cell k i (by omega) (by omega) (by omega) (by omega) (by omega))
  · have q := dof_k hd
    have q2 := dof_c hd
    rw [Nat.zero_add]
    by_cases w : d = 86
    · subst w
      have a2 := dofi_of hd
      have a3 : 68 + k = 75 := (congrArg Prod.fst a2).symm
      have a4 : i = 4 := (congrArg Prod.snd a2).symm
      obtain rfl : k = 7 := by omega
      subst a4
      rw [mK_lt (by decide), mJ_lt (by decide), Nat.zero_add, c7, c86]
    · have k7 : k ≠ 7 := fun c => by
        subst c
        unfold dof at hd
        repeat' split at hd
        all_goals first | (cases hd; omega) | (cases hd)
      have g := r.1.1 k i d hd ha
      rw [Nat.zero_add] at g
      rw [cell k i k7 (by omega) (by omega) (by omega) (by omega), g]
      by_cases z : d < 144
      · rw [mK_lt z, mJ_lt z, Nat.zero_add, cell 117 d (by omega) (by omega) (by omega) (by omega) (by omega)]
      · rw [mK_ge z, mJ_ge z, cell 116 _ (by omega) (by omega) (by omega) (by omega) (by omega)]
  · rw [Nat.zero_add] at hc
    rw [c7, hu] at hc
    rw [Nat.zero_add, Nat.zero_add, Nat.zero_add, Nat.zero_add, Nat.zero_add, Nat.zero_add]
    by_cases w : j = t.toNat
    · subst w
      refine ⟨?_, ?_, ?_⟩
      · have p1 : h2.1 9 t.toNat = a := by rw [e2, pI_at, if_neg (by omega), pI_at, if_neg (by omega), pI_at, if_neg (by omega), pI_at, if_neg (by omega), e1, pI_at, if_neg (by omega), pI_at, if_neg (by omega), pI_at, if_neg (by omega), pI_at, if_pos (by omega)]
        have p2 : h2.1 117 (87 + 3 * t.toNat) = a := by rw [e2, pI_at, if_neg (by omega), pI_at, if_neg (by omega), pI_at, if_neg (by omega), pI_at, if_pos (by omega)]
        rw [p1, p2]
      · have p1 : h2.1 10 t.toNat = b := by rw [e2, pI_at, if_neg (by omega), pI_at, if_neg (by omega), pI_at, if_neg (by omega), pI_at, if_neg (by omega), e1, pI_at, if_neg (by omega), pI_at, if_neg (by omega), pI_at, if_pos (by omega)]
        have p2 : h2.1 117 (88 + 3 * t.toNat) = b := by rw [e2, pI_at, if_neg (by omega), pI_at, if_neg (by omega), pI_at, if_pos (by omega)]
        rw [p1, p2]
      · have p1 : h2.1 11 t.toNat = v := by rw [e2, pI_at, if_neg (by omega), pI_at, if_neg (by omega), pI_at, if_neg (by omega), pI_at, if_neg (by omega), e1, pI_at, if_neg (by omega), pI_at, if_pos (by omega)]
        have p2 : h2.1 117 (89 + 3 * t.toNat) = v := by rw [e2, pI_at, if_neg (by omega), pI_at, if_pos (by omega)]
        rw [p1, p2]
    · have cj : ∀ k i : Nat, k = 9 ∧ i = j ∨ k = 10 ∧ i = j ∨ k = 11 ∧ i = j ∨ k = 117 ∧ (i = 87 + 3 * j ∨ i = 88 + 3 * j ∨ i = 89 + 3 * j) → h2.1 k i = h.1 k i := fun k i a1 => by
        rw [e2, pI_at, if_neg (by omega), pI_at, if_neg (by omega), pI_at, if_neg (by omega), pI_at, if_neg (by omega), e1, pI_at, if_neg (by omega), pI_at, if_neg (by omega), pI_at, if_neg (by omega), pI_at, if_neg (by omega)]
      have g := r.1.2.1 j hj (by rw [Nat.zero_add]; omega)
      rw [Nat.zero_add, Nat.zero_add, Nat.zero_add, Nat.zero_add, Nat.zero_add, Nat.zero_add] at g
      rw [cj 9 j (by omega), cj 10 j (by omega), cj 11 j (by omega), cj 117 _ (by omega), cj 117 _ (by omega), cj 117 _ (by omega)]
      exact g
  · rw [Nat.zero_add, cell 12 4 (by omega) (by omega) (by omega) (by omega) (by omega)] at hc
    rw [cell _ _ (by omega) (by omega) (by omega) (by omega) (by omega), cell _ _ (by omega) (by omega) (by omega) (by omega) (by omega), cell _ _ (by omega) (by omega) (by omega) (by omega) (by omega), cell _ _ (by omega) (by omega) (by omega) (by omega) (by omega), cell _ _ (by omega) (by omega) (by omega) (by omega) (by omega), cell _ _ (by omega) (by omega) (by omega) (by omega) (by omega), cell _ _ (by omega) (by omega) (by omega) (by omega) (by omega), cell _ _ (by omega) (by omega) (by omega) (by omega) (by omega)]
    exact r.1.2.2 j hj (by rw [Nat.zero_add]; exact hc)
theorem JA_see1 {h h1 h2 : Hp} {a b v x u : Int32} {t : Int} (r : JA h) (ht : 0 ≤ t ∧ t < 8) (h7 : (h.1 12 4).toInt = t) (hu : u.toInt = t + 1) (e1 : h1 = pI (pI (pI (pI (pI h 13 t.toNat a) 14 t.toNat b) 15 t.toNat v) 16 t.toNat x) 12 4 u) (e2 : h2 = pI (pI (pI (pI (pI h1 117 (112 + 4 * t).toNat a) 117 (112 + 4 * t + 1).toNat b) 117 (112 + 4 * t + 2).toNat v) 117 (112 + 4 * t + 3).toNat x) 117 111 u) : JA h2 := by
  have cell : ∀ k i : Nat, k ≤ 11 ∨ 16 < k ∧ ¬ (k = 117 ∧ 111 ≤ i ∧ i ≤ 143) → h2.1 k i = h.1 k i := fun k i a1 => by
    rw [e2, pI_at, if_neg (by omega), pI_at, if_neg (by omega), pI_at, if_neg (by omega), pI_at, if_neg (by omega), pI_at, if_neg (by omega), e1, pI_at, if_neg (by omega), pI_at, if_neg (by omega), pI_at, if_neg (by omega), pI_at, if_neg (by omega), pI_at, if_neg (by omega)]
  have c7 : h2.1 12 4 = u := by rw [e2, pI_at, if_neg (by omega), pI_at, if_neg (by omega), pI_at, if_neg (by omega), pI_at, if_neg (by omega), pI_at, if_neg (by omega), e1, pI_at, if_pos (by omega)]
  have c86 : h2.1 117 111 = u := by rw [e2, pI_at, if_pos (by omega)]
  refine JA_rest r ⟨fun k i d hd ha => ?_, fun j hj hc => ?_, fun j hj hc => ?_⟩ (fun k i w => cell k i (by omega))
  · have q := dof_k hd
    have q2 := dof_c hd
    rw [Nat.zero_add]
    by_cases w : d = 111
    · subst w
      have a2 := dofi_of hd
      have a3 : 68 + k = 80 := (congrArg Prod.fst a2).symm
      have a4 : i = 4 := (congrArg Prod.snd a2).symm
      obtain rfl : k = 12 := by omega
      subst a4
      rw [mK_lt (by decide), mJ_lt (by decide), Nat.zero_add, c7, c86]
    · have k7 : k ≠ 12 := fun c => by
        subst c
        unfold dof at hd
        repeat' split at hd
        all_goals first | (cases hd; omega) | (cases hd)
      have g := r.1.1 k i d hd ha
      rw [Nat.zero_add] at g
      rw [cell k i (by omega), g]
      by_cases z : d < 144
      · rw [mK_lt z, mJ_lt z, Nat.zero_add, cell 117 d (by omega)]
      · rw [mK_ge z, mJ_ge z, cell 116 _ (by omega)]
  · rw [Nat.zero_add, cell 7 4 (by omega)] at hc
    rw [cell _ _ (by omega), cell _ _ (by omega), cell _ _ (by omega), cell _ _ (by omega), cell _ _ (by omega), cell _ _ (by omega)]
    exact r.1.2.1 j hj (by rw [Nat.zero_add]; exact hc)
  · rw [Nat.zero_add] at hc
    rw [c7, hu] at hc
    rw [Nat.zero_add, Nat.zero_add, Nat.zero_add, Nat.zero_add, Nat.zero_add, Nat.zero_add, Nat.zero_add, Nat.zero_add]
    by_cases w : j = t.toNat
    · subst w
      refine ⟨?_, ?_, ?_, ?_⟩
      · have p1 : h2.1 13 t.toNat = a := by rw [e2, pI_at, if_neg (by omega), pI_at, if_neg (by omega), pI_at, if_neg (by omega), pI_at, if_neg (by omega), pI_at, if_neg (by omega), e1, pI_at, if_neg (by omega), pI_at, if_neg (by omega), pI_at, if_neg (by omega), pI_at, if_neg (by omega), pI_at, if_pos (by omega)]
        have p2 : h2.1 117 (112 + 4 * t.toNat) = a := by rw [e2, pI_at, if_neg (by omega), pI_at, if_neg (by omega), pI_at, if_neg (by omega), pI_at, if_neg (by omega), pI_at, if_pos (by omega)]
        rw [p1, p2]
      · have p1 : h2.1 14 t.toNat = b := by rw [e2, pI_at, if_neg (by omega), pI_at, if_neg (by omega), pI_at, if_neg (by omega), pI_at, if_neg (by omega), pI_at, if_neg (by omega), e1, pI_at, if_neg (by omega), pI_at, if_neg (by omega), pI_at, if_neg (by omega), pI_at, if_pos (by omega)]
        have p2 : h2.1 117 (113 + 4 * t.toNat) = b := by rw [e2, pI_at, if_neg (by omega), pI_at, if_neg (by omega), pI_at, if_neg (by omega), pI_at, if_pos (by omega)]
        rw [p1, p2]
      · have p1 : h2.1 15 t.toNat = v := by rw [e2, pI_at, if_neg (by omega), pI_at, if_neg (by omega), pI_at, if_neg (by omega), pI_at, if_neg (by omega), pI_at, if_neg (by omega), e1, pI_at, if_neg (by omega), pI_at, if_neg (by omega), pI_at, if_pos (by omega)]
        have p2 : h2.1 117 (114 + 4 * t.toNat) = v := by rw [e2, pI_at, if_neg (by omega), pI_at, if_neg (by omega), pI_at, if_pos (by omega)]
        rw [p1, p2]
      · have p1 : h2.1 16 t.toNat = x := by rw [e2, pI_at, if_neg (by omega), pI_at, if_neg (by omega), pI_at, if_neg (by omega), pI_at, if_neg (by omega), pI_at, if_neg (by omega), e1, pI_at, if_neg (by omega), pI_at, if_pos (by omega)]
        have p2 : h2.1 117 (115 + 4 * t.toNat) = x := by rw [e2, pI_at, if_neg (by omega), pI_at, if_pos (by omega)]
        rw [p1, p2]
    · have cj : ∀ k i : Nat, (k = 13 ∨ k = 14 ∨ k = 15 ∨ k = 16) ∧ i = j ∨ k = 117 ∧ 112 + 4 * j ≤ i ∧ i ≤ 115 + 4 * j → h2.1 k i = h.1 k i := fun k i a1 => by
        rw [e2, pI_at, if_neg (by omega), pI_at, if_neg (by omega), pI_at, if_neg (by omega), pI_at, if_neg (by omega), pI_at, if_neg (by omega), e1, pI_at, if_neg (by omega), pI_at, if_neg (by omega), pI_at, if_neg (by omega), pI_at, if_neg (by omega), pI_at, if_neg (by omega)]
      have g := r.1.2.2 j hj (by rw [Nat.zero_add]; omega)
      rw [Nat.zero_add, Nat.zero_add, Nat.zero_add, Nat.zero_add, Nat.zero_add, Nat.zero_add, Nat.zero_add, Nat.zero_add] at g
      rw [cj 13 j (by omega), cj 14 j (by omega), cj 15 j (by omega), cj 16 j (by omega), cj 117 _ (by omega), cj 117 _ (by omega), cj 117 _ (by omega), cj 117 _ (by omega)]
      exact g
theorem same_of {x y : Int32} {a : Int} (p : x.toInt = a) (q : y.toInt = a) : x = y := Int32.toInt_inj.mp (p.trans q.symm)
theorem JA_owe {h h1 h2 : Hp} {G1 G2 : Prop} {a b v r1 r2 : Int32} {t1 t2 : Int} (r : JA h) (f1 : G1 ∧ t1 < 8 ∧ (∃ u : Int32, u.toInt = t1 + 1 ∧ h1 = pI (pI (pI (pI h 9 t1.toNat a) 10 t1.toNat b) 11 t1.toNat v) 7 4 u ∧ r1 = u) ∨ G1 ∧ 8 ≤ t1 ∧ h1 = h ∧ r1.toInt = -3 ∨ ¬ G1 ∧ h1 = h ∧ r1.toInt = -1) (f2 : G2 ∧ t2 < 8 ∧ (∃ u : Int32, u.toInt = t2 + 1 ∧ h2 = pI (pI (pI (pI h1 117 (87 + 3 * t2).toNat a) 117 (87 + 3 * t2 + 1).toNat b) 117 (87 + 3 * t2 + 2).toNat v) 117 86 u ∧ r2 = u) ∨ G2 ∧ 8 ≤ t2 ∧ h2 = h1 ∧ r2.toInt = -3 ∨ ¬ G2 ∧ h2 = h1 ∧ r2.toInt = -1) (hG : G1 ↔ G2) (h0 : 0 ≤ t1) (ht : t2 = t1) (h7 : (h.1 7 4).toInt = t1) : JA h2 ∧ r1 = r2 := by
  subst ht
  rcases f1 with ⟨g1, l1, u1, p1, e1, q1⟩ | ⟨g1, l1, e1, q1⟩ | ⟨g1, e1, q1⟩
  · rcases f2 with ⟨g2, l2, u2, p2, e2, q2⟩ | ⟨g2, l2, e2, q2⟩ | ⟨g2, e2, q2⟩
    · have hu : u2 = u1 := same_of p2 p1
      subst hu
      exact ⟨JA_owe1 r ⟨h0, l1⟩ h7 p1 e1 e2, by rw [q1, q2]⟩
    · omega
    · exact absurd (hG.mp g1) g2
  · rcases f2 with ⟨g2, l2, u2, p2, e2, q2⟩ | ⟨g2, l2, e2, q2⟩ | ⟨g2, e2, q2⟩
    · omega
    · rw [e1] at e2
      rw [e2]
      exact ⟨r, same_of q1 q2⟩
    · exact absurd (hG.mp g1) g2
  · rcases f2 with ⟨g2, l2, u2, p2, e2, q2⟩ | ⟨g2, l2, e2, q2⟩ | ⟨g2, e2, q2⟩
    · exact absurd (hG.mpr g2) g1
    · exact absurd (hG.mpr g2) g1
    · rw [e1] at e2
      rw [e2]
      exact ⟨r, same_of q1 q2⟩
theorem JA_see {h h1 h2 : Hp} {G1 G2 : Prop} {a b v r1 r2 : Int32} {t1 t2 z : Int} (r : JA h) (f1 : G1 ∧ t1 < 8 ∧ (∃ u x : Int32, u.toInt = t1 + 1 ∧ (z ≠ 0 ∧ x.toInt = 1 ∨ z = 0 ∧ x.toInt = 0) ∧ h1 = pI (pI (pI (pI (pI h 13 t1.toNat a) 14 t1.toNat b) 15 t1.toNat v) 16 t1.toNat x) 12 4 u ∧ r1 = u) ∨ G1 ∧ 8 ≤ t1 ∧ h1 = h ∧ r1.toInt = -3 ∨ ¬ G1 ∧ h1 = h ∧ r1.toInt = -1) (f2 : G2 ∧ t2 < 8 ∧ (∃ u x : Int32, u.toInt = t2 + 1 ∧ (z ≠ 0 ∧ x.toInt = 1 ∨ z = 0 ∧ x.toInt = 0) ∧ h2 = pI (pI (pI (pI (pI h1 117 (112 + 4 * t2).toNat a) 117 (112 + 4 * t2 + 1).toNat b) 117 (112 + 4 * t2 + 2).toNat v) 117 (112 + 4 * t2 + 3).toNat x) 117 111 u ∧ r2 = u) ∨ G2 ∧ 8 ≤ t2 ∧ h2 = h1 ∧ r2.toInt = -3 ∨ ¬ G2 ∧ h2 = h1 ∧ r2.toInt = -1) (hG : G1 ↔ G2) (h0 : 0 ≤ t1) (ht : t2 = t1) (h7 : (h.1 12 4).toInt = t1) : JA h2 ∧ r1 = r2 := by
  subst ht
  rcases f1 with ⟨g1, l1, u1, x1, p1, w1, e1, q1⟩ | ⟨g1, l1, e1, q1⟩ | ⟨g1, e1, q1⟩
  · rcases f2 with ⟨g2, l2, u2, x2, p2, w2, e2, q2⟩ | ⟨g2, l2, e2, q2⟩ | ⟨g2, e2, q2⟩
    · have hu : u2 = u1 := same_of p2 p1
      have hx : x2 = x1 := by
        rcases w1 with ⟨a1, b1⟩ | ⟨a1, b1⟩ <;> rcases w2 with ⟨a2, b2⟩ | ⟨a2, b2⟩
        · exact same_of b2 b1
        · exact absurd a2 a1
        · exact absurd a1 a2
        · exact same_of b2 b1
      subst hu
      subst hx
      exact ⟨JA_see1 r ⟨h0, l1⟩ h7 p1 e1 e2, by rw [q1, q2]⟩
    · omega
    · exact absurd (hG.mp g1) g2
  · rcases f2 with ⟨g2, l2, u2, x2, p2, w2, e2, q2⟩ | ⟨g2, l2, e2, q2⟩ | ⟨g2, e2, q2⟩
    · omega
    · rw [e1] at e2
      rw [e2]
      exact ⟨r, same_of q1 q2⟩
    · exact absurd (hG.mp g1) g2
  · rcases f2 with ⟨g2, l2, u2, x2, p2, w2, e2, q2⟩ | ⟨g2, l2, e2, q2⟩ | ⟨g2, e2, q2⟩
    · exact absurd (hG.mpr g2) g1
    · exact absurd (hG.mpr g2) g1
    · rw [e1] at e2
      rw [e2]
      exact ⟨r, same_of q1 q2⟩
def rcp (h h' : Hp) (k1 k0 n : Nat) : Prop := ∀ i : Nat, i < n → h'.1 k1 i = h.1 k0 i
theorem rcp_now {S : List (Nat × Option Nat)} {h h1 h2 : Hp} {k1 k0 n : Nat} (f : fr S h h1) (hs : ∀ i : Nat, inS S k0 i = false) (e : h2 = pR h1 k1 (va_cpy (h1.1 k0) (h1.1 k1) 0 0 n)) : rcp h h2 k1 k0 n := fun i hi => by
  rw [e, pR_eq, ← f.1 k0 i (hs i)]
  unfold va_cpy
  rw [if_pos (by omega), show 0 + (i - 0) = i by omega]
theorem rcp_row {h h1 h2 : Hp} {k1 k0 n k : Nat} {f : Nat → Int32} (r : rcp h h1 k1 k0 n) (e : h2 = pR h1 k f) (hk : k1 ≠ k) : rcp h h2 k1 k0 n := fun i hi => kn_row e (r i hi) hk
theorem rcp_put {h h1 h2 : Hp} {k1 k0 n k i' : Nat} {x : Int32} (r : rcp h h1 k1 k0 n) (e : h2 = pI h1 k i' x) (hk : k1 ≠ k) : rcp h h2 k1 k0 n := fun i hi => kn_ne e (r i hi) hk
def ckS (S : List (Nat × Option Nat)) (lo hi : Nat) : Bool := S.all (fun q => decide (q.1 < lo ∨ hi < q.1))
theorem ckS_no {S : List (Nat × Option Nat)} {lo hi : Nat} (hc : ckS S lo hi = true) {k i : Nat} (h1 : lo ≤ k) (h2 : k ≤ hi) : inS S k i = false := by
  unfold inS
  rw [List.any_eq_false]
  intro q hq e
  have := of_decide_eq_true (List.all_eq_true.mp hc q hq)
  rw [Bool.and_eq_true] at e
  have e2 : q.1 = k := eq_of_beq e.1
  omega
def cpy (h h' : Hp) (a b : Nat) : Prop := ∀ k i : Nat, cpl k i → h'.1 (a + k) i = h.1 (b + k) i
theorem cpy_of {S1 S2 S3 : List (Nat × Option Nat)} {h h1 h2 h3 h4 h5 : Hp} {a b : Nat} {n m : Int32}
    (qL : h1.1 (a + 1) 0 = h.1 (b + 1) 0 ∧ h1.1 (a + 1) 1 = h.1 (b + 1) 1 ∧ h1.1 (a + 1) 2 = h.1 (b + 1) 2 ∧ h1.1 (a + 1) 3 = h.1 (b + 1) 3 ∧ rcp h h1 (a + 2) (b + 2) 16 ∧ rcp h h1 (a + 3) (b + 3) 16 ∧ rcp h h1 (a + 4) (b + 4) 16 ∧ rcp h h1 (a + 5) (b + 5) 16 ∧ rcp h h1 (a + 6) (b + 6) 16) (f2 : fr S2 h1 h2)
    (qG : h2.1 (a + 7) 4 = h1.1 (b + 7) 4 ∧ rcp h1 h2 (a + 8) (b + 8) 4 ∧ rcp h1 h2 (a + 9) (b + 9) 8 ∧ rcp h1 h2 (a + 10) (b + 10) 8 ∧ rcp h1 h2 (a + 11) (b + 11) 8) (f3 : fr S3 h2 h3)
    (qS : h3.1 (a + 12) 4 = h2.1 (b + 12) 4 ∧ rcp h2 h3 (a + 13) (b + 13) 8 ∧ rcp h2 h3 (a + 14) (b + 14) 8 ∧ rcp h2 h3 (a + 15) (b + 15) 8 ∧ rcp h2 h3 (a + 16) (b + 16) 8) (f1 : fr S1 h h1) (e1 : h4 = pI h3 a 3 n) (e2 : h5 = pI h4 a 4 m) (nK : h.1 b 3 = n) (mK : h.1 b 4 = m)
    (s1 : ckS S1 b (b + 16) = true) (s2 : ckS S2 b (b + 16) = true) (s3 : ckS S2 (a + 1) (a + 6) = true) (s4 : ckS S3 (a + 1) (a + 11) = true) : cpy h h5 a b := by
  have up : ∀ k i : Nat, 1 ≤ k → h5.1 (a + k) i = h3.1 (a + k) i := fun k i hk => by rw [e2, pI_at, if_neg (by omega), e1, pI_at, if_neg (by omega)]
  have u6 : ∀ k i : Nat, 1 ≤ k → k ≤ 6 → h5.1 (a + k) i = h1.1 (a + k) i := fun k i p q => by rw [up k i p, f3.1 _ _ (ckS_no s4 (by omega) (by omega)), f2.1 _ _ (ckS_no s3 (by omega) (by omega))]
  have u11 : ∀ k i : Nat, 7 ≤ k → k ≤ 11 → h5.1 (a + k) i = h2.1 (a + k) i := fun k i p q => by rw [up k i (by omega), f3.1 _ _ (ckS_no s4 (by omega) (by omega))]
  have d1 : ∀ k i : Nat, k ≤ 16 → h1.1 (b + k) i = h.1 (b + k) i := fun k i q => f1.1 _ _ (ckS_no s1 (by omega) (by omega))
  have d2 : ∀ k i : Nat, k ≤ 16 → h2.1 (b + k) i = h.1 (b + k) i := fun k i q => by rw [f2.1 _ _ (ckS_no s2 (by omega) (by omega)), d1 k i q]
  obtain ⟨l0, l1, l2, l3, l4, l5, l6, l7, l8⟩ := qL
  obtain ⟨g0, g1, g2, g3, g4⟩ := qG
  obtain ⟨t0, t1, t2, t3, t4⟩ := qS
  intro k i hc
  unfold cpl at hc
  rcases hc with ⟨rfl, hi⟩ | ⟨rfl, hi⟩ | ⟨hk, hi⟩ | ⟨hk, rfl⟩ | ⟨rfl, hi⟩ | ⟨hk, hi⟩
  · rcases hi with rfl | rfl
    · rw [Nat.add_zero, Nat.add_zero, e2, pI_at, if_neg (by omega), e1, pI_at, if_pos (by omega), nK]
    · rw [Nat.add_zero, Nat.add_zero, e2, pI_at, if_pos (by omega), mK]
  · rw [u6 1 i (by omega) (by omega)]
    rcases (by omega : i = 0 ∨ i = 1 ∨ i = 2 ∨ i = 3) with rfl | rfl | rfl | rfl
    · exact l0
    · exact l1
    · exact l2
    · exact l3
  · rw [u6 k i (by omega) (by omega)]
    rcases (by omega : k = 2 ∨ k = 3 ∨ k = 4 ∨ k = 5 ∨ k = 6) with rfl | rfl | rfl | rfl | rfl
    · exact l4 i hi
    · exact l5 i hi
    · exact l6 i hi
    · exact l7 i hi
    · exact l8 i hi
  · rcases hk with rfl | rfl
    · rw [u11 7 4 (by omega) (by omega), g0]; exact d1 7 4 (by omega)
    · rw [up 12 4 (by omega), t0]; exact d2 12 4 (by omega)
  · rw [u11 8 i (by omega) (by omega), g1 i hi]; exact d1 8 i (by omega)
  · rcases (by omega : k = 9 ∨ k = 10 ∨ k = 11 ∨ k = 13 ∨ k = 14 ∨ k = 15 ∨ k = 16) with rfl | rfl | rfl | rfl | rfl | rfl | rfl
    · rw [u11 9 i (by omega) (by omega), g2 i hi]; exact d1 9 i (by omega)
    · rw [u11 10 i (by omega) (by omega), g3 i hi]; exact d1 10 i (by omega)
    · rw [u11 11 i (by omega) (by omega), g4 i hi]; exact d1 11 i (by omega)
    · rw [up 13 i (by omega), t1 i hi]; exact d2 13 i (by omega)
    · rw [up 14 i (by omega), t2 i hi]; exact d2 14 i (by omega)
    · rw [up 15 i (by omega), t3 i hi]; exact d2 15 i (by omega)
    · rw [up 16 i (by omega), t4 i hi]; exact d2 16 i (by omega)
/-- the reference's copy: so many cells of it -/
def mcl (h h' : Hp) (t f k : Int) : Prop := (∀ j : Nat, (j : Int) < k → h'.1 117 (t.toNat + j) = h.1 117 (f.toNat + j)) ∧ ∀ i : Nat, (i < t.toNat ∨ t.toNat + 144 ≤ i) → h'.1 117 i = h.1 117 i
theorem mcl_0 {h : Hp} {t f : Int} : mcl h h t f 0 := ⟨fun j hj => by omega, fun _ _ => rfl⟩
theorem mcl_s {h h1 h2 : Hp} {t f k : Int} {y : Int32} (r : mcl h h1 t f k) (hk : 0 ≤ k ∧ k < 144) (ht : (t = 0 ∨ t = 144 ∨ t = 288) ∧ (f = 0 ∨ f = 144 ∨ f = 288)) (hne : t ≠ f) (e : h2 = pI h1 117 (t + k).toNat y) (ey : y = h1.1 117 (f + k).toNat) : mcl h h2 t f (k + 1) := by
  refine ⟨fun j hj => ?_, fun i hi => ?_⟩
  · rw [e, pI_at]
    by_cases q : j = k.toNat
    · rw [if_pos (by omega), ey, r.2 _ (by omega), show (f + k).toNat = f.toNat + j by omega]
    · rw [if_neg (by omega)]
      exact r.1 j (by omega)
  · rw [e, pI_at, if_neg (by omega)]
    exact r.2 i hi
theorem mcl_T {h h' : Hp} {t T T' n : Int} (e : T = T') (r : mcl h h' t T n) : mcl h h' t T' n := by rw [← e]; exact r
def FQ (b r : Int32) : Prop := b.toInt ≠ 0 ∧ r.toInt = 1 ∨ b.toInt = 0 ∧ r.toInt = 0
theorem FQ_of {h : Hp} {y R : Int32} {Y : Int} {k jj j : Nat} (ye : y = h.1 k jj) (hj : jj = j) (yE : y.toInt = Y) (p : Y ≠ 0 ∧ R.toInt = 1 ∨ Y = 0 ∧ R.toInt = 0) : FQ (h.1 k j) R := by
  subst hj
  unfold FQ
  rw [← ye, yE]
  exact p
theorem FQ_un {b r s : Int32} (p : FQ b r) (q : FQ b s) : r = s := by
  rcases p with ⟨a1, b1⟩ | ⟨a1, b1⟩ <;> rcases q with ⟨a2, b2⟩ | ⟨a2, b2⟩
  · exact same_of b1 b2
  · exact absurd a2 a1
  · exact absurd a1 a2
  · exact same_of b1 b2
/-- the class keeps an image: a its county, o the other's, j its number -/
def KP (h h' : Hp) (a o j : Nat) : Prop := cpy h h' a 0 ∧ (∀ k i : Nat, o ≤ k → k ≤ o + 16 → h'.1 k i = h.1 k i) ∧ h'.1 87 j = 1 ∧ ∀ i : Nat, i ≠ j → h'.1 87 i = h.1 87 i
theorem KP_of {S : List (Nat × Option Nat)} {h h1 h2 : Hp} {a o j jj : Nat} {x : Int32} (hc : cpy h h1 a 0) (f : fr S h h1) (ck : ckS S o (o + 16) = true) (c87 : ckS S 87 87 = true) (ha : a + 16 < 87 ∧ o + 16 < 87) (e : h2 = pI h1 87 jj x) (hx : x = 1) (hj : jj = j) : KP h h2 a o j := by
  subst hj
  refine ⟨fun k i hk => ?_, fun k i h1 h2 => ?_, ?_, fun i hi => ?_⟩
  · have := cpl_k hk
    rw [e, pI_at, if_neg (by omega)]
    exact hc k i hk
  · rw [e, pI_at, if_neg (by omega)]
    exact f.1 _ _ (ckS_no ck h1 h2)
  · rw [e, pI_at, if_pos ⟨rfl, rfl⟩]
    exact hx
  · rw [e, pI_at, if_neg (by omega)]
    exact f.1 _ _ (ckS_no c87 (by omega) (by omega))
def MKP (h h' : Hp) (t j : Nat) : Prop := (∀ i : Nat, i < 144 → h'.1 117 (t + i) = h.1 117 (0 + i)) ∧ (∀ i : Nat, (i < t ∨ t + 144 ≤ i) → h'.1 117 i = h.1 117 i) ∧ h'.1 118 j = 1 ∧ ∀ i : Nat, i ≠ j → h'.1 118 i = h.1 118 i
theorem MKP_of {S : List (Nat × Option Nat)} {h h1 h2 : Hp} {t j jj : Nat} {x : Int32} {T : Int} (e : h1 = pI h 118 jj x) (hx : x = 1) (hj : jj = j) (m : mcl h1 h2 T 0 144) (hT : T = (t : Int)) (f : fr S h1 h2) (ck : ckS S 118 118 = true) : MKP h h2 t j := by
  subst hj
  subst hT
  refine ⟨fun i hi => ?_, fun i hi => ?_, ?_, fun i hi => ?_⟩
  · have g := m.1 i (by omega)
    rw [show ((t : Int)).toNat = t from rfl, show ((0 : Int)).toNat = 0 from rfl] at g
    rw [g, e, pI_at, if_neg (by omega)]
  · rw [m.2 i (by omega), e, pI_at, if_neg (by omega)]
  · rw [f.1 _ _ (ckS_no ck (by omega) (by omega)), e, pI_at, if_pos ⟨rfl, rfl⟩]
    exact hx
  · rw [f.1 _ _ (ckS_no ck (by omega) (by omega)), e, pI_at, if_neg (by omega)]
theorem JA_keep0 {S1 S2 : List (Nat × Option Nat)} {h h1 h2 : Hp} (r : JA h) (f1 : fr S1 h h1) (f2 : fr S2 h1 h2) (k1 : KP h h1 34 51 0) (k2 : MKP h1 h2 144 0) (s1 : ckS S1 0 16 = true) (s2 : ckS S1 116 118 = true) (s3 : ckS S2 0 116 = true) : JA h2 := by
  obtain ⟨r1, ⟨r2, r3⟩, r4, r5⟩ := r
  obtain ⟨a1, a2, a3, a4⟩ := k1
  obtain ⟨b1, b2, b3, b4⟩ := k2
  have c0 : ∀ k i : Nat, k ≤ 16 → h2.1 k i = h.1 k i := fun k i hk => by rw [f2.1 _ _ (ckS_no s3 (by omega) (by omega)), f1.1 _ _ (ckS_no s1 (by omega) hk)]
  have c6 : ∀ k i : Nat, k ≤ 116 → h2.1 k i = h1.1 k i := fun k i hk => f2.1 _ _ (ckS_no s3 (by omega) hk)
  have m1 : ∀ k i : Nat, 116 ≤ k → k ≤ 118 → h1.1 k i = h.1 k i := fun k i p q => f1.1 _ _ (ckS_no s2 p q)
  have w : ∀ i : Nat, 2 ≤ i → i ≤ 5 → h2.1 116 i = h.1 116 i := fun i _ _ => by rw [c6 _ _ (by omega), m1 _ _ (by omega) (by omega)]
  refine ⟨CE_at (fun k i c _ => by have := cpl_k c; rw [Nat.zero_add]; exact c0 k i this) (fun i _ hi => by rw [Nat.zero_add, b2 _ (by omega), m1 _ _ (by omega) (by omega)]) w r1, ⟨?_, ?_⟩, fun _ => ?_, fun q => ?_⟩
  · rw [c6 _ _ (by omega), a3, b3]
  · rw [c6 _ _ (by omega), a4 1 (by omega), b4 1 (by omega), m1 _ _ (by omega) (by omega)]; exact r3
  · exact CE_cp (fun k i c => by have := cpl_k c; rw [c6 _ _ (by omega)]; exact a1 k i c) (fun i hi => by rw [b1 i hi, m1 _ _ (by omega) (by omega)]) w r1
  · rw [c6 _ _ (by omega), a4 1 (by omega)] at q
    exact CE_at (fun k i c _ => by have := cpl_k c; rw [c6 _ _ (by omega)]; exact a2 _ i (by omega) (by omega)) (fun i _ hi => by rw [b2 _ (by omega), m1 _ _ (by omega) (by omega)]) w (r5 q)
theorem JA_keep1 {S1 S2 : List (Nat × Option Nat)} {h h1 h2 : Hp} (r : JA h) (f1 : fr S1 h h1) (f2 : fr S2 h1 h2) (k1 : KP h h1 51 34 1) (k2 : MKP h1 h2 288 1) (s1 : ckS S1 0 16 = true) (s2 : ckS S1 116 118 = true) (s3 : ckS S2 0 116 = true) : JA h2 := by
  obtain ⟨r1, ⟨r2, r3⟩, r4, r5⟩ := r
  obtain ⟨a1, a2, a3, a4⟩ := k1
  obtain ⟨b1, b2, b3, b4⟩ := k2
  have c0 : ∀ k i : Nat, k ≤ 16 → h2.1 k i = h.1 k i := fun k i hk => by rw [f2.1 _ _ (ckS_no s3 (by omega) (by omega)), f1.1 _ _ (ckS_no s1 (by omega) hk)]
  have c6 : ∀ k i : Nat, k ≤ 116 → h2.1 k i = h1.1 k i := fun k i hk => f2.1 _ _ (ckS_no s3 (by omega) hk)
  have m1 : ∀ k i : Nat, 116 ≤ k → k ≤ 118 → h1.1 k i = h.1 k i := fun k i p q => f1.1 _ _ (ckS_no s2 p q)
  have w : ∀ i : Nat, 2 ≤ i → i ≤ 5 → h2.1 116 i = h.1 116 i := fun i _ _ => by rw [c6 _ _ (by omega), m1 _ _ (by omega) (by omega)]
  refine ⟨CE_at (fun k i c _ => by have := cpl_k c; rw [Nat.zero_add]; exact c0 k i this) (fun i _ hi => by rw [Nat.zero_add, b2 _ (by omega), m1 _ _ (by omega) (by omega)]) w r1, ⟨?_, ?_⟩, fun q => ?_, fun _ => ?_⟩
  · rw [c6 _ _ (by omega), a4 0 (by omega), b4 0 (by omega), m1 _ _ (by omega) (by omega)]; exact r2
  · rw [c6 _ _ (by omega), a3, b3]
  · rw [c6 _ _ (by omega), a4 0 (by omega)] at q
    exact CE_at (fun k i c _ => by have := cpl_k c; rw [c6 _ _ (by omega)]; exact a2 _ i (by omega) (by omega)) (fun i _ hi => by rw [b2 _ (by omega), m1 _ _ (by omega) (by omega)]) w (r4 q)
  · exact CE_cp (fun k i c => by have := cpl_k c; rw [c6 _ _ (by omega)]; exact a1 k i c) (fun i hi => by rw [b1 i hi, m1 _ _ (by omega) (by omega)]) w r1
theorem JA_keep {S1 S2 : List (Nat × Option Nat)} {h h1 h2 : Hp} {k : Int} {r1 r2 : Int32} (r : JA h) (f1 : fr S1 h h1) (f2 : fr S2 h1 h2) (s1 : ckS S1 0 16 = true) (s2 : ckS S1 116 118 = true) (s3 : ckS S2 0 116 = true)
    (E1 : k = 0 ∧ KP h h1 34 51 0 ∧ FQ (h.1 87 0) r1 ∨ k = 1 ∧ KP h h1 51 34 1 ∧ FQ (h.1 87 1) r1 ∨ (k < 0 ∨ 1 < k) ∧ h1 = h ∧ r1.toInt = -1) (E2 : k = 0 ∧ MKP h1 h2 144 0 ∧ FQ (h1.1 118 0) r2 ∨ k = 1 ∧ MKP h1 h2 288 1 ∧ FQ (h1.1 118 1) r2 ∨ (k < 0 ∨ 1 < k) ∧ h2 = h1 ∧ r2.toInt = -1) : JA h2 ∧ r1 = r2 := by
  have m1 : ∀ i : Nat, h1.1 118 i = h.1 118 i := fun i => f1.1 _ _ (ckS_no s2 (by omega) (by omega))
  rcases E1 with ⟨p1, p2, p3⟩ | ⟨p1, p2, p3⟩ | ⟨p1, p2, p3⟩
  · rcases E2 with ⟨q1, q2, q3⟩ | ⟨q1, q2, q3⟩ | ⟨q1, q2, q3⟩
    · rw [m1, ← r.2.1.1] at q3
      exact ⟨JA_keep0 r f1 f2 p2 q2 s1 s2 s3, FQ_un p3 q3⟩
    · omega
    · omega
  · rcases E2 with ⟨q1, q2, q3⟩ | ⟨q1, q2, q3⟩ | ⟨q1, q2, q3⟩
    · omega
    · rw [m1, ← r.2.1.2] at q3
      exact ⟨JA_keep1 r f1 f2 p2 q2 s1 s2 s3, FQ_un p3 q3⟩
    · omega
  · rcases E2 with ⟨q1, q2, q3⟩ | ⟨q1, q2, q3⟩ | ⟨q1, q2, q3⟩
    · omega
    · omega
    · rw [p2] at q2
      rw [q2]
      exact ⟨r, same_of p3 q3⟩
theorem JA_back1 {S1 S2 : List (Nat × Option Nat)} {h h1 h2 : Hp} {a o : Nat} {T : Int} (r : JA h) (c : CE h a o) (f1 : fr S1 h h1) (f2 : fr S2 h1 h2) (k1 : cpy h h1 0 a) (k2 : mcl h1 h2 0 T 144) (hT : T = (o : Int)) (s1 : ckS S1 34 67 = true) (s2 : ckS S1 87 118 = true) (s3 : ckS S2 0 116 = true) (s4 : ckS S2 118 118 = true) : JA h2 := by
  subst hT
  have m1 : ∀ k i : Nat, 87 ≤ k → k ≤ 118 → h1.1 k i = h.1 k i := fun k i p q => f1.1 _ _ (ckS_no s2 p q)
  have c6 : ∀ k i : Nat, k ≤ 116 → h2.1 k i = h1.1 k i := fun k i hk => f2.1 _ _ (ckS_no s3 (by omega) hk)
  have i1 : ∀ k i : Nat, 34 ≤ k → k ≤ 67 → h1.1 k i = h.1 k i := fun k i p q => f1.1 _ _ (ckS_no s1 p q)
  refine JA_rest r (CE_cp (k2 := a) (o2 := o) (fun k i c => by have := cpl_k c; rw [c6 _ _ (by omega)]; exact k1 k i c) (fun i hi => ?_) (fun i _ _ => by rw [c6 _ _ (by omega), m1 _ _ (by omega) (by omega)]) c) (fun k i w => ?_)
  · have g := k2.1 i (by omega)
    rw [show ((o : Int)).toNat = o from rfl, show ((0 : Int)).toNat = 0 from rfl] at g
    rw [g, m1 _ _ (by omega) (by omega)]
  · rcases w with w | rfl | rfl | ⟨rfl, w⟩ | ⟨rfl, w⟩
    · rw [c6 _ _ (by omega), i1 _ _ (by omega) (by omega)]
    · rw [c6 _ _ (by omega), m1 _ _ (by omega) (by omega)]
    · rw [f2.1 _ _ (ckS_no s4 (by omega) (by omega)), m1 _ _ (by omega) (by omega)]
    · rw [k2.2 _ (by rw [show ((0 : Int)).toNat = 0 from rfl]; omega), m1 _ _ (by omega) (by omega)]
    · rw [c6 _ _ (by omega), m1 _ _ (by omega) (by omega)]
theorem toInt_ne {x : Int32} (h : x.toInt ≠ 0) : x ≠ 0 := fun c => h (by rw [c]; rfl)
theorem JA_back {S1 S2 : List (Nat × Option Nat)} {h h1 h2 : Hp} {k : Int} (r : JA h) (f1 : fr S1 h h1) (f2 : fr S2 h1 h2) (s1 : ckS S1 34 67 = true) (s2 : ckS S1 87 118 = true) (s3 : ckS S2 0 116 = true) (s4 : ckS S2 118 118 = true)
    (E1 : k = 0 ∧ (h.1 87 0).toInt ≠ 0 ∧ cpy h h1 0 34 ∨ k = 1 ∧ (h.1 87 1).toInt ≠ 0 ∧ cpy h h1 0 51 ∨ (k = 0 ∧ (h.1 87 0).toInt = 0 ∨ k = 1 ∧ (h.1 87 1).toInt = 0 ∨ k < 0 ∨ 1 < k) ∧ h1 = h)
    (E2 : k = 0 ∧ (h1.1 118 0).toInt ≠ 0 ∧ mcl h1 h2 0 144 144 ∨ k = 1 ∧ (h1.1 118 1).toInt ≠ 0 ∧ mcl h1 h2 0 288 144 ∨ (k = 0 ∧ (h1.1 118 0).toInt = 0 ∨ k = 1 ∧ (h1.1 118 1).toInt = 0 ∨ k < 0 ∨ 1 < k) ∧ h2 = h1) : JA h2 := by
  have m1 : ∀ i : Nat, h1.1 118 i = h.1 118 i := fun i => f1.1 _ _ (ckS_no s2 (by omega) (by omega))
  rw [m1, m1, ← r.2.1.1, ← r.2.1.2] at E2
  rcases E1 with ⟨p1, p2, p3⟩ | ⟨p1, p2, p3⟩ | ⟨p1, p2⟩
  · rcases E2 with ⟨q1, q2, q3⟩ | ⟨q1, q2, q3⟩ | ⟨q1, q2⟩
    · exact JA_back1 r (r.2.2.1 (toInt_ne p2)) f1 f2 p3 q3 rfl s1 s2 s3 s4
    · omega
    · omega
  · rcases E2 with ⟨q1, q2, q3⟩ | ⟨q1, q2, q3⟩ | ⟨q1, q2⟩
    · omega
    · exact JA_back1 r (r.2.2.2 (toInt_ne p2)) f1 f2 p3 q3 rfl s1 s2 s3 s4
    · omega
  · rcases E2 with ⟨q1, q2, q3⟩ | ⟨q1, q2, q3⟩ | ⟨q1, q2⟩
    · omega
    · omega
    · rw [q2, p2]; exact r
def sp2 (h h' : Hp) : Prop := ∀ k i : Nat, cpl k i → k ≠ 2 ∧ k ≠ 6 ∧ k ≠ 8 → h'.1 k i = h.1 k i ∧ h'.1 (17 + k) i = h.1 k i
def spS (S : List (Nat × Option Nat)) : Bool := S.all (fun q => decide (q.1 = 6 ∨ q.1 = 8 ∨ 33 < q.1))
theorem spS_no {S : List (Nat × Option Nat)} (hc : spS S = true) {k i : Nat} (h1 : k ≠ 6 ∧ k ≠ 8 ∧ k ≤ 33) : inS S k i = false := by
  unfold inS
  rw [List.any_eq_false]
  intro q hq e
  have := of_decide_eq_true (List.all_eq_true.mp hc q hq)
  rw [Bool.and_eq_true] at e
  have e2 : q.1 = k := eq_of_beq e.1
  omega
theorem sp2_of {S : List (Nat × Option Nat)} {h h1 : Hp} (c : cpy h h1 17 0) (f : fr S h h1) (ck : ckS S 0 16 = true) : sp2 h h1 := fun k i hk _ => by
  have := cpl_k hk
  refine ⟨f.1 _ _ (ckS_no ck (by omega) this), ?_⟩
  have g := c k i hk
  rw [Nat.zero_add] at g
  exact g
theorem sp2_fr {S : List (Nat × Option Nat)} {h h1 h2 : Hp} (r : sp2 h h1) (f : fr S h1 h2) (ck : spS S = true) : sp2 h h2 := fun k i hk hn => by
  have := cpl_k hk
  rw [f.1 k i (spS_no ck (by omega)), f.1 (17 + k) i (spS_no ck (by omega))]
  exact r k i hk hn
theorem sp2_put {h h1 h2 : Hp} {k' i' : Nat} {x : Int32} (r : sp2 h h1) (e : h2 = pI h1 k' i' x) (ck : 33 < k') : sp2 h h2 := fun k i hk hn => by
  have := cpl_k hk
  rw [e, pI_at, if_neg (by omega), pI_at, if_neg (by omega)]
  exact r k i hk hn
theorem sp2_c {h h1 : Hp} (r : sp2 h h1) : cA h h1 := fun k i hk hn => (r k i hk hn).1
theorem sp2_back {h h1 h2 : Hp} (r : sp2 h h1) (c : cpy h1 h2 0 17) : cA h h2 := fun k i hk hn => by
  have g := c k i hk
  rw [Nat.zero_add] at g
  rw [g]
  exact (r k i hk hn).2
end
section
abbrev q_Land_hasX_0 (h : Hp) (c : Int32) (cZ : Int) (w : Int32) (wZ : Int) (g : Int32) (gZ : Int) : Option Value → Hp → Prop := pInt (fun r h' => h = h' ∧ (r.toInt = 1 ∧ 0 ≤ cZ ∧ cZ ≤ 15 ∧ cZ < wZ * gZ ∨ r.toInt = 0 ∧ (cZ < 0 ∨ wZ * gZ ≤ cZ)))
set_option maxRecDepth 100000 in
theorem c_Land_hasX_0 (h : Hp) (hI : Inv h) (c : Int32) (cZ : Int) (cE : c.toInt = cZ) (w : Int32) (wZ : Int) (wE : w.toInt = wZ) (wK : h.1 1 0 = w) (g : Int32) (gZ : Int) (gE : g.toInt = gZ) (gK : h.1 1 1 = g) : Ct y_Land_has b_Land_has 2 (some .boolean) 1 20 [.ref 1, .int c] h (q_Land_hasX_0 h c cZ w wZ g gZ) := by
  refine ct_ow R_Land [some (.ref 1), some (.int c)] rfl (by decide) rfl (Nat.le_of_ble_eq_true rfl) ?_
  have f0 : fr [] h h := fr_rf
  have g1 : 2 ≤ wZ ∧ wZ ≤ 4 := inv_at hI wE wK.symm rfl
  have g2 : 2 ≤ gZ ∧ gZ ≤ 4 := inv_at hI gE gK.symm rfl
  refine V_iload_n 1 d_Land_has_0 rfl rfl ?_
  refine V_if_lt 16 cE d_Land_has_1 (by decide) (fun c3 => ?_) (fun c3 => ?_)
  ·
    refine V_iconst 0 d_Land_has_16 (by decide) ?_
    exact V_zret rfl (by decide) d_Land_has_17 ⟨0, rfl, ⟨rfl, (by (try rw [show Int32.toInt 0 = 0 from rfl]) <;> omega)⟩⟩
  ·
    refine V_iload_n 1 d_Land_has_4 rfl rfl ?_
    refine V_aload_n 0 d_Land_has_5 rfl rfl ?_
    refine N_callVI [] [.int c] cv_Land_52 sk_1 rfl d_Land_has_6 rfl (Nat.le_of_ble_eq_true rfl) (by decide) (by decide) (c_Land_cells_0 h hI w wZ wE wK g gZ gE gK) (fun z4 h5 z4Z z4E p6 => ?_)
    obtain ⟨eh5, p6⟩ := p6
    subst eh5
    refine V_icmp_ge 16 cE z4E d_Land_has_9 (by decide) (fun c7 => ?_) (fun c7 => ?_)
    ·
      refine V_iconst 0 d_Land_has_16 (by decide) ?_
      exact V_zret rfl (by decide) d_Land_has_17 ⟨0, rfl, ⟨rfl, (by (try rw [show Int32.toInt 0 = 0 from rfl]) <;> omega)⟩⟩
    ·
      refine V_iconst 1 d_Land_has_12 (by decide) ?_
      refine V_goto 17 d_Land_has_13 (by decide) ?_
      exact V_zret rfl (by decide) d_Land_has_17 ⟨1, rfl, ⟨rfl, (by (try rw [show Int32.toInt 1 = 1 from rfl]) <;> omega)⟩⟩
abbrev q_Mod_isCellX (h : Hp) (c : Int32) (cZ : Int) (w : Int32) (wZ : Int) (g : Int32) (gZ : Int) : Option Value → Hp → Prop := pInt (fun r h' => h = h' ∧ (r.toInt = 1 ∧ 0 ≤ cZ ∧ cZ ≤ 15 ∧ cZ < wZ * gZ ∨ r.toInt = 0 ∧ (cZ < 0 ∨ wZ * gZ ≤ cZ)))
set_option maxRecDepth 100000 in
theorem c_Mod_isCellX (h : Hp) (hI : Inv h) (c : Int32) (cZ : Int) (cE : c.toInt = cZ) (w : Int32) (wZ : Int) (wE : w.toInt = wZ) (wK : h.1 116 2 = w) (g : Int32) (gZ : Int) (gE : g.toInt = gZ) (gK : h.1 116 3 = g) : Ct y_Mod_isCell b_Mod_isCell 2 (some .boolean) 1 25 [.ref 116, .int c] h (q_Mod_isCellX h c cZ w wZ g gZ) := by
  refine ct_ow R_Mod [some (.ref 116), some (.int c)] rfl (by decide) rfl (Nat.le_of_ble_eq_true rfl) ?_
  have f0 : fr [] h h := fr_rf
  have g1 : 2 ≤ wZ ∧ wZ ≤ 4 := inv_at hI wE wK.symm rfl
  have g2 : 2 ≤ gZ ∧ gZ ≤ 4 := inv_at hI gE gK.symm rfl
  refine V_iload_n 1 d_Mod_isCell_0 rfl rfl ?_
  refine V_i2l d_Mod_isCell_1 (fun z3 z3e z3E => ?_)
  have z3F : z3.toInt = cZ := z3E.trans cE
  refine V_lconst 0 d_Mod_isCell_2 (by decide) ?_
  refine V_aload_n 0 d_Mod_isCell_3 rfl rfl ?_
  refine N_callVI [] [.long 0, .long z3] cv_Mod_183 sk_116 rfl d_Mod_isCell_4 rfl (Nat.le_of_ble_eq_true rfl) (by decide) (by decide) (c_Mod_cellMany h hI w wZ wE wK g gZ gE gK) (fun z4 h5 z4Z z4E p6 => ?_)
  obtain ⟨eh5, p6⟩ := p6
  subst eh5
  refine V_iconst 1 d_Mod_isCell_7 (by decide) ?_
  refine V_isub z4E tc_1 (by omega) d_Mod_isCell_8 (fun z7 z7e z7E => ?_)
  refine V_i2l d_Mod_isCell_9 (fun z8 z8e z8E => ?_)
  have z8F : z8.toInt = (z4Z - 1) := z8E.trans z7E
  refine N_callSI [.long z3, .long 0, .long z8] [] cs_Mod_95 d_Mod_isCell_10 rfl (Nat.le_of_ble_eq_true rfl) (by decide) (by decide) (c_Mod_in h z3 cZ z3F 0 0 tl_0 z8 ((z4Z - 1)) z8F) (fun z9 h10 z9Z z9E p11 => ?_)
  obtain ⟨eh10, p11⟩ := p11
  subst eh10
  exact V_zret rfl (by rw [z9E]; omega) d_Mod_isCell_13 ⟨z9, rfl, ⟨rfl, (by (try rw [z9E]); omega)⟩⟩
abbrev q_Rod_isSightX (h : Hp) (c : Int32) (cZ : Int) (o : Int32) (oZ : Int) (s : Int32) (sZ : Int) (w : Int32) (wZ : Int) (g : Int32) (gZ : Int) : Option Value → Hp → Prop := pInt (fun r h' => h = h' ∧ (r.toInt = 1 ∧ 0 ≤ cZ ∧ cZ ≤ 15 ∧ cZ < wZ * gZ ∧ 0 ≤ oZ ∧ oZ ≤ 3 ∧ 1 ≤ sZ ∧ sZ ≤ 9 ∨ r.toInt = 0 ∧ ¬ (0 ≤ cZ ∧ cZ < wZ * gZ ∧ 0 ≤ oZ ∧ oZ ≤ 3 ∧ 1 ≤ sZ ∧ sZ ≤ 9)))
set_option maxRecDepth 100000 in
theorem c_Rod_isSightX (h : Hp) (hI : Inv h) (c : Int32) (cZ : Int) (cE : c.toInt = cZ) (o : Int32) (oZ : Int) (oE : o.toInt = oZ) (s : Int32) (sZ : Int) (sE : s.toInt = sZ) (w : Int32) (wZ : Int) (wE : w.toInt = wZ) (wK : h.1 1 0 = w) (g : Int32) (gZ : Int) (gE : g.toInt = gZ) (gK : h.1 1 1 = g) : Ct y_Rod_isSight b_Rod_isSight 4 (some .boolean) 2 41 [.ref 85, .int c, .int o, .int s] h (q_Rod_isSightX h c cZ o oZ s sZ w wZ g gZ) := by
  refine ct_ow R_Rod [some (.ref 85), some (.int c), some (.int o), some (.int s)] rfl (by decide) rfl (Nat.le_of_ble_eq_true rfl) ?_
  have f0 : fr [] h h := fr_rf
  have g1 : 2 ≤ wZ ∧ wZ ≤ 4 := inv_at hI wE wK.symm rfl
  have g2 : 2 ≤ gZ ∧ gZ ≤ 4 := inv_at hI gE gK.symm rfl
  refine V_aload_n 0 d_Rod_isSight_0 rfl rfl ?_
  refine V_getR fa_Rod_12 sk_85 rfl d_Rod_isSight_1 ?_
  refine V_getR fa_Rod_91 sk_0 rfl d_Rod_isSight_4 ?_
  refine V_iload_n 1 d_Rod_isSight_7 rfl rfl ?_
  refine N_callVI [.int c] [] cv_Rod_124 sk_1 rfl d_Rod_isSight_8 rfl (Nat.le_of_ble_eq_true rfl) (by decide) (by decide) (c_Land_hasX_0 h hI c cZ cE w wZ wE wK g gZ gE gK) (fun z3 h4 z3Z z3E p5 => ?_)
  obtain ⟨eh4, p5⟩ := p5
  subst eh4
  refine V_if_eq 36 z3E d_Rod_isSight_11 (by decide) (fun c6 => ?_) (fun c6 => ?_)
  ·
    refine V_iconst 0 d_Rod_isSight_36 (by decide) ?_
    exact V_zret rfl (by decide) d_Rod_isSight_37 ⟨0, rfl, ⟨rfl, (by (try rw [show Int32.toInt 0 = 0 from rfl]) <;> omega)⟩⟩
  ·
    refine V_iload_n 2 d_Rod_isSight_14 rfl rfl ?_
    refine N_callSI [.int o] [] cs_Rod_151 d_Rod_isSight_15 rfl (Nat.le_of_ble_eq_true rfl) (by decide) (by decide) (c_Rod_isOwner h o oZ oE) (fun z7 h8 z7Z z7E p9 => ?_)
    obtain ⟨eh8, p9⟩ := p9
    subst eh8
    refine V_if_eq 36 z7E d_Rod_isSight_18 (by decide) (fun c10 => ?_) (fun c10 => ?_)
    ·
      refine V_iconst 0 d_Rod_isSight_36 (by decide) ?_
      exact V_zret rfl (by decide) d_Rod_isSight_37 ⟨0, rfl, ⟨rfl, (by (try rw [show Int32.toInt 0 = 0 from rfl]) <;> omega)⟩⟩
    ·
      refine V_iload_n 3 d_Rod_isSight_21 rfl rfl ?_
      refine V_iconst 1 d_Rod_isSight_22 (by decide) ?_
      refine V_icmp_lt 36 sE tc_1 d_Rod_isSight_23 (by decide) (fun c11 => ?_) (fun c11 => ?_)
      ·
        refine V_iconst 0 d_Rod_isSight_36 (by decide) ?_
        exact V_zret rfl (by decide) d_Rod_isSight_37 ⟨0, rfl, ⟨rfl, (by (try rw [show Int32.toInt 0 = 0 from rfl]) <;> omega)⟩⟩
      ·
        refine V_iload_n 3 d_Rod_isSight_26 rfl rfl ?_
        refine V_bipush 9 d_Rod_isSight_27 (by decide) ?_
        refine V_icmp_gt 36 sE tc_9 d_Rod_isSight_29 (by decide) (fun c12 => ?_) (fun c12 => ?_)
        ·
          refine V_iconst 0 d_Rod_isSight_36 (by decide) ?_
          exact V_zret rfl (by decide) d_Rod_isSight_37 ⟨0, rfl, ⟨rfl, (by (try rw [show Int32.toInt 0 = 0 from rfl]) <;> omega)⟩⟩
        ·
          refine V_iconst 1 d_Rod_isSight_32 (by decide) ?_
          refine V_goto 37 d_Rod_isSight_33 (by decide) ?_
          exact V_zret rfl (by decide) d_Rod_isSight_37 ⟨1, rfl, ⟨rfl, (by (try rw [show Int32.toInt 1 = 1 from rfl]) <;> omega)⟩⟩
abbrev q_Mod_isSeenX (h : Hp) (c : Int32) (cZ : Int) (o : Int32) (oZ : Int) (s : Int32) (sZ : Int) (w : Int32) (wZ : Int) (g : Int32) (gZ : Int) : Option Value → Hp → Prop := pInt (fun r h' => h = h' ∧ (r.toInt = 1 ∧ 0 ≤ cZ ∧ cZ ≤ 15 ∧ cZ < wZ * gZ ∧ 0 ≤ oZ ∧ oZ ≤ 3 ∧ 1 ≤ sZ ∧ sZ ≤ 9 ∨ r.toInt = 0 ∧ ¬ (0 ≤ cZ ∧ cZ < wZ * gZ ∧ 0 ≤ oZ ∧ oZ ≤ 3 ∧ 1 ≤ sZ ∧ sZ ≤ 9)))
set_option maxRecDepth 100000 in
theorem c_Mod_isSeenX (h : Hp) (hI : Inv h) (c : Int32) (cZ : Int) (cE : c.toInt = cZ) (o : Int32) (oZ : Int) (oE : o.toInt = oZ) (s : Int32) (sZ : Int) (sE : s.toInt = sZ) (w : Int32) (wZ : Int) (wE : w.toInt = wZ) (wK : h.1 116 2 = w) (g : Int32) (gZ : Int) (gE : g.toInt = gZ) (gK : h.1 116 3 = g) : Ct y_Mod_isSeen b_Mod_isSeen 4 (some .boolean) 2 46 [.ref 116, .int c, .int o, .int s] h (q_Mod_isSeenX h c cZ o oZ s sZ w wZ g gZ) := by
  refine ct_ow R_Mod [some (.ref 116), some (.int c), some (.int o), some (.int s)] rfl (by decide) rfl (Nat.le_of_ble_eq_true rfl) ?_
  have f0 : fr [] h h := fr_rf
  have g1 : 2 ≤ wZ ∧ wZ ≤ 4 := inv_at hI wE wK.symm rfl
  have g2 : 2 ≤ gZ ∧ gZ ≤ 4 := inv_at hI gE gK.symm rfl
  refine V_aload_n 0 d_Mod_isSeen_0 rfl rfl ?_
  refine V_iload_n 1 d_Mod_isSeen_1 rfl rfl ?_
  refine N_callVI [.int c] [] cv_Mod_200 sk_116 rfl d_Mod_isSeen_2 rfl (Nat.le_of_ble_eq_true rfl) (by decide) (by decide) (c_Mod_isCellX h hI c cZ cE w wZ wE wK g gZ gE gK) (fun z3 h4 z3Z z3E p5 => ?_)
  obtain ⟨eh4, p5⟩ := p5
  subst eh4
  refine V_if_eq 31 z3E d_Mod_isSeen_5 (by decide) (fun c6 => ?_) (fun c6 => ?_)
  ·
    refine V_iconst 0 d_Mod_isSeen_31 (by decide) ?_
    exact V_zret rfl (by decide) d_Mod_isSeen_32 ⟨0, rfl, ⟨rfl, (by (try rw [show Int32.toInt 0 = 0 from rfl]) <;> omega)⟩⟩
  ·
    refine V_iload_n 2 d_Mod_isSeen_8 rfl rfl ?_
    refine N_callSI [.int o] [] cs_Mod_205 d_Mod_isSeen_9 rfl (Nat.le_of_ble_eq_true rfl) (by decide) (by decide) (c_Mod_isOwner h o oZ oE) (fun z7 h8 z7Z z7E p9 => ?_)
    obtain ⟨eh8, p9⟩ := p9
    subst eh8
    refine V_if_eq 31 z7E d_Mod_isSeen_12 (by decide) (fun c10 => ?_) (fun c10 => ?_)
    ·
      refine V_iconst 0 d_Mod_isSeen_31 (by decide) ?_
      exact V_zret rfl (by decide) d_Mod_isSeen_32 ⟨0, rfl, ⟨rfl, (by (try rw [show Int32.toInt 0 = 0 from rfl]) <;> omega)⟩⟩
    ·
      refine V_iload_n 3 d_Mod_isSeen_15 rfl rfl ?_
      refine V_i2l d_Mod_isSeen_16 (fun z11 z11e z11E => ?_)
      have z11F : z11.toInt = sZ := z11E.trans sE
      refine V_lconst 1 d_Mod_isSeen_17 (by decide) ?_
      refine V_ldc2 d_Mod_isSeen_18 wl_Mod_208 ?_
      refine N_callSI [.long z11, .long 1, .long 9] [] cs_Mod_95 d_Mod_isSeen_21 rfl (Nat.le_of_ble_eq_true rfl) (by decide) (by decide) (c_Mod_in h z11 sZ z11F 1 1 tl_1 9 9 tl_9) (fun z12 h13 z12Z z12E p14 => ?_)
      obtain ⟨eh13, p14⟩ := p14
      subst eh13
      refine V_if_eq 31 z12E d_Mod_isSeen_24 (by decide) (fun c15 => ?_) (fun c15 => ?_)
      ·
        refine V_iconst 0 d_Mod_isSeen_31 (by decide) ?_
        exact V_zret rfl (by decide) d_Mod_isSeen_32 ⟨0, rfl, ⟨rfl, (by (try rw [show Int32.toInt 0 = 0 from rfl]) <;> omega)⟩⟩
      ·
        refine V_iconst 1 d_Mod_isSeen_27 (by decide) ?_
        refine V_goto 32 d_Mod_isSeen_28 (by decide) ?_
        exact V_zret rfl (by decide) d_Mod_isSeen_32 ⟨1, rfl, ⟨rfl, (by (try rw [show Int32.toInt 1 = 1 from rfl]) <;> omega)⟩⟩
def S_Rod_ironX : List (Nat × Option Nat) := [(3, none)]
abbrev q_Rod_ironX (h : Hp) (c : Int32) (cZ : Int) (b : Int32) (bZ : Int) (w : Int32) (wZ : Int) (g : Int32) (gZ : Int) : Option Value → Hp → Prop := pInt (fun r h' => Inv h' ∧ fr S_Rod_ironX h h' ∧ (Er h h' 3 cZ.toNat (0 ≤ cZ ∧ cZ < wZ * gZ) (fun x => bZ ≠ 0 ∧ x.toInt = 1 ∨ bZ = 0 ∧ x.toInt = 0) r))
set_option maxRecDepth 100000 in
theorem c_Rod_ironX (h : Hp) (hI : Inv h) (c : Int32) (cZ : Int) (cE : c.toInt = cZ) (b : Int32) (bZ : Int) (bE : b.toInt = bZ) (w : Int32) (wZ : Int) (wE : w.toInt = wZ) (wK : h.1 1 0 = w) (g : Int32) (gZ : Int) (gE : g.toInt = gZ) (gK : h.1 1 1 = g) : Ct y_Rod_iron b_Rod_iron 5 (some .int) 2 41 [.ref 85, .int c, .int b] h (q_Rod_ironX h c cZ b bZ w wZ g gZ) := by
  refine ct_ow R_Rod [some (.ref 85), some (.int c), some (.int b), none, none] rfl (by decide) rfl (Nat.le_of_ble_eq_true rfl) ?_
  have f0 : fr S_Rod_ironX h h := fr_rf
  have g1 : 2 ≤ wZ ∧ wZ ≤ 4 := inv_at hI wE wK.symm rfl
  have g2 : 2 ≤ gZ ∧ gZ ≤ 4 := inv_at hI gE gK.symm rfl
  refine V_aload_n 0 d_Rod_iron_0 rfl rfl ?_
  refine V_getR fa_Rod_12 sk_85 rfl d_Rod_iron_1 ?_
  refine V_getR fa_Rod_91 sk_0 rfl d_Rod_iron_4 ?_
  refine V_astore_n 3 [some (.ref 85), some (.int c), some (.int b), some (.ref 1), none] d_Rod_iron_7 rfl (by decide) rfl rfl ?_
  refine V_aload_n 3 d_Rod_iron_8 rfl rfl ?_
  refine V_iload_n 1 d_Rod_iron_9 rfl rfl ?_
  refine N_callVI [.int c] [] cv_Rod_124 sk_1 rfl d_Rod_iron_10 rfl (Nat.le_of_ble_eq_true rfl) (by decide) (by decide) (c_Land_hasX_0 h hI c cZ cE w wZ wE wK g gZ gE gK) (fun z3 h4 z3Z z3E p5 => ?_)
  obtain ⟨eh4, p5⟩ := p5
  subst eh4
  refine V_if_ne 18 z3E d_Rod_iron_13 (by decide) (fun c6 => ?_) (fun c6 => ?_)
  ·
    refine V_aload_n 3 d_Rod_iron_18 rfl rfl ?_
    refine V_getR fa_Rod_132 sk_1 rfl d_Rod_iron_19 ?_
    refine V_iload_n 1 d_Rod_iron_22 rfl rfl ?_
    refine N_iald sk_3 cE (by omega) d_Rod_iron_23 (fun z7 z7Z z7E z7e => ?_)
    refine V_istore 4 [some (.ref 85), some (.int c), some (.int b), some (.ref 1), some (.int z7)] d_Rod_iron_24 (by decide) rfl rfl ?_
    refine V_aload_n 3 d_Rod_iron_26 rfl rfl ?_
    refine V_getR fa_Rod_132 sk_1 rfl d_Rod_iron_27 ?_
    refine V_iload_n 1 d_Rod_iron_30 rfl rfl ?_
    refine V_iload_n 2 d_Rod_iron_31 rfl rfl ?_
    refine N_callSI [.int b] [.int c, .ref 3] cs_Rod_147 d_Rod_iron_32 rfl (Nat.le_of_ble_eq_true rfl) (by decide) (by decide) (c_Rod_oneIf h b bZ bE) (fun z8 h9 z8Z z8E p10 => ?_)
    obtain ⟨eh9, p10⟩ := p10
    subst eh9
    refine N_iast sk_3 cE (by omega) d_Rod_iron_35 (fun h11 eh11 => ?_)
    have hI12 : Inv h11 := inv_full hI eh11 rfl
    have f13 : fr S_Rod_ironX h h11 := fr_put f0 eh11 rfl
    refine V_iload d_Rod_iron_36 rfl ?_
    exact V_iret rfl d_Rod_iron_38 ⟨z7, rfl, ⟨hI12, f13, (Or.inl ⟨by omega, z8, p10, (by rw [eh11] <;> rfl), z7e⟩)⟩⟩
  ·
    refine V_iconst (-1) d_Rod_iron_16 (by decide) ?_
    exact V_iret rfl d_Rod_iron_17 ⟨(-1), rfl, ⟨hI, f0, (Or.inr ⟨by omega, rfl, tc_m1⟩)⟩⟩
def S_Rod_oddX : List (Nat × Option Nat) := [(4, none)]
abbrev q_Rod_oddX (h : Hp) (c : Int32) (cZ : Int) (v : Int32) (vZ : Int) (w : Int32) (wZ : Int) (g : Int32) (gZ : Int) : Option Value → Hp → Prop := pInt (fun r h' => Inv h' ∧ fr S_Rod_oddX h h' ∧ (Er h h' 4 cZ.toNat (0 ≤ cZ ∧ cZ < wZ * gZ ∧ 0 ≤ vZ ∧ vZ ≤ 10) (fun x => x = v) r))
set_option maxRecDepth 100000 in
theorem c_Rod_oddX (h : Hp) (hI : Inv h) (c : Int32) (cZ : Int) (cE : c.toInt = cZ) (v : Int32) (vZ : Int) (vE : v.toInt = vZ) (w : Int32) (wZ : Int) (wE : w.toInt = wZ) (wK : h.1 1 0 = w) (g : Int32) (gZ : Int) (gE : g.toInt = gZ) (gK : h.1 1 1 = g) : Ct y_Rod_odd b_Rod_odd 5 (some .int) 2 41 [.ref 85, .int c, .int v] h (q_Rod_oddX h c cZ v vZ w wZ g gZ) := by
  refine ct_ow R_Rod [some (.ref 85), some (.int c), some (.int v), none, none] rfl (by decide) rfl (Nat.le_of_ble_eq_true rfl) ?_
  have f0 : fr S_Rod_oddX h h := fr_rf
  have g1 : 2 ≤ wZ ∧ wZ ≤ 4 := inv_at hI wE wK.symm rfl
  have g2 : 2 ≤ gZ ∧ gZ ≤ 4 := inv_at hI gE gK.symm rfl
  refine V_aload_n 0 d_Rod_odd_0 rfl rfl ?_
  refine V_getR fa_Rod_12 sk_85 rfl d_Rod_odd_1 ?_
  refine V_getR fa_Rod_91 sk_0 rfl d_Rod_odd_4 ?_
  refine V_astore_n 3 [some (.ref 85), some (.int c), some (.int v), some (.ref 1), none] d_Rod_odd_7 rfl (by decide) rfl rfl ?_
  refine V_aload_n 3 d_Rod_odd_8 rfl rfl ?_
  refine V_iload_n 1 d_Rod_odd_9 rfl rfl ?_
  refine N_callVI [.int c] [] cv_Rod_124 sk_1 rfl d_Rod_odd_10 rfl (Nat.le_of_ble_eq_true rfl) (by decide) (by decide) (c_Land_hasX_0 h hI c cZ cE w wZ wE wK g gZ gE gK) (fun z3 h4 z3Z z3E p5 => ?_)
  obtain ⟨eh4, p5⟩ := p5
  subst eh4
  refine V_if_eq 26 z3E d_Rod_odd_13 (by decide) (fun c6 => ?_) (fun c6 => ?_)
  ·
    refine V_iconst (-1) d_Rod_odd_26 (by decide) ?_
    exact V_iret rfl d_Rod_odd_27 ⟨(-1), rfl, ⟨hI, f0, (Or.inr ⟨by omega, rfl, tc_m1⟩)⟩⟩
  ·
    refine V_iload_n 2 d_Rod_odd_16 rfl rfl ?_
    refine V_if_lt 26 vE d_Rod_odd_17 (by decide) (fun c7 => ?_) (fun c7 => ?_)
    ·
      refine V_iconst (-1) d_Rod_odd_26 (by decide) ?_
      exact V_iret rfl d_Rod_odd_27 ⟨(-1), rfl, ⟨hI, f0, (Or.inr ⟨by omega, rfl, tc_m1⟩)⟩⟩
    ·
      refine V_iload_n 2 d_Rod_odd_20 rfl rfl ?_
      refine V_bipush 10 d_Rod_odd_21 (by decide) ?_
      refine V_icmp_le 28 vE tc_10 d_Rod_odd_23 (by decide) (fun c8 => ?_) (fun c8 => ?_)
      ·
        refine V_aload_n 3 d_Rod_odd_28 rfl rfl ?_
        refine V_getR fa_Rod_135 sk_1 rfl d_Rod_odd_29 ?_
        refine V_iload_n 1 d_Rod_odd_32 rfl rfl ?_
        refine N_iald sk_4 cE (by omega) d_Rod_odd_33 (fun z9 z9Z z9E z9e => ?_)
        refine V_istore 4 [some (.ref 85), some (.int c), some (.int v), some (.ref 1), some (.int z9)] d_Rod_odd_34 (by decide) rfl rfl ?_
        refine V_aload_n 3 d_Rod_odd_36 rfl rfl ?_
        refine V_getR fa_Rod_135 sk_1 rfl d_Rod_odd_37 ?_
        refine V_iload_n 1 d_Rod_odd_40 rfl rfl ?_
        refine V_iload_n 2 d_Rod_odd_41 rfl rfl ?_
        refine N_iast sk_4 cE (by omega) d_Rod_odd_42 (fun h10 eh10 => ?_)
        have hI11 : Inv h10 := inv_full hI eh10 rfl
        have f12 : fr S_Rod_oddX h h10 := fr_put f0 eh10 rfl
        refine V_iload d_Rod_odd_43 rfl ?_
        exact V_iret rfl d_Rod_odd_45 ⟨z9, rfl, ⟨hI11, f12, (Or.inl ⟨by omega, v, rfl, (by rw [eh10] <;> rfl), z9e⟩)⟩⟩
      ·
        refine V_iconst (-1) d_Rod_odd_26 (by decide) ?_
        exact V_iret rfl d_Rod_odd_27 ⟨(-1), rfl, ⟨hI, f0, (Or.inr ⟨by omega, rfl, tc_m1⟩)⟩⟩
def S_Rod_claimX : List (Nat × Option Nat) := [(5, none)]
abbrev q_Rod_claimX (h : Hp) (c : Int32) (cZ : Int) (o : Int32) (oZ : Int) (w : Int32) (wZ : Int) (g : Int32) (gZ : Int) : Option Value → Hp → Prop := pInt (fun r h' => Inv h' ∧ fr S_Rod_claimX h h' ∧ (Er h h' 5 cZ.toNat (0 ≤ cZ ∧ cZ < wZ * gZ ∧ (oZ = -4 ∨ 0 ≤ oZ ∧ oZ ≤ 3)) (fun x => x = o) r))
set_option maxRecDepth 100000 in
theorem c_Rod_claimX (h : Hp) (hI : Inv h) (c : Int32) (cZ : Int) (cE : c.toInt = cZ) (o : Int32) (oZ : Int) (oE : o.toInt = oZ) (w : Int32) (wZ : Int) (wE : w.toInt = wZ) (wK : h.1 1 0 = w) (g : Int32) (gZ : Int) (gE : g.toInt = gZ) (gK : h.1 1 1 = g) : Ct y_Rod_claim b_Rod_claim 5 (some .int) 2 41 [.ref 85, .int c, .int o] h (q_Rod_claimX h c cZ o oZ w wZ g gZ) := by
  refine ct_ow R_Rod [some (.ref 85), some (.int c), some (.int o), none, none] rfl (by decide) rfl (Nat.le_of_ble_eq_true rfl) ?_
  have f0 : fr S_Rod_claimX h h := fr_rf
  have g1 : 2 ≤ wZ ∧ wZ ≤ 4 := inv_at hI wE wK.symm rfl
  have g2 : 2 ≤ gZ ∧ gZ ≤ 4 := inv_at hI gE gK.symm rfl
  refine V_aload_n 0 d_Rod_claim_0 rfl rfl ?_
  refine V_getR fa_Rod_12 sk_85 rfl d_Rod_claim_1 ?_
  refine V_getR fa_Rod_91 sk_0 rfl d_Rod_claim_4 ?_
  refine V_astore_n 3 [some (.ref 85), some (.int c), some (.int o), some (.ref 1), none] d_Rod_claim_7 rfl (by decide) rfl rfl ?_
  refine V_aload_n 3 d_Rod_claim_8 rfl rfl ?_
  refine V_iload_n 1 d_Rod_claim_9 rfl rfl ?_
  refine N_callVI [.int c] [] cv_Rod_124 sk_1 rfl d_Rod_claim_10 rfl (Nat.le_of_ble_eq_true rfl) (by decide) (by decide) (c_Land_hasX_0 h hI c cZ cE w wZ wE wK g gZ gE gK) (fun z3 h4 z3Z z3E p5 => ?_)
  obtain ⟨eh4, p5⟩ := p5
  subst eh4
  refine V_if_eq 29 z3E d_Rod_claim_13 (by decide) (fun c6 => ?_) (fun c6 => ?_)
  ·
    refine V_iconst (-1) d_Rod_claim_29 (by decide) ?_
    exact V_iret rfl d_Rod_claim_30 ⟨(-1), rfl, ⟨hI, f0, (Or.inr ⟨by omega, rfl, tc_m1⟩)⟩⟩
  ·
    refine V_iload_n 2 d_Rod_claim_16 rfl rfl ?_
    refine V_bipush (-4) d_Rod_claim_17 (by decide) ?_
    refine V_icmp_eq 31 oE tc_m4 d_Rod_claim_19 (by decide) (fun c7 => ?_) (fun c7 => ?_)
    ·
      refine V_aload_n 3 d_Rod_claim_31 rfl rfl ?_
      refine V_getR fa_Rod_138 sk_1 rfl d_Rod_claim_32 ?_
      refine V_iload_n 1 d_Rod_claim_35 rfl rfl ?_
      refine N_iald sk_5 cE (by omega) d_Rod_claim_36 (fun z8 z8Z z8E z8e => ?_)
      refine V_istore 4 [some (.ref 85), some (.int c), some (.int o), some (.ref 1), some (.int z8)] d_Rod_claim_37 (by decide) rfl rfl ?_
      refine V_aload_n 3 d_Rod_claim_39 rfl rfl ?_
      refine V_getR fa_Rod_138 sk_1 rfl d_Rod_claim_40 ?_
      refine V_iload_n 1 d_Rod_claim_43 rfl rfl ?_
      refine V_iload_n 2 d_Rod_claim_44 rfl rfl ?_
      refine N_iast sk_5 cE (by omega) d_Rod_claim_45 (fun h9 eh9 => ?_)
      have hI10 : Inv h9 := inv_full hI eh9 rfl
      have f11 : fr S_Rod_claimX h h9 := fr_put f0 eh9 rfl
      refine V_iload d_Rod_claim_46 rfl ?_
      exact V_iret rfl d_Rod_claim_48 ⟨z8, rfl, ⟨hI10, f11, (Or.inl ⟨by omega, o, rfl, (by rw [eh9] <;> rfl), z8e⟩)⟩⟩
    ·
      refine V_iload_n 2 d_Rod_claim_22 rfl rfl ?_
      refine N_callSI [.int o] [] cs_Rod_151 d_Rod_claim_23 rfl (Nat.le_of_ble_eq_true rfl) (by decide) (by decide) (c_Rod_isOwner h o oZ oE) (fun z12 h13 z12Z z12E p14 => ?_)
      obtain ⟨eh13, p14⟩ := p14
      subst eh13
      refine V_if_ne 31 z12E d_Rod_claim_26 (by decide) (fun c15 => ?_) (fun c15 => ?_)
      ·
        refine V_aload_n 3 d_Rod_claim_31 rfl rfl ?_
        refine V_getR fa_Rod_138 sk_1 rfl d_Rod_claim_32 ?_
        refine V_iload_n 1 d_Rod_claim_35 rfl rfl ?_
        refine N_iald sk_5 cE (by omega) d_Rod_claim_36 (fun z16 z16Z z16E z16e => ?_)
        refine V_istore 4 [some (.ref 85), some (.int c), some (.int o), some (.ref 1), some (.int z16)] d_Rod_claim_37 (by decide) rfl rfl ?_
        refine V_aload_n 3 d_Rod_claim_39 rfl rfl ?_
        refine V_getR fa_Rod_138 sk_1 rfl d_Rod_claim_40 ?_
        refine V_iload_n 1 d_Rod_claim_43 rfl rfl ?_
        refine V_iload_n 2 d_Rod_claim_44 rfl rfl ?_
        refine N_iast sk_5 cE (by omega) d_Rod_claim_45 (fun h17 eh17 => ?_)
        have hI18 : Inv h17 := inv_full hI eh17 rfl
        have f19 : fr S_Rod_claimX h h17 := fr_put f0 eh17 rfl
        refine V_iload d_Rod_claim_46 rfl ?_
        exact V_iret rfl d_Rod_claim_48 ⟨z16, rfl, ⟨hI18, f19, (Or.inl ⟨by omega, o, rfl, (by rw [eh17] <;> rfl), z16e⟩)⟩⟩
      ·
        refine V_iconst (-1) d_Rod_claim_29 (by decide) ?_
        exact V_iret rfl d_Rod_claim_30 ⟨(-1), rfl, ⟨hI, f0, (Or.inr ⟨by omega, rfl, tc_m1⟩)⟩⟩
def S_Mod_becomesX : List (Nat × Option Nat) := [(117, none)]
abbrev q_Mod_becomesX (h : Hp) (k : Int32) (kZ : Int) (v : Int32) (vZ : Int) : Option Value → Hp → Prop := pInt (fun r h' => Inv h' ∧ fr S_Mod_becomesX h h' ∧ (h' = pI h 117 kZ.toNat v ∧ r = h.1 117 kZ.toNat))
set_option maxRecDepth 100000 in
theorem c_Mod_becomesX (h : Hp) (hI : Inv h) (k : Int32) (kZ : Int) (kE : k.toInt = kZ) (v : Int32) (vZ : Int) (vE : v.toInt = vZ) (hy0 : 0 ≤ kZ ∧ kZ < 432) (hy1 : stOk kZ vZ) : Ct y_Mod_becomes b_Mod_becomes 4 (some .int) 0 0 [.ref 116, .int k, .int v] h (q_Mod_becomesX h k kZ v vZ) := by
  refine ct_ow R_Mod [some (.ref 116), some (.int k), some (.int v), none] rfl (by decide) rfl (Nat.le_of_ble_eq_true rfl) ?_
  have f0 : fr S_Mod_becomesX h h := fr_rf
  refine V_aload_n 0 d_Mod_becomes_0 rfl rfl ?_
  refine V_getR fa_Mod_7 sk_116 rfl d_Mod_becomes_1 ?_
  refine V_iload_n 1 d_Mod_becomes_4 rfl rfl ?_
  refine N_iald sk_117 kE (by omega) d_Mod_becomes_5 (fun z1 z1Z z1E z1e => ?_)
  refine V_istore_n 3 [some (.ref 116), some (.int k), some (.int v), some (.int z1)] d_Mod_becomes_6 rfl (by decide) rfl rfl ?_
  refine V_aload_n 0 d_Mod_becomes_7 rfl rfl ?_
  refine V_getR fa_Mod_7 sk_116 rfl d_Mod_becomes_8 ?_
  refine V_iload_n 1 d_Mod_becomes_11 rfl rfl ?_
  refine V_iload_n 2 d_Mod_becomes_12 rfl rfl ?_
  refine N_iast sk_117 kE (by omega) d_Mod_becomes_13 (fun h2 eh2 => ?_)
  have hI3 : Inv h2 := inv_st hI eh2 (Or.inl rfl) vE hy1
  have f4 : fr S_Mod_becomesX h h2 := fr_put f0 eh2 rfl
  refine V_iload_n 3 d_Mod_becomes_14 rfl rfl ?_
  exact V_iret rfl d_Mod_becomes_15 ⟨z1, rfl, ⟨hI3, f4, ⟨(by rw [eh2] <;> rfl), z1e⟩⟩⟩
def S_Mod_ironX : List (Nat × Option Nat) := [(117, none)]
abbrev q_Mod_ironX (h : Hp) (c : Int32) (cZ : Int) (b : Int32) (bZ : Int) (w : Int32) (wZ : Int) (g : Int32) (gZ : Int) : Option Value → Hp → Prop := pInt (fun r h' => Inv h' ∧ fr S_Mod_ironX h h' ∧ (Er h h' 117 (16 + cZ).toNat (0 ≤ cZ ∧ cZ < wZ * gZ) (fun x => bZ ≠ 0 ∧ x.toInt = 1 ∨ bZ = 0 ∧ x.toInt = 0) r))
set_option maxRecDepth 100000 in
theorem c_Mod_ironX (h : Hp) (hI : Inv h) (c : Int32) (cZ : Int) (cE : c.toInt = cZ) (b : Int32) (bZ : Int) (bE : b.toInt = bZ) (w : Int32) (wZ : Int) (wE : w.toInt = wZ) (wK : h.1 116 2 = w) (g : Int32) (gZ : Int) (gE : g.toInt = gZ) (gK : h.1 116 3 = g) : Ct y_Mod_iron b_Mod_iron 3 (some .int) 2 46 [.ref 116, .int c, .int b] h (q_Mod_ironX h c cZ b bZ w wZ g gZ) := by
  refine ct_ow R_Mod [some (.ref 116), some (.int c), some (.int b)] rfl (by decide) rfl (Nat.le_of_ble_eq_true rfl) ?_
  have f0 : fr S_Mod_ironX h h := fr_rf
  have g1 : 2 ≤ wZ ∧ wZ ≤ 4 := inv_at hI wE wK.symm rfl
  have g2 : 2 ≤ gZ ∧ gZ ≤ 4 := inv_at hI gE gK.symm rfl
  refine V_aload_n 0 d_Mod_iron_0 rfl rfl ?_
  refine V_iload_n 1 d_Mod_iron_1 rfl rfl ?_
  refine N_callVI [.int c] [] cv_Mod_200 sk_116 rfl d_Mod_iron_2 rfl (Nat.le_of_ble_eq_true rfl) (by decide) (by decide) (c_Mod_isCellX h hI c cZ cE w wZ wE wK g gZ gE gK) (fun z3 h4 z3Z z3E p5 => ?_)
  obtain ⟨eh4, p5⟩ := p5
  subst eh4
  refine V_if_eq 23 z3E d_Mod_iron_5 (by decide) (fun c6 => ?_) (fun c6 => ?_)
  ·
    refine V_iconst (-1) d_Mod_iron_23 (by decide) ?_
    exact V_iret rfl d_Mod_iron_24 ⟨(-1), rfl, ⟨hI, f0, (Or.inr ⟨by omega, rfl, tc_m1⟩)⟩⟩
  ·
    refine V_aload_n 0 d_Mod_iron_8 rfl rfl ?_
    refine V_bipush 16 d_Mod_iron_9 (by decide) ?_
    refine V_iload_n 1 d_Mod_iron_11 rfl rfl ?_
    refine V_iadd tc_16 cE (by omega) d_Mod_iron_12 (fun z7 z7e z7E => ?_)
    refine V_iload_n 2 d_Mod_iron_13 rfl rfl ?_
    refine N_callSI [.int b] [.int z7, .ref 116] cs_Mod_196 d_Mod_iron_14 rfl (Nat.le_of_ble_eq_true rfl) (by decide) (by decide) (c_Mod_flag h b bZ bE) (fun z8 h9 z8Z z8E p10 => ?_)
    obtain ⟨eh9, p10⟩ := p10
    subst eh9
    refine N_callVI [.int z7, .int z8] [] cv_Mod_210 sk_116 rfl d_Mod_iron_17 rfl (Nat.le_of_ble_eq_true rfl) (by decide) (by decide) (c_Mod_becomesX h hI z7 ((16 + cZ)) z7E z8 z8Z z8E (by omega) (stOk_lo z8E (by omega))) (fun z11 h12 z11Z z11E p13 => ?_)
    obtain ⟨hI14, fh12, p13⟩ := p13
    have f15 : fr S_Mod_ironX h h12 := fr_call f0 fh12 rfl
    refine V_goto 24 d_Mod_iron_20 (by decide) ?_
    exact V_iret rfl d_Mod_iron_24 ⟨z11, rfl, ⟨hI14, f15, (Or.inl ⟨by omega, z8, p10, p13.1, p13.2⟩)⟩⟩
def S_Mod_oddX : List (Nat × Option Nat) := [(117, none)]
abbrev q_Mod_oddX (h : Hp) (c : Int32) (cZ : Int) (v : Int32) (vZ : Int) (w : Int32) (wZ : Int) (g : Int32) (gZ : Int) : Option Value → Hp → Prop := pInt (fun r h' => Inv h' ∧ fr S_Mod_oddX h h' ∧ (Er h h' 117 (32 + cZ).toNat (0 ≤ cZ ∧ cZ < wZ * gZ ∧ 0 ≤ vZ ∧ vZ ≤ 10) (fun x => x = v) r))
set_option maxRecDepth 100000 in
theorem c_Mod_oddX (h : Hp) (hI : Inv h) (c : Int32) (cZ : Int) (cE : c.toInt = cZ) (v : Int32) (vZ : Int) (vE : v.toInt = vZ) (w : Int32) (wZ : Int) (wE : w.toInt = wZ) (wK : h.1 116 2 = w) (g : Int32) (gZ : Int) (gE : g.toInt = gZ) (gK : h.1 116 3 = g) : Ct y_Mod_odd b_Mod_odd 3 (some .int) 2 46 [.ref 116, .int c, .int v] h (q_Mod_oddX h c cZ v vZ w wZ g gZ) := by
  refine ct_ow R_Mod [some (.ref 116), some (.int c), some (.int v)] rfl (by decide) rfl (Nat.le_of_ble_eq_true rfl) ?_
  have f0 : fr S_Mod_oddX h h := fr_rf
  have g1 : 2 ≤ wZ ∧ wZ ≤ 4 := inv_at hI wE wK.symm rfl
  have g2 : 2 ≤ gZ ∧ gZ ≤ 4 := inv_at hI gE gK.symm rfl
  refine V_aload_n 0 d_Mod_odd_0 rfl rfl ?_
  refine V_iload_n 1 d_Mod_odd_1 rfl rfl ?_
  refine N_callVI [.int c] [] cv_Mod_200 sk_116 rfl d_Mod_odd_2 rfl (Nat.le_of_ble_eq_true rfl) (by decide) (by decide) (c_Mod_isCellX h hI c cZ cE w wZ wE wK g gZ gE gK) (fun z3 h4 z3Z z3E p5 => ?_)
  obtain ⟨eh4, p5⟩ := p5
  subst eh4
  refine V_if_eq 32 z3E d_Mod_odd_5 (by decide) (fun c6 => ?_) (fun c6 => ?_)
  ·
    refine V_iconst (-1) d_Mod_odd_32 (by decide) ?_
    exact V_iret rfl d_Mod_odd_33 ⟨(-1), rfl, ⟨hI, f0, (Or.inr ⟨by omega, rfl, tc_m1⟩)⟩⟩
  ·
    refine V_iload_n 2 d_Mod_odd_8 rfl rfl ?_
    refine V_i2l d_Mod_odd_9 (fun z7 z7e z7E => ?_)
    have z7F : z7.toInt = vZ := z7E.trans vE
    refine V_lconst 0 d_Mod_odd_10 (by decide) ?_
    refine V_ldc2 d_Mod_odd_11 wl_Mod_213 ?_
    refine N_callSI [.long z7, .long 0, .long 10] [] cs_Mod_95 d_Mod_odd_14 rfl (Nat.le_of_ble_eq_true rfl) (by decide) (by decide) (c_Mod_in h z7 vZ z7F 0 0 tl_0 10 10 tl_10) (fun z8 h9 z8Z z8E p10 => ?_)
    obtain ⟨eh9, p10⟩ := p10
    subst eh9
    refine V_if_eq 32 z8E d_Mod_odd_17 (by decide) (fun c11 => ?_) (fun c11 => ?_)
    ·
      refine V_iconst (-1) d_Mod_odd_32 (by decide) ?_
      exact V_iret rfl d_Mod_odd_33 ⟨(-1), rfl, ⟨hI, f0, (Or.inr ⟨by omega, rfl, tc_m1⟩)⟩⟩
    ·
      refine V_aload_n 0 d_Mod_odd_20 rfl rfl ?_
      refine V_bipush 32 d_Mod_odd_21 (by decide) ?_
      refine V_iload_n 1 d_Mod_odd_23 rfl rfl ?_
      refine V_iadd tc_32 cE (by omega) d_Mod_odd_24 (fun z12 z12e z12E => ?_)
      refine V_iload_n 2 d_Mod_odd_25 rfl rfl ?_
      refine N_callVI [.int z12, .int v] [] cv_Mod_210 sk_116 rfl d_Mod_odd_26 rfl (Nat.le_of_ble_eq_true rfl) (by decide) (by decide) (c_Mod_becomesX h hI z12 ((32 + cZ)) z12E v vZ vE (by omega) (stOk_lo vE (by omega))) (fun z13 h14 z13Z z13E p15 => ?_)
      obtain ⟨hI16, fh14, p15⟩ := p15
      have f17 : fr S_Mod_oddX h h14 := fr_call f0 fh14 rfl
      refine V_goto 33 d_Mod_odd_29 (by decide) ?_
      exact V_iret rfl d_Mod_odd_33 ⟨z13, rfl, ⟨hI16, f17, (Or.inl ⟨by omega, v, rfl, p15.1, p15.2⟩)⟩⟩
def S_Mod_claimX : List (Nat × Option Nat) := [(117, none)]
abbrev q_Mod_claimX (h : Hp) (c : Int32) (cZ : Int) (o : Int32) (oZ : Int) (w : Int32) (wZ : Int) (g : Int32) (gZ : Int) : Option Value → Hp → Prop := pInt (fun r h' => Inv h' ∧ fr S_Mod_claimX h h' ∧ (Er h h' 117 (48 + cZ).toNat (0 ≤ cZ ∧ cZ < wZ * gZ ∧ (oZ = -4 ∨ 0 ≤ oZ ∧ oZ ≤ 3)) (fun x => x = o) r))
set_option maxRecDepth 100000 in
theorem c_Mod_claimX (h : Hp) (hI : Inv h) (c : Int32) (cZ : Int) (cE : c.toInt = cZ) (o : Int32) (oZ : Int) (oE : o.toInt = oZ) (w : Int32) (wZ : Int) (wE : w.toInt = wZ) (wK : h.1 116 2 = w) (g : Int32) (gZ : Int) (gE : g.toInt = gZ) (gK : h.1 116 3 = g) : Ct y_Mod_claim b_Mod_claim 3 (some .int) 2 46 [.ref 116, .int c, .int o] h (q_Mod_claimX h c cZ o oZ w wZ g gZ) := by
  refine ct_ow R_Mod [some (.ref 116), some (.int c), some (.int o)] rfl (by decide) rfl (Nat.le_of_ble_eq_true rfl) ?_
  have f0 : fr S_Mod_claimX h h := fr_rf
  have g1 : 2 ≤ wZ ∧ wZ ≤ 4 := inv_at hI wE wK.symm rfl
  have g2 : 2 ≤ gZ ∧ gZ ≤ 4 := inv_at hI gE gK.symm rfl
  refine V_aload_n 0 d_Mod_claim_0 rfl rfl ?_
  refine V_iload_n 1 d_Mod_claim_1 rfl rfl ?_
  refine N_callVI [.int c] [] cv_Mod_200 sk_116 rfl d_Mod_claim_2 rfl (Nat.le_of_ble_eq_true rfl) (by decide) (by decide) (c_Mod_isCellX h hI c cZ cE w wZ wE wK g gZ gE gK) (fun z3 h4 z3Z z3E p5 => ?_)
  obtain ⟨eh4, p5⟩ := p5
  subst eh4
  refine V_if_eq 33 z3E d_Mod_claim_5 (by decide) (fun c6 => ?_) (fun c6 => ?_)
  ·
    refine V_iconst (-1) d_Mod_claim_33 (by decide) ?_
    exact V_iret rfl d_Mod_claim_34 ⟨(-1), rfl, ⟨hI, f0, (Or.inr ⟨by omega, rfl, tc_m1⟩)⟩⟩
  ·
    refine V_iload_n 2 d_Mod_claim_8 rfl rfl ?_
    refine V_bipush (-4) d_Mod_claim_9 (by decide) ?_
    refine V_icmp_eq 21 oE tc_m4 d_Mod_claim_11 (by decide) (fun c7 => ?_) (fun c7 => ?_)
    ·
      refine V_aload_n 0 d_Mod_claim_21 rfl rfl ?_
      refine V_bipush 48 d_Mod_claim_22 (by decide) ?_
      refine V_iload_n 1 d_Mod_claim_24 rfl rfl ?_
      refine V_iadd tc_48 cE (by omega) d_Mod_claim_25 (fun z8 z8e z8E => ?_)
      refine V_iload_n 2 d_Mod_claim_26 rfl rfl ?_
      refine N_callVI [.int z8, .int o] [] cv_Mod_210 sk_116 rfl d_Mod_claim_27 rfl (Nat.le_of_ble_eq_true rfl) (by decide) (by decide) (c_Mod_becomesX h hI z8 ((48 + cZ)) z8E o oZ oE (by omega) (stOk_lo oE (by omega))) (fun z9 h10 z9Z z9E p11 => ?_)
      obtain ⟨hI12, fh10, p11⟩ := p11
      have f13 : fr S_Mod_claimX h h10 := fr_call f0 fh10 rfl
      refine V_goto 34 d_Mod_claim_30 (by decide) ?_
      exact V_iret rfl d_Mod_claim_34 ⟨z9, rfl, ⟨hI12, f13, (Or.inl ⟨by omega, o, rfl, p11.1, p11.2⟩)⟩⟩
    ·
      refine V_iload_n 2 d_Mod_claim_14 rfl rfl ?_
      refine N_callSI [.int o] [] cs_Mod_205 d_Mod_claim_15 rfl (Nat.le_of_ble_eq_true rfl) (by decide) (by decide) (c_Mod_isOwner h o oZ oE) (fun z14 h15 z14Z z14E p16 => ?_)
      obtain ⟨eh15, p16⟩ := p16
      subst eh15
      refine V_if_eq 33 z14E d_Mod_claim_18 (by decide) (fun c17 => ?_) (fun c17 => ?_)
      ·
        refine V_iconst (-1) d_Mod_claim_33 (by decide) ?_
        exact V_iret rfl d_Mod_claim_34 ⟨(-1), rfl, ⟨hI, f0, (Or.inr ⟨by omega, rfl, tc_m1⟩)⟩⟩
      ·
        refine V_aload_n 0 d_Mod_claim_21 rfl rfl ?_
        refine V_bipush 48 d_Mod_claim_22 (by decide) ?_
        refine V_iload_n 1 d_Mod_claim_24 rfl rfl ?_
        refine V_iadd tc_48 cE (by omega) d_Mod_claim_25 (fun z18 z18e z18E => ?_)
        refine V_iload_n 2 d_Mod_claim_26 rfl rfl ?_
        refine N_callVI [.int z18, .int o] [] cv_Mod_210 sk_116 rfl d_Mod_claim_27 rfl (Nat.le_of_ble_eq_true rfl) (by decide) (by decide) (c_Mod_becomesX h hI z18 ((48 + cZ)) z18E o oZ oE (by omega) (stOk_lo oE (by omega))) (fun z19 h20 z19Z z19E p21 => ?_)
        obtain ⟨hI22, fh20, p21⟩ := p21
        have f23 : fr S_Mod_claimX h h20 := fr_call f0 fh20 rfl
        refine V_goto 34 d_Mod_claim_30 (by decide) ?_
        exact V_iret rfl d_Mod_claim_34 ⟨z19, rfl, ⟨hI22, f23, (Or.inl ⟨by omega, o, rfl, p21.1, p21.2⟩)⟩⟩
def S_Rod_cutX : List (Nat × Option Nat) := [(0, some 3), (0, some 4)]
abbrev q_Rod_cutX (h : Hp) (n : Int32) (nZ : Int) (v : Int32) (vZ : Int) (t : Int32) (tZ : Int) : Option Value → Hp → Prop := pInt (fun r h' => Inv h' ∧ fr S_Rod_cutX h h' ∧ (Ew h h' (0 ≤ nZ ∧ nZ ≤ 4 ∧ 1 ≤ vZ ∧ vZ ≤ 9) (pI (pI h 0 3 n) 0 4 v) t r))
set_option maxRecDepth 100000 in
theorem c_Rod_cutX (h : Hp) (hI : Inv h) (n : Int32) (nZ : Int) (nE : n.toInt = nZ) (v : Int32) (vZ : Int) (vE : v.toInt = vZ) (t : Int32) (tZ : Int) (tE : t.toInt = tZ) (tK : h.1 0 3 = t) : Ct y_Rod_cut b_Rod_cut 4 (some .int) 1 20 [.ref 85, .int n, .int v] h (q_Rod_cutX h n nZ v vZ t tZ) := by
  refine ct_ow R_Rod [some (.ref 85), some (.int n), some (.int v), none] rfl (by decide) rfl (Nat.le_of_ble_eq_true rfl) ?_
  have f0 : fr S_Rod_cutX h h := fr_rf
  refine V_iload_n 1 d_Rod_cut_0 rfl rfl ?_
  refine N_callSI [.int n] [] cs_Rod_157 d_Rod_cut_1 rfl (Nat.le_of_ble_eq_true rfl) (by decide) (by decide) (c_Rod_isNature h n nZ nE) (fun z1 h2 z1Z z1E p3 => ?_)
  obtain ⟨eh2, p3⟩ := p3
  subst eh2
  refine V_if_eq 18 z1E d_Rod_cut_4 (by decide) (fun c4 => ?_) (fun c4 => ?_)
  ·
    refine V_iconst (-1) d_Rod_cut_18 (by decide) ?_
    exact V_iret rfl d_Rod_cut_19 ⟨(-1), rfl, ⟨hI, f0, (Or.inr ⟨by omega, rfl, tc_m1⟩)⟩⟩
  ·
    refine V_iload_n 2 d_Rod_cut_7 rfl rfl ?_
    refine V_iconst 1 d_Rod_cut_8 (by decide) ?_
    refine V_icmp_lt 18 vE tc_1 d_Rod_cut_9 (by decide) (fun c5 => ?_) (fun c5 => ?_)
    ·
      refine V_iconst (-1) d_Rod_cut_18 (by decide) ?_
      exact V_iret rfl d_Rod_cut_19 ⟨(-1), rfl, ⟨hI, f0, (Or.inr ⟨by omega, rfl, tc_m1⟩)⟩⟩
    ·
      refine V_iload_n 2 d_Rod_cut_12 rfl rfl ?_
      refine V_bipush 9 d_Rod_cut_13 (by decide) ?_
      refine V_icmp_le 20 vE tc_9 d_Rod_cut_15 (by decide) (fun c6 => ?_) (fun c6 => ?_)
      ·
        refine V_aload_n 0 d_Rod_cut_20 rfl rfl ?_
        refine V_getR fa_Rod_12 sk_85 rfl d_Rod_cut_21 ?_
        refine N_getK fa_Rod_109 sk_0 rfl d_Rod_cut_24 tK ?_
        refine V_istore_n 3 [some (.ref 85), some (.int n), some (.int v), some (.int t)] d_Rod_cut_27 rfl (by decide) rfl rfl ?_
        refine V_aload_n 0 d_Rod_cut_28 rfl rfl ?_
        refine V_getR fa_Rod_12 sk_85 rfl d_Rod_cut_29 ?_
        refine V_iload_n 1 d_Rod_cut_32 rfl rfl ?_
        refine N_putI fp_Rod_109 sk_0 rfl d_Rod_cut_33 (fun h7 eh7 => ?_)
        have hI8 : Inv h7 := inv_full hI eh7 rfl
        have f9 : fr S_Rod_cutX h h7 := fr_put f0 eh7 rfl
        refine V_aload_n 0 d_Rod_cut_36 rfl rfl ?_
        refine V_getR fa_Rod_12 sk_85 rfl d_Rod_cut_37 ?_
        refine V_iload_n 2 d_Rod_cut_40 rfl rfl ?_
        refine N_putI fp_Rod_112 sk_0 rfl d_Rod_cut_41 (fun h10 eh10 => ?_)
        have hI11 : Inv h10 := inv_full hI8 eh10 rfl
        have f12 : fr S_Rod_cutX h h10 := fr_put f9 eh10 rfl
        refine V_iload_n 3 d_Rod_cut_44 rfl rfl ?_
        exact V_iret rfl d_Rod_cut_45 ⟨t, rfl, ⟨hI11, f12, (Or.inl ⟨by omega, (by rw [eh10, eh7] <;> rfl), rfl⟩)⟩⟩
      ·
        refine V_iconst (-1) d_Rod_cut_18 (by decide) ?_
        exact V_iret rfl d_Rod_cut_19 ⟨(-1), rfl, ⟨hI, f0, (Or.inr ⟨by omega, rfl, tc_m1⟩)⟩⟩
def S_Mod_cutX : List (Nat × Option Nat) := [(117, none)]
abbrev q_Mod_cutX (h : Hp) (n : Int32) (nZ : Int) (v : Int32) (vZ : Int) (t : Int32) (tZ : Int) : Option Value → Hp → Prop := pInt (fun r h' => Inv h' ∧ fr S_Mod_cutX h h' ∧ (Ew h h' (0 ≤ nZ ∧ nZ ≤ 4 ∧ 1 ≤ vZ ∧ vZ ≤ 9) (pI (pI h 117 85 v) 117 84 n) t r))
set_option maxRecDepth 100000 in
theorem c_Mod_cutX (h : Hp) (hI : Inv h) (n : Int32) (nZ : Int) (nE : n.toInt = nZ) (v : Int32) (vZ : Int) (vE : v.toInt = vZ) (t : Int32) (tZ : Int) (tE : t.toInt = tZ) (tK : h.1 117 84 = t) : Ct y_Mod_cut b_Mod_cut 3 (some .int) 1 25 [.ref 116, .int n, .int v] h (q_Mod_cutX h n nZ v vZ t tZ) := by
  refine ct_ow R_Mod [some (.ref 116), some (.int n), some (.int v)] rfl (by decide) rfl (Nat.le_of_ble_eq_true rfl) ?_
  have f0 : fr S_Mod_cutX h h := fr_rf
  refine V_iload_n 1 d_Mod_cut_0 rfl rfl ?_
  refine V_i2l d_Mod_cut_1 (fun z1 z1e z1E => ?_)
  have z1F : z1.toInt = nZ := z1E.trans nE
  refine V_lconst 0 d_Mod_cut_2 (by decide) ?_
  refine V_ldc2 d_Mod_cut_3 wl_Mod_217 ?_
  refine N_callSI [.long z1, .long 0, .long 4] [] cs_Mod_95 d_Mod_cut_6 rfl (Nat.le_of_ble_eq_true rfl) (by decide) (by decide) (c_Mod_in h z1 nZ z1F 0 0 tl_0 4 4 tl_4) (fun z2 h3 z2Z z2E p4 => ?_)
  obtain ⟨eh3, p4⟩ := p4
  subst eh3
  refine V_if_eq 24 z2E d_Mod_cut_9 (by decide) (fun c5 => ?_) (fun c5 => ?_)
  ·
    refine V_iconst (-1) d_Mod_cut_24 (by decide) ?_
    exact V_iret rfl d_Mod_cut_25 ⟨(-1), rfl, ⟨hI, f0, (Or.inr ⟨by omega, rfl, tc_m1⟩)⟩⟩
  ·
    refine V_iload_n 2 d_Mod_cut_12 rfl rfl ?_
    refine V_i2l d_Mod_cut_13 (fun z6 z6e z6E => ?_)
    have z6F : z6.toInt = vZ := z6E.trans vE
    refine V_lconst 1 d_Mod_cut_14 (by decide) ?_
    refine V_ldc2 d_Mod_cut_15 wl_Mod_208 ?_
    refine N_callSI [.long z6, .long 1, .long 9] [] cs_Mod_95 d_Mod_cut_18 rfl (Nat.le_of_ble_eq_true rfl) (by decide) (by decide) (c_Mod_in h z6 vZ z6F 1 1 tl_1 9 9 tl_9) (fun z7 h8 z7Z z7E p9 => ?_)
    obtain ⟨eh8, p9⟩ := p9
    subst eh8
    refine V_if_ne 26 z7E d_Mod_cut_21 (by decide) (fun c10 => ?_) (fun c10 => ?_)
    ·
      refine V_aload_n 0 d_Mod_cut_26 rfl rfl ?_
      refine V_getR fa_Mod_7 sk_116 rfl d_Mod_cut_27 ?_
      refine V_bipush 85 d_Mod_cut_30 (by decide) ?_
      refine V_iload_n 2 d_Mod_cut_32 rfl rfl ?_
      refine N_iast sk_117 tc_85 (by omega) d_Mod_cut_33 (fun h11 eh11 => ?_)
      have hI12 : Inv h11 := inv_full hI eh11 rfl
      have f13 : fr S_Mod_cutX h h11 := fr_put f0 eh11 rfl
      refine V_aload_n 0 d_Mod_cut_34 rfl rfl ?_
      refine V_bipush 84 d_Mod_cut_35 (by decide) ?_
      refine V_iload_n 1 d_Mod_cut_37 rfl rfl ?_
      refine N_callVI [.int 84, .int n] [] cv_Mod_210 sk_116 rfl d_Mod_cut_38 rfl (Nat.le_of_ble_eq_true rfl) (by decide) (by decide) (c_Mod_becomesX h11 hI12 84 84 tc_84 n nZ nE (by omega) (stOk_lo nE (by omega))) (fun z14 h15 z14Z z14E p16 => ?_)
      obtain ⟨hI17, fh15, p16⟩ := p16
      have f18 : fr S_Mod_cutX h h15 := fr_call f13 fh15 rfl
      exact V_iret rfl d_Mod_cut_41 ⟨z14, rfl, ⟨hI17, f18, (Or.inl ⟨by omega, p16.1.trans (by rw [eh11]; rfl), p16.2.trans (by rw [eh11, pI_at, if_neg (by decide)]; exact tK)⟩)⟩⟩
    ·
      refine V_iconst (-1) d_Mod_cut_24 (by decide) ?_
      exact V_iret rfl d_Mod_cut_25 ⟨(-1), rfl, ⟨hI, f0, (Or.inr ⟨by omega, rfl, tc_m1⟩)⟩⟩
def S_Rod_payX : List (Nat × Option Nat) := [(7, some 4)]
abbrev q_Rod_payX (h : Hp) (n : Int32) (nZ : Int) (t : Int32) (tZ : Int) : Option Value → Hp → Prop := pInt (fun r h' => Inv h' ∧ fr S_Rod_payX h h' ∧ (Ew h h' (0 ≤ nZ ∧ nZ ≤ tZ) (pI h 7 4 n) t r))
set_option maxRecDepth 100000 in
theorem c_Rod_payX (h : Hp) (hI : Inv h) (n : Int32) (nZ : Int) (nE : n.toInt = nZ) (t : Int32) (tZ : Int) (tE : t.toInt = tZ) (tK : h.1 7 4 = t) : Ct y_Rod_pay b_Rod_pay 3 (some .int) 0 0 [.ref 85, .int n] h (q_Rod_payX h n nZ t tZ) := by
  refine ct_ow R_Rod [some (.ref 85), some (.int n), none] rfl (by decide) rfl (Nat.le_of_ble_eq_true rfl) ?_
  have f0 : fr S_Rod_payX h h := fr_rf
  have g1 : 0 ≤ tZ ∧ tZ ≤ 8 := inv_at hI tE tK.symm rfl
  refine V_aload_n 0 d_Rod_pay_0 rfl rfl ?_
  refine V_getR fa_Rod_12 sk_85 rfl d_Rod_pay_1 ?_
  refine V_getR fa_Rod_115 sk_0 rfl d_Rod_pay_4 ?_
  refine N_getK fa_Rod_119 sk_7 rfl d_Rod_pay_7 tK ?_
  refine V_istore_n 2 [some (.ref 85), some (.int n), some (.int t)] d_Rod_pay_10 rfl (by decide) rfl rfl ?_
  refine V_iload_n 1 d_Rod_pay_11 rfl rfl ?_
  refine V_if_lt 20 nE d_Rod_pay_12 (by decide) (fun c2 => ?_) (fun c2 => ?_)
  ·
    refine V_iconst (-1) d_Rod_pay_20 (by decide) ?_
    exact V_iret rfl d_Rod_pay_21 ⟨(-1), rfl, ⟨hI, f0, (Or.inr ⟨by omega, rfl, tc_m1⟩)⟩⟩
  ·
    refine V_iload_n 1 d_Rod_pay_15 rfl rfl ?_
    refine V_iload_n 2 d_Rod_pay_16 rfl rfl ?_
    refine V_icmp_le 22 nE tE d_Rod_pay_17 (by decide) (fun c3 => ?_) (fun c3 => ?_)
    ·
      refine V_aload_n 0 d_Rod_pay_22 rfl rfl ?_
      refine V_getR fa_Rod_12 sk_85 rfl d_Rod_pay_23 ?_
      refine V_getR fa_Rod_115 sk_0 rfl d_Rod_pay_26 ?_
      refine V_iload_n 1 d_Rod_pay_29 rfl rfl ?_
      refine N_putI fp_Rod_119 sk_7 rfl d_Rod_pay_30 (fun h4 eh4 => ?_)
      have hI5 : Inv h4 := inv_put (lo := 0) (hi := 8) hI eh4 rfl nE (by omega)
      have f6 : fr S_Rod_payX h h4 := fr_put f0 eh4 rfl
      refine V_iload_n 2 d_Rod_pay_33 rfl rfl ?_
      exact V_iret rfl d_Rod_pay_34 ⟨t, rfl, ⟨hI5, f6, (Or.inl ⟨by omega, (by rw [eh4] <;> rfl), rfl⟩)⟩⟩
    ·
      refine V_iconst (-1) d_Rod_pay_20 (by decide) ?_
      exact V_iret rfl d_Rod_pay_21 ⟨(-1), rfl, ⟨hI, f0, (Or.inr ⟨by omega, rfl, tc_m1⟩)⟩⟩
def S_Rod_forgetX : List (Nat × Option Nat) := [(12, some 4)]
abbrev q_Rod_forgetX (h : Hp) (n : Int32) (nZ : Int) (t : Int32) (tZ : Int) : Option Value → Hp → Prop := pInt (fun r h' => Inv h' ∧ fr S_Rod_forgetX h h' ∧ (Ew h h' (0 ≤ nZ ∧ nZ ≤ tZ) (pI h 12 4 n) t r))
set_option maxRecDepth 100000 in
theorem c_Rod_forgetX (h : Hp) (hI : Inv h) (n : Int32) (nZ : Int) (nE : n.toInt = nZ) (t : Int32) (tZ : Int) (tE : t.toInt = tZ) (tK : h.1 12 4 = t) : Ct y_Rod_forget b_Rod_forget 3 (some .int) 0 0 [.ref 85, .int n] h (q_Rod_forgetX h n nZ t tZ) := by
  refine ct_ow R_Rod [some (.ref 85), some (.int n), none] rfl (by decide) rfl (Nat.le_of_ble_eq_true rfl) ?_
  have f0 : fr S_Rod_forgetX h h := fr_rf
  have g1 : 0 ≤ tZ ∧ tZ ≤ 8 := inv_at hI tE tK.symm rfl
  refine V_aload_n 0 d_Rod_forget_0 rfl rfl ?_
  refine V_getR fa_Rod_12 sk_85 rfl d_Rod_forget_1 ?_
  refine V_getR fa_Rod_178 sk_0 rfl d_Rod_forget_4 ?_
  refine N_getK fa_Rod_182 sk_12 rfl d_Rod_forget_7 tK ?_
  refine V_istore_n 2 [some (.ref 85), some (.int n), some (.int t)] d_Rod_forget_10 rfl (by decide) rfl rfl ?_
  refine V_iload_n 1 d_Rod_forget_11 rfl rfl ?_
  refine V_if_lt 20 nE d_Rod_forget_12 (by decide) (fun c2 => ?_) (fun c2 => ?_)
  ·
    refine V_iconst (-1) d_Rod_forget_20 (by decide) ?_
    exact V_iret rfl d_Rod_forget_21 ⟨(-1), rfl, ⟨hI, f0, (Or.inr ⟨by omega, rfl, tc_m1⟩)⟩⟩
  ·
    refine V_iload_n 1 d_Rod_forget_15 rfl rfl ?_
    refine V_iload_n 2 d_Rod_forget_16 rfl rfl ?_
    refine V_icmp_le 22 nE tE d_Rod_forget_17 (by decide) (fun c3 => ?_) (fun c3 => ?_)
    ·
      refine V_aload_n 0 d_Rod_forget_22 rfl rfl ?_
      refine V_getR fa_Rod_12 sk_85 rfl d_Rod_forget_23 ?_
      refine V_getR fa_Rod_178 sk_0 rfl d_Rod_forget_26 ?_
      refine V_iload_n 1 d_Rod_forget_29 rfl rfl ?_
      refine N_putI fp_Rod_182 sk_12 rfl d_Rod_forget_30 (fun h4 eh4 => ?_)
      have hI5 : Inv h4 := inv_put (lo := 0) (hi := 8) hI eh4 rfl nE (by omega)
      have f6 : fr S_Rod_forgetX h h4 := fr_put f0 eh4 rfl
      refine V_iload_n 2 d_Rod_forget_33 rfl rfl ?_
      exact V_iret rfl d_Rod_forget_34 ⟨t, rfl, ⟨hI5, f6, (Or.inl ⟨by omega, (by rw [eh4] <;> rfl), rfl⟩)⟩⟩
    ·
      refine V_iconst (-1) d_Rod_forget_20 (by decide) ?_
      exact V_iret rfl d_Rod_forget_21 ⟨(-1), rfl, ⟨hI, f0, (Or.inr ⟨by omega, rfl, tc_m1⟩)⟩⟩
def S_Mod_payX : List (Nat × Option Nat) := [(117, none)]
abbrev q_Mod_payX (h : Hp) (n : Int32) (nZ : Int) (t : Int32) (tZ : Int) : Option Value → Hp → Prop := pInt (fun r h' => Inv h' ∧ fr S_Mod_payX h h' ∧ (Ew h h' (0 ≤ nZ ∧ nZ ≤ tZ) (pI h 117 86 n) t r))
set_option maxRecDepth 100000 in
theorem c_Mod_payX (h : Hp) (hI : Inv h) (n : Int32) (nZ : Int) (nE : n.toInt = nZ) (t : Int32) (tZ : Int) (tE : t.toInt = tZ) (tK : h.1 117 86 = t) : Ct y_Mod_pay b_Mod_pay 2 (some .int) 1 25 [.ref 116, .int n] h (q_Mod_payX h n nZ t tZ) := by
  refine ct_ow R_Mod [some (.ref 116), some (.int n)] rfl (by decide) rfl (Nat.le_of_ble_eq_true rfl) ?_
  have f0 : fr S_Mod_payX h h := fr_rf
  have tB : 0 ≤ tZ ∧ tZ ≤ 8 := inv_at hI tE tK.symm rfl
  refine V_iload_n 1 d_Mod_pay_0 rfl rfl ?_
  refine V_i2l d_Mod_pay_1 (fun z1 z1e z1E => ?_)
  have z1F : z1.toInt = nZ := z1E.trans nE
  refine V_lconst 0 d_Mod_pay_2 (by decide) ?_
  refine V_aload_n 0 d_Mod_pay_3 rfl rfl ?_
  refine V_getR fa_Mod_7 sk_116 rfl d_Mod_pay_4 ?_
  refine V_bipush 86 d_Mod_pay_7 (by decide) ?_
  refine N_ialdK sk_117 tc_86 (by omega) d_Mod_pay_9 tK ?_
  refine V_i2l d_Mod_pay_10 (fun z3 z3e z3E => ?_)
  have z3F : z3.toInt = tZ := z3E.trans tE
  refine N_callSI [.long z1, .long 0, .long z3] [] cs_Mod_95 d_Mod_pay_11 rfl (Nat.le_of_ble_eq_true rfl) (by decide) (by decide) (c_Mod_in h z1 nZ z1F 0 0 tl_0 z3 tZ z3F) (fun z4 h5 z4Z z4E p6 => ?_)
  obtain ⟨eh5, p6⟩ := p6
  subst eh5
  refine V_if_eq 27 z4E d_Mod_pay_14 (by decide) (fun c7 => ?_) (fun c7 => ?_)
  ·
    refine V_iconst (-1) d_Mod_pay_27 (by decide) ?_
    exact V_iret rfl d_Mod_pay_28 ⟨(-1), rfl, ⟨hI, f0, (Or.inr ⟨by omega, rfl, tc_m1⟩)⟩⟩
  ·
    refine V_aload_n 0 d_Mod_pay_17 rfl rfl ?_
    refine V_bipush 86 d_Mod_pay_18 (by decide) ?_
    refine V_iload_n 1 d_Mod_pay_20 rfl rfl ?_
    refine N_callVI [.int 86, .int n] [] cv_Mod_210 sk_116 rfl d_Mod_pay_21 rfl (Nat.le_of_ble_eq_true rfl) (by decide) (by decide) (c_Mod_becomesX h hI 86 86 tc_86 n nZ nE (by omega) (stOk_8 (by omega) (by omega))) (fun z8 h9 z8Z z8E p10 => ?_)
    obtain ⟨hI11, fh9, p10⟩ := p10
    have f12 : fr S_Mod_payX h h9 := fr_call f0 fh9 rfl
    refine V_goto 28 d_Mod_pay_24 (by decide) ?_
    exact V_iret rfl d_Mod_pay_28 ⟨z8, rfl, ⟨hI11, f12, (Or.inl ⟨by omega, p10.1, p10.2.trans tK⟩)⟩⟩
def S_Mod_forgetX : List (Nat × Option Nat) := [(117, none)]
abbrev q_Mod_forgetX (h : Hp) (n : Int32) (nZ : Int) (t : Int32) (tZ : Int) : Option Value → Hp → Prop := pInt (fun r h' => Inv h' ∧ fr S_Mod_forgetX h h' ∧ (Ew h h' (0 ≤ nZ ∧ nZ ≤ tZ) (pI h 117 111 n) t r))
set_option maxRecDepth 100000 in
theorem c_Mod_forgetX (h : Hp) (hI : Inv h) (n : Int32) (nZ : Int) (nE : n.toInt = nZ) (t : Int32) (tZ : Int) (tE : t.toInt = tZ) (tK : h.1 117 111 = t) : Ct y_Mod_forget b_Mod_forget 2 (some .int) 1 25 [.ref 116, .int n] h (q_Mod_forgetX h n nZ t tZ) := by
  refine ct_ow R_Mod [some (.ref 116), some (.int n)] rfl (by decide) rfl (Nat.le_of_ble_eq_true rfl) ?_
  have f0 : fr S_Mod_forgetX h h := fr_rf
  have tB : 0 ≤ tZ ∧ tZ ≤ 8 := inv_at hI tE tK.symm rfl
  refine V_iload_n 1 d_Mod_forget_0 rfl rfl ?_
  refine V_i2l d_Mod_forget_1 (fun z1 z1e z1E => ?_)
  have z1F : z1.toInt = nZ := z1E.trans nE
  refine V_lconst 0 d_Mod_forget_2 (by decide) ?_
  refine V_aload_n 0 d_Mod_forget_3 rfl rfl ?_
  refine V_getR fa_Mod_7 sk_116 rfl d_Mod_forget_4 ?_
  refine V_bipush 111 d_Mod_forget_7 (by decide) ?_
  refine N_ialdK sk_117 tc_111 (by omega) d_Mod_forget_9 tK ?_
  refine V_i2l d_Mod_forget_10 (fun z3 z3e z3E => ?_)
  have z3F : z3.toInt = tZ := z3E.trans tE
  refine N_callSI [.long z1, .long 0, .long z3] [] cs_Mod_95 d_Mod_forget_11 rfl (Nat.le_of_ble_eq_true rfl) (by decide) (by decide) (c_Mod_in h z1 nZ z1F 0 0 tl_0 z3 tZ z3F) (fun z4 h5 z4Z z4E p6 => ?_)
  obtain ⟨eh5, p6⟩ := p6
  subst eh5
  refine V_if_eq 27 z4E d_Mod_forget_14 (by decide) (fun c7 => ?_) (fun c7 => ?_)
  ·
    refine V_iconst (-1) d_Mod_forget_27 (by decide) ?_
    exact V_iret rfl d_Mod_forget_28 ⟨(-1), rfl, ⟨hI, f0, (Or.inr ⟨by omega, rfl, tc_m1⟩)⟩⟩
  ·
    refine V_aload_n 0 d_Mod_forget_17 rfl rfl ?_
    refine V_bipush 111 d_Mod_forget_18 (by decide) ?_
    refine V_iload_n 1 d_Mod_forget_20 rfl rfl ?_
    refine N_callVI [.int 111, .int n] [] cv_Mod_210 sk_116 rfl d_Mod_forget_21 rfl (Nat.le_of_ble_eq_true rfl) (by decide) (by decide) (c_Mod_becomesX h hI 111 111 tc_111 n nZ nE (by omega) (stOk_8 (by omega) (by omega))) (fun z8 h9 z8Z z8E p10 => ?_)
    obtain ⟨hI11, fh9, p10⟩ := p10
    have f12 : fr S_Mod_forgetX h h9 := fr_call f0 fh9 rfl
    refine V_goto 28 d_Mod_forget_24 (by decide) ?_
    exact V_iret rfl d_Mod_forget_28 ⟨z8, rfl, ⟨hI11, f12, (Or.inl ⟨by omega, p10.1, p10.2.trans tK⟩)⟩⟩
def S_Ledger_addDebtX_0 : List (Nat × Option Nat) := [(7, some 4), (9, none), (10, none), (11, none)]
abbrev q_Ledger_addDebtX_0 (h : Hp) (a : Int32) (aZ : Int) (b : Int32) (bZ : Int) (v : Int32) (vZ : Int) (t : Int32) (tZ : Int) : Option Value → Hp → Prop := pVd (fun h' => Inv h' ∧ fr S_Ledger_addDebtX_0 h h' ∧ ∃ (u : Int32) (uZ : Int), u.toInt = uZ ∧ h'.1 7 4 = u ∧ (tZ < 8 ∧ uZ = tZ + 1 ∧ h' = pI (pI (pI (pI h 9 tZ.toNat a) 10 tZ.toNat b) 11 tZ.toNat v) 7 4 u ∨ 8 ≤ tZ ∧ h' = h))
set_option maxRecDepth 100000 in
theorem c_Ledger_addDebtX_0 (h : Hp) (hI : Inv h) (a : Int32) (aZ : Int) (aE : a.toInt = aZ) (b : Int32) (bZ : Int) (bE : b.toInt = bZ) (v : Int32) (vZ : Int) (vE : v.toInt = vZ) (t : Int32) (tZ : Int) (tE : t.toInt = tZ) (tK : h.1 7 4 = t) : Ct y_Ledger_addDebt b_Ledger_addDebt 4 none 0 0 [.ref 7, .int a, .int b, .int v] h (q_Ledger_addDebtX_0 h a aZ b bZ v vZ t tZ) := by
  refine ct_ow R_Ledger [some (.ref 7), some (.int a), some (.int b), some (.int v)] rfl (by decide) rfl (Nat.le_of_ble_eq_true rfl) ?_
  have f0 : fr S_Ledger_addDebtX_0 h h := fr_rf
  have g1 : 0 ≤ tZ ∧ tZ ≤ 8 := inv_at hI tE tK.symm rfl
  refine V_aload_n 0 d_Ledger_addDebt_0 rfl rfl ?_
  refine N_getK fa_Ledger_30 sk_7 rfl d_Ledger_addDebt_1 tK ?_
  refine V_bipush 8 d_Ledger_addDebt_4 (by decide) ?_
  refine V_icmp_ge 49 tE tc_8 d_Ledger_addDebt_6 (by decide) (fun c2 => ?_) (fun c2 => ?_)
  ·
    exact V_vret rfl d_Ledger_addDebt_49 ⟨rfl, ⟨hI, f0, t, tZ, tE, tK, (Or.inr ⟨by omega, rfl⟩)⟩⟩
  ·
    refine V_aload_n 0 d_Ledger_addDebt_9 rfl rfl ?_
    refine V_getR fa_Ledger_15 sk_7 rfl d_Ledger_addDebt_10 ?_
    refine V_aload_n 0 d_Ledger_addDebt_13 rfl rfl ?_
    refine N_getK fa_Ledger_30 sk_7 rfl d_Ledger_addDebt_14 tK ?_
    refine V_iload_n 1 d_Ledger_addDebt_17 rfl rfl ?_
    refine N_iast sk_9 tE (by omega) d_Ledger_addDebt_18 (fun h3 eh3 => ?_)
    have hI4 : Inv h3 := inv_full hI eh3 rfl
    have f5 : fr S_Ledger_addDebtX_0 h h3 := fr_put f0 eh3 rfl
    refine V_aload_n 0 d_Ledger_addDebt_19 rfl rfl ?_
    refine V_getR fa_Ledger_18 sk_7 rfl d_Ledger_addDebt_20 ?_
    refine V_aload_n 0 d_Ledger_addDebt_23 rfl rfl ?_
    refine N_getK fa_Ledger_30 sk_7 rfl d_Ledger_addDebt_24 (kn_ne eh3 tK (by decide)) ?_
    refine V_iload_n 2 d_Ledger_addDebt_27 rfl rfl ?_
    refine N_iast sk_10 tE (by omega) d_Ledger_addDebt_28 (fun h6 eh6 => ?_)
    have hI7 : Inv h6 := inv_full hI4 eh6 rfl
    have f8 : fr S_Ledger_addDebtX_0 h h6 := fr_put f5 eh6 rfl
    refine V_aload_n 0 d_Ledger_addDebt_29 rfl rfl ?_
    refine V_getR fa_Ledger_21 sk_7 rfl d_Ledger_addDebt_30 ?_
    refine V_aload_n 0 d_Ledger_addDebt_33 rfl rfl ?_
    refine N_getK fa_Ledger_30 sk_7 rfl d_Ledger_addDebt_34 (kn_ne eh6 (kn_ne eh3 tK (by decide)) (by decide)) ?_
    refine V_iload_n 3 d_Ledger_addDebt_37 rfl rfl ?_
    refine N_iast sk_11 tE (by omega) d_Ledger_addDebt_38 (fun h9 eh9 => ?_)
    have hI10 : Inv h9 := inv_full hI7 eh9 rfl
    have f11 : fr S_Ledger_addDebtX_0 h h9 := fr_put f8 eh9 rfl
    refine V_aload_n 0 d_Ledger_addDebt_39 rfl rfl ?_
    refine V_dup d_Ledger_addDebt_40 rfl ?_
    refine N_getK fa_Ledger_30 sk_7 rfl d_Ledger_addDebt_41 (kn_ne eh9 (kn_ne eh6 (kn_ne eh3 tK (by decide)) (by decide)) (by decide)) ?_
    refine V_iconst 1 d_Ledger_addDebt_44 (by decide) ?_
    refine V_iadd tE tc_1 (by omega) d_Ledger_addDebt_45 (fun z12 z12e z12E => ?_)
    refine N_putI fp_Ledger_30 sk_7 rfl d_Ledger_addDebt_46 (fun h13 eh13 => ?_)
    have hI14 : Inv h13 := inv_put (lo := 0) (hi := 8) hI10 eh13 rfl z12E (by omega)
    have f15 : fr S_Ledger_addDebtX_0 h h13 := fr_put f11 eh13 rfl
    exact V_vret rfl d_Ledger_addDebt_49 ⟨rfl, ⟨hI14, f15, z12, (tZ + 1), z12E, (kn_put eh13), (Or.inl ⟨by omega, by omega, (by rw [eh13, eh9, eh6, eh3] <;> rfl)⟩)⟩⟩
def S_Rod_oweX : List (Nat × Option Nat) := [(7, some 4), (9, none), (10, none), (11, none)]
abbrev q_Rod_oweX (h : Hp) (a : Int32) (aZ : Int) (b : Int32) (bZ : Int) (v : Int32) (vZ : Int) (t : Int32) (tZ : Int) : Option Value → Hp → Prop := pInt (fun r h' => Inv h' ∧ fr S_Rod_oweX h h' ∧ ((0 ≤ aZ ∧ aZ ≤ 3 ∧ 0 ≤ bZ ∧ bZ ≤ 3 ∧ aZ ≠ bZ ∧ 1 ≤ vZ ∧ vZ ≤ 99) ∧ tZ < 8 ∧ (∃ u : Int32, u.toInt = tZ + 1 ∧ h' = pI (pI (pI (pI h 9 tZ.toNat a) 10 tZ.toNat b) 11 tZ.toNat v) 7 4 u ∧ r = u) ∨ (0 ≤ aZ ∧ aZ ≤ 3 ∧ 0 ≤ bZ ∧ bZ ≤ 3 ∧ aZ ≠ bZ ∧ 1 ≤ vZ ∧ vZ ≤ 99) ∧ 8 ≤ tZ ∧ h' = h ∧ r.toInt = -3 ∨ ¬ (0 ≤ aZ ∧ aZ ≤ 3 ∧ 0 ≤ bZ ∧ bZ ≤ 3 ∧ aZ ≠ bZ ∧ 1 ≤ vZ ∧ vZ ≤ 99) ∧ h' = h ∧ r.toInt = -1))
set_option maxRecDepth 100000 in
theorem c_Rod_oweX (h : Hp) (hI : Inv h) (a : Int32) (aZ : Int) (aE : a.toInt = aZ) (b : Int32) (bZ : Int) (bE : b.toInt = bZ) (v : Int32) (vZ : Int) (vE : v.toInt = vZ) (t : Int32) (tZ : Int) (tE : t.toInt = tZ) (tK : h.1 7 4 = t) : Ct y_Rod_owe b_Rod_owe 4 (some .int) 1 23 [.ref 85, .int a, .int b, .int v] h (q_Rod_oweX h a aZ b bZ v vZ t tZ) := by
  refine ct_ow R_Rod [some (.ref 85), some (.int a), some (.int b), some (.int v)] rfl (by decide) rfl (Nat.le_of_ble_eq_true rfl) ?_
  have f0 : fr S_Rod_oweX h h := fr_rf
  have g1 : 0 ≤ tZ ∧ tZ ≤ 8 := inv_at hI tE tK.symm rfl
  refine V_iload_n 1 d_Rod_owe_0 rfl rfl ?_
  refine N_callSI [.int a] [] cs_Rod_151 d_Rod_owe_1 rfl (Nat.le_of_ble_eq_true rfl) (by decide) (by decide) (c_Rod_isOwner h a aZ aE) (fun z2 h3 z2Z z2E p4 => ?_)
  obtain ⟨eh3, p4⟩ := p4
  subst eh3
  refine V_if_eq 30 z2E d_Rod_owe_4 (by decide) (fun c5 => ?_) (fun c5 => ?_)
  ·
    refine V_iconst (-1) d_Rod_owe_30 (by decide) ?_
    exact V_iret rfl d_Rod_owe_31 ⟨(-1), rfl, ⟨hI, f0, (Or.inr (Or.inr ⟨by omega, rfl, tc_m1⟩))⟩⟩
  ·
    refine V_iload_n 2 d_Rod_owe_7 rfl rfl ?_
    refine N_callSI [.int b] [] cs_Rod_151 d_Rod_owe_8 rfl (Nat.le_of_ble_eq_true rfl) (by decide) (by decide) (c_Rod_isOwner h b bZ bE) (fun z6 h7 z6Z z6E p8 => ?_)
    obtain ⟨eh7, p8⟩ := p8
    subst eh7
    refine V_if_eq 30 z6E d_Rod_owe_11 (by decide) (fun c9 => ?_) (fun c9 => ?_)
    ·
      refine V_iconst (-1) d_Rod_owe_30 (by decide) ?_
      exact V_iret rfl d_Rod_owe_31 ⟨(-1), rfl, ⟨hI, f0, (Or.inr (Or.inr ⟨by omega, rfl, tc_m1⟩))⟩⟩
    ·
      refine V_iload_n 1 d_Rod_owe_14 rfl rfl ?_
      refine V_iload_n 2 d_Rod_owe_15 rfl rfl ?_
      refine V_icmp_eq 30 aE bE d_Rod_owe_16 (by decide) (fun c10 => ?_) (fun c10 => ?_)
      ·
        refine V_iconst (-1) d_Rod_owe_30 (by decide) ?_
        exact V_iret rfl d_Rod_owe_31 ⟨(-1), rfl, ⟨hI, f0, (Or.inr (Or.inr ⟨by omega, rfl, tc_m1⟩))⟩⟩
      ·
        refine V_iload_n 3 d_Rod_owe_19 rfl rfl ?_
        refine V_iconst 1 d_Rod_owe_20 (by decide) ?_
        refine V_icmp_lt 30 vE tc_1 d_Rod_owe_21 (by decide) (fun c11 => ?_) (fun c11 => ?_)
        ·
          refine V_iconst (-1) d_Rod_owe_30 (by decide) ?_
          exact V_iret rfl d_Rod_owe_31 ⟨(-1), rfl, ⟨hI, f0, (Or.inr (Or.inr ⟨by omega, rfl, tc_m1⟩))⟩⟩
        ·
          refine V_iload_n 3 d_Rod_owe_24 rfl rfl ?_
          refine V_bipush 99 d_Rod_owe_25 (by decide) ?_
          refine V_icmp_le 32 vE tc_99 d_Rod_owe_27 (by decide) (fun c12 => ?_) (fun c12 => ?_)
          ·
            refine V_aload_n 0 d_Rod_owe_32 rfl rfl ?_
            refine V_getR fa_Rod_12 sk_85 rfl d_Rod_owe_33 ?_
            refine V_getR fa_Rod_115 sk_0 rfl d_Rod_owe_36 ?_
            refine N_getK fa_Rod_119 sk_7 rfl d_Rod_owe_39 tK ?_
            refine V_bipush 8 d_Rod_owe_42 (by decide) ?_
            refine V_icmp_lt 50 tE tc_8 d_Rod_owe_44 (by decide) (fun c13 => ?_) (fun c13 => ?_)
            ·
              refine V_aload_n 0 d_Rod_owe_50 rfl rfl ?_
              refine V_getR fa_Rod_12 sk_85 rfl d_Rod_owe_51 ?_
              refine V_getR fa_Rod_115 sk_0 rfl d_Rod_owe_54 ?_
              refine V_iload_n 1 d_Rod_owe_57 rfl rfl ?_
              refine V_iload_n 2 d_Rod_owe_58 rfl rfl ?_
              refine V_iload_n 3 d_Rod_owe_59 rfl rfl ?_
              refine N_callVV [.int a, .int b, .int v] [] cv_Rod_160 sk_7 rfl d_Rod_owe_60 rfl (Nat.le_of_ble_eq_true rfl) (by decide) (by decide) (c_Ledger_addDebtX_0 h hI a aZ aE b bZ bE v vZ vE t tZ tE tK) (fun h15 p16 => ?_)
              obtain ⟨hI17, fh15, o19, o19Z, o19E, o19K, p16⟩ := p16
              have f18 : fr S_Rod_oweX h h15 := fr_call f0 fh15 rfl
              have g20 : 0 ≤ o19Z ∧ o19Z ≤ 8 := inv_at hI17 o19E o19K.symm rfl
              refine V_aload_n 0 d_Rod_owe_63 rfl rfl ?_
              refine V_getR fa_Rod_12 sk_85 rfl d_Rod_owe_64 ?_
              refine V_getR fa_Rod_115 sk_0 rfl d_Rod_owe_67 ?_
              refine N_getK fa_Rod_119 sk_7 rfl d_Rod_owe_70 o19K ?_
              exact V_iret rfl d_Rod_owe_73 ⟨o19, rfl, ⟨hI17, f18, (Or.inl ⟨by omega, by omega, o19, by rw [o19E]; omega, (p16.resolve_right (fun q => absurd q.1 (by omega))).2.2, rfl⟩)⟩⟩
            ·
              refine V_bipush (-3) d_Rod_owe_47 (by decide) ?_
              exact V_iret rfl d_Rod_owe_49 ⟨(-3), rfl, ⟨hI, f0, (Or.inr (Or.inl ⟨by omega, by omega, rfl, tc_m3⟩))⟩⟩
          ·
            refine V_iconst (-1) d_Rod_owe_30 (by decide) ?_
            exact V_iret rfl d_Rod_owe_31 ⟨(-1), rfl, ⟨hI, f0, (Or.inr (Or.inr ⟨by omega, rfl, tc_m1⟩))⟩⟩
def S_Mod_oweX : List (Nat × Option Nat) := [(117, none)]
abbrev q_Mod_oweX (h : Hp) (a : Int32) (aZ : Int) (b : Int32) (bZ : Int) (v : Int32) (vZ : Int) (t : Int32) (tZ : Int) : Option Value → Hp → Prop := pInt (fun r h' => Inv h' ∧ fr S_Mod_oweX h h' ∧ ((0 ≤ aZ ∧ aZ ≤ 3 ∧ 0 ≤ bZ ∧ bZ ≤ 3 ∧ aZ ≠ bZ ∧ 1 ≤ vZ ∧ vZ ≤ 99) ∧ tZ < 8 ∧ (∃ u : Int32, u.toInt = tZ + 1 ∧ h' = pI (pI (pI (pI h 117 (87 + 3 * tZ).toNat a) 117 (87 + 3 * tZ + 1).toNat b) 117 (87 + 3 * tZ + 2).toNat v) 117 86 u ∧ r = u) ∨ (0 ≤ aZ ∧ aZ ≤ 3 ∧ 0 ≤ bZ ∧ bZ ≤ 3 ∧ aZ ≠ bZ ∧ 1 ≤ vZ ∧ vZ ≤ 99) ∧ 8 ≤ tZ ∧ h' = h ∧ r.toInt = -3 ∨ ¬ (0 ≤ aZ ∧ aZ ≤ 3 ∧ 0 ≤ bZ ∧ bZ ≤ 3 ∧ aZ ≠ bZ ∧ 1 ≤ vZ ∧ vZ ≤ 99) ∧ h' = h ∧ r.toInt = -1))
set_option maxRecDepth 100000 in
theorem c_Mod_oweX (h : Hp) (hI : Inv h) (a : Int32) (aZ : Int) (aE : a.toInt = aZ) (b : Int32) (bZ : Int) (bE : b.toInt = bZ) (v : Int32) (vZ : Int) (vE : v.toInt = vZ) (t : Int32) (tZ : Int) (tE : t.toInt = tZ) (tK : h.1 117 86 = t) : Ct y_Mod_owe b_Mod_owe 5 (some .int) 2 45 [.ref 116, .int a, .int b, .int v] h (q_Mod_oweX h a aZ b bZ v vZ t tZ) := by
  refine ct_ow R_Mod [some (.ref 116), some (.int a), some (.int b), some (.int v), none] rfl (by decide) rfl (Nat.le_of_ble_eq_true rfl) ?_
  have f0 : fr S_Mod_oweX h h := fr_rf
  have tB : 0 ≤ tZ ∧ tZ ≤ 8 := inv_at hI tE tK.symm rfl
  refine V_iload_n 1 d_Mod_owe_0 rfl rfl ?_
  refine N_callSI [.int a] [] cs_Mod_205 d_Mod_owe_1 rfl (Nat.le_of_ble_eq_true rfl) (by decide) (by decide) (c_Mod_isOwner h a aZ aE) (fun z1 h2 z1Z z1E p3 => ?_)
  obtain ⟨eh2, p3⟩ := p3
  subst eh2
  refine V_if_eq 31 z1E d_Mod_owe_4 (by decide) (fun c4 => ?_) (fun c4 => ?_)
  ·
    refine V_iconst (-1) d_Mod_owe_31 (by decide) ?_
    exact V_iret rfl d_Mod_owe_32 ⟨(-1), rfl, ⟨hI, f0, (Or.inr (Or.inr ⟨by omega, rfl, tc_m1⟩))⟩⟩
  ·
    refine V_iload_n 2 d_Mod_owe_7 rfl rfl ?_
    refine N_callSI [.int b] [] cs_Mod_205 d_Mod_owe_8 rfl (Nat.le_of_ble_eq_true rfl) (by decide) (by decide) (c_Mod_isOwner h b bZ bE) (fun z5 h6 z5Z z5E p7 => ?_)
    obtain ⟨eh6, p7⟩ := p7
    subst eh6
    refine V_if_eq 31 z5E d_Mod_owe_11 (by decide) (fun c8 => ?_) (fun c8 => ?_)
    ·
      refine V_iconst (-1) d_Mod_owe_31 (by decide) ?_
      exact V_iret rfl d_Mod_owe_32 ⟨(-1), rfl, ⟨hI, f0, (Or.inr (Or.inr ⟨by omega, rfl, tc_m1⟩))⟩⟩
    ·
      refine V_iload_n 1 d_Mod_owe_14 rfl rfl ?_
      refine V_iload_n 2 d_Mod_owe_15 rfl rfl ?_
      refine V_icmp_eq 31 aE bE d_Mod_owe_16 (by decide) (fun c9 => ?_) (fun c9 => ?_)
      ·
        refine V_iconst (-1) d_Mod_owe_31 (by decide) ?_
        exact V_iret rfl d_Mod_owe_32 ⟨(-1), rfl, ⟨hI, f0, (Or.inr (Or.inr ⟨by omega, rfl, tc_m1⟩))⟩⟩
      ·
        refine V_iload_n 3 d_Mod_owe_19 rfl rfl ?_
        refine V_i2l d_Mod_owe_20 (fun z10 z10e z10E => ?_)
        have z10F : z10.toInt = vZ := z10E.trans vE
        refine V_lconst 1 d_Mod_owe_21 (by decide) ?_
        refine V_ldc2 d_Mod_owe_22 wl_Mod_219 ?_
        refine N_callSI [.long z10, .long 1, .long 99] [] cs_Mod_95 d_Mod_owe_25 rfl (Nat.le_of_ble_eq_true rfl) (by decide) (by decide) (c_Mod_in h z10 vZ z10F 1 1 tl_1 99 99 tl_99) (fun z11 h12 z11Z z11E p13 => ?_)
        obtain ⟨eh12, p13⟩ := p13
        subst eh12
        refine V_if_ne 33 z11E d_Mod_owe_28 (by decide) (fun c14 => ?_) (fun c14 => ?_)
        ·
          refine V_aload_n 0 d_Mod_owe_33 rfl rfl ?_
          refine V_getR fa_Mod_7 sk_116 rfl d_Mod_owe_34 ?_
          refine V_bipush 86 d_Mod_owe_37 (by decide) ?_
          refine N_ialdK sk_117 tc_86 (by omega) d_Mod_owe_39 tK ?_
          refine V_bipush 8 d_Mod_owe_40 (by decide) ?_
          refine V_icmp_ne 48 tE tc_8 d_Mod_owe_42 (by decide) (fun c16 => ?_) (fun c16 => ?_)
          ·
            refine V_bipush 87 d_Mod_owe_48 (by decide) ?_
            refine V_iconst 3 d_Mod_owe_50 (by decide) ?_
            refine V_aload_n 0 d_Mod_owe_51 rfl rfl ?_
            refine V_getR fa_Mod_7 sk_116 rfl d_Mod_owe_52 ?_
            refine V_bipush 86 d_Mod_owe_55 (by decide) ?_
            refine N_ialdK sk_117 tc_86 (by omega) d_Mod_owe_57 tK ?_
            refine V_imul tc_3 tE (by omega) d_Mod_owe_58 (fun z18 z18e z18E => ?_)
            refine V_iadd tc_87 z18E (by omega) d_Mod_owe_59 (fun z19 z19e z19E => ?_)
            refine V_istore 4 [some (.ref 116), some (.int a), some (.int b), some (.int v), some (.int z19)] d_Mod_owe_60 (by decide) rfl rfl ?_
            refine V_aload_n 0 d_Mod_owe_62 rfl rfl ?_
            refine V_getR fa_Mod_7 sk_116 rfl d_Mod_owe_63 ?_
            refine V_iload d_Mod_owe_66 rfl ?_
            refine V_iload_n 1 d_Mod_owe_68 rfl rfl ?_
            refine N_iast sk_117 z19E (by omega) d_Mod_owe_69 (fun h20 eh20 => ?_)
            have hI21 : Inv h20 := inv_put hI eh20 (st_a (by omega)) aE (by omega)
            have f22 : fr S_Mod_oweX h h20 := fr_put f0 eh20 rfl
            refine V_aload_n 0 d_Mod_owe_70 rfl rfl ?_
            refine V_getR fa_Mod_7 sk_116 rfl d_Mod_owe_71 ?_
            refine V_iload d_Mod_owe_74 rfl ?_
            refine V_iconst 1 d_Mod_owe_76 (by decide) ?_
            refine V_iadd z19E tc_1 (by omega) d_Mod_owe_77 (fun z23 z23e z23E => ?_)
            refine V_iload_n 2 d_Mod_owe_78 rfl rfl ?_
            refine N_iast sk_117 z23E (by omega) d_Mod_owe_79 (fun h24 eh24 => ?_)
            have hI25 : Inv h24 := inv_put hI21 eh24 (st_a (by omega)) bE (by omega)
            have f26 : fr S_Mod_oweX h h24 := fr_put f22 eh24 rfl
            refine V_aload_n 0 d_Mod_owe_80 rfl rfl ?_
            refine V_getR fa_Mod_7 sk_116 rfl d_Mod_owe_81 ?_
            refine V_iload d_Mod_owe_84 rfl ?_
            refine V_iconst 2 d_Mod_owe_86 (by decide) ?_
            refine V_iadd z19E tc_2 (by omega) d_Mod_owe_87 (fun z27 z27e z27E => ?_)
            refine V_iload_n 3 d_Mod_owe_88 rfl rfl ?_
            refine N_iast sk_117 z27E (by omega) d_Mod_owe_89 (fun h28 eh28 => ?_)
            have hI29 : Inv h28 := inv_full hI25 eh28 (st_b (by omega))
            have f30 : fr S_Mod_oweX h h28 := fr_put f26 eh28 rfl
            refine V_aload_n 0 d_Mod_owe_90 rfl rfl ?_
            refine V_getR fa_Mod_7 sk_116 rfl d_Mod_owe_91 ?_
            refine V_bipush 86 d_Mod_owe_94 (by decide) ?_
            refine V_dup2 d_Mod_owe_96 rfl rfl ?_
            refine N_ialdK sk_117 tc_86 (by omega) d_Mod_owe_97 (kn_nei eh28 (kn_nei eh24 (kn_nei eh20 tK (by omega)) (by omega)) (by omega)) ?_
            refine V_iconst 1 d_Mod_owe_98 (by decide) ?_
            refine V_iadd tE tc_1 (by omega) d_Mod_owe_99 (fun z32 z32e z32E => ?_)
            refine N_iast sk_117 tc_86 (by omega) d_Mod_owe_100 (fun h33 eh33 => ?_)
            have hI34 : Inv h33 := inv_put (lo := 0) (hi := 8) hI29 eh33 rfl z32E (by omega)
            have f35 : fr S_Mod_oweX h h33 := fr_put f30 eh33 rfl
            refine V_aload_n 0 d_Mod_owe_101 rfl rfl ?_
            refine V_getR fa_Mod_7 sk_116 rfl d_Mod_owe_102 ?_
            refine V_bipush 86 d_Mod_owe_105 (by decide) ?_
            refine N_ialdK sk_117 tc_86 (by omega) d_Mod_owe_107 (kn_put eh33) ?_
            exact V_iret rfl d_Mod_owe_108 ⟨z32, rfl, ⟨hI34, f35, (Or.inl ⟨by omega, by omega, z32, by rw [z32E], (by rw [eh33, eh28, eh24, eh20] <;> rfl), rfl⟩)⟩⟩
          ·
            refine V_bipush (-3) d_Mod_owe_45 (by decide) ?_
            exact V_iret rfl d_Mod_owe_47 ⟨(-3), rfl, ⟨hI, f0, (Or.inr (Or.inl ⟨by omega, by omega, rfl, tc_m3⟩))⟩⟩
        ·
          refine V_iconst (-1) d_Mod_owe_31 (by decide) ?_
          exact V_iret rfl d_Mod_owe_32 ⟨(-1), rfl, ⟨hI, f0, (Or.inr (Or.inr ⟨by omega, rfl, tc_m1⟩))⟩⟩
def S_Sights_addX_0 : List (Nat × Option Nat) := [(12, some 4), (13, none), (14, none), (15, none), (16, none)]
abbrev q_Sights_addX_0 (h : Hp) (c : Int32) (cZ : Int) (o : Int32) (oZ : Int) (s : Int32) (sZ : Int) (b : Int32) (bZ : Int) (t : Int32) (tZ : Int) : Option Value → Hp → Prop := pVd (fun h' => Inv h' ∧ fr S_Sights_addX_0 h h' ∧ ∃ (u : Int32) (uZ : Int), u.toInt = uZ ∧ h'.1 12 4 = u ∧ (tZ < 8 ∧ uZ = tZ + 1 ∧ h' = pI (pI (pI (pI (pI h 13 tZ.toNat c) 14 tZ.toNat o) 15 tZ.toNat s) 16 tZ.toNat b) 12 4 u ∨ 8 ≤ tZ ∧ h' = h))
set_option maxRecDepth 100000 in
theorem c_Sights_addX_0 (h : Hp) (hI : Inv h) (c : Int32) (cZ : Int) (cE : c.toInt = cZ) (o : Int32) (oZ : Int) (oE : o.toInt = oZ) (s : Int32) (sZ : Int) (sE : s.toInt = sZ) (b : Int32) (bZ : Int) (bE : b.toInt = bZ) (t : Int32) (tZ : Int) (tE : t.toInt = tZ) (tK : h.1 12 4 = t) (hy0 : 0 ≤ cZ ∧ cZ ≤ 15) : Ct y_Sights_add b_Sights_add 5 none 0 0 [.ref 12, .int c, .int o, .int s, .int b] h (q_Sights_addX_0 h c cZ o oZ s sZ b bZ t tZ) := by
  refine ct_ow R_Sights [some (.ref 12), some (.int c), some (.int o), some (.int s), some (.int b)] rfl (by decide) rfl (Nat.le_of_ble_eq_true rfl) ?_
  have f0 : fr S_Sights_addX_0 h h := fr_rf
  have g1 : 0 ≤ tZ ∧ tZ ≤ 8 := inv_at hI tE tK.symm rfl
  refine V_aload_n 0 d_Sights_add_0 rfl rfl ?_
  refine N_getK fa_Sights_30 sk_12 rfl d_Sights_add_1 tK ?_
  refine V_bipush 8 d_Sights_add_4 (by decide) ?_
  refine V_icmp_ge 60 tE tc_8 d_Sights_add_6 (by decide) (fun c2 => ?_) (fun c2 => ?_)
  ·
    exact V_vret rfl d_Sights_add_60 ⟨rfl, ⟨hI, f0, t, tZ, tE, tK, (Or.inr ⟨by omega, rfl⟩)⟩⟩
  ·
    refine V_aload_n 0 d_Sights_add_9 rfl rfl ?_
    refine V_getR fa_Sights_9 sk_12 rfl d_Sights_add_10 ?_
    refine V_aload_n 0 d_Sights_add_13 rfl rfl ?_
    refine N_getK fa_Sights_30 sk_12 rfl d_Sights_add_14 tK ?_
    refine V_iload_n 1 d_Sights_add_17 rfl rfl ?_
    refine N_iast sk_13 tE (by omega) d_Sights_add_18 (fun h3 eh3 => ?_)
    have hI4 : Inv h3 := inv_put (lo := 0) (hi := 15) hI eh3 rfl cE (by omega)
    have f5 : fr S_Sights_addX_0 h h3 := fr_put f0 eh3 rfl
    refine V_aload_n 0 d_Sights_add_19 rfl rfl ?_
    refine V_getR fa_Sights_15 sk_12 rfl d_Sights_add_20 ?_
    refine V_aload_n 0 d_Sights_add_23 rfl rfl ?_
    refine N_getK fa_Sights_30 sk_12 rfl d_Sights_add_24 (kn_ne eh3 tK (by decide)) ?_
    refine V_iload_n 2 d_Sights_add_27 rfl rfl ?_
    refine N_iast sk_14 tE (by omega) d_Sights_add_28 (fun h6 eh6 => ?_)
    have hI7 : Inv h6 := inv_full hI4 eh6 rfl
    have f8 : fr S_Sights_addX_0 h h6 := fr_put f5 eh6 rfl
    refine V_aload_n 0 d_Sights_add_29 rfl rfl ?_
    refine V_getR fa_Sights_18 sk_12 rfl d_Sights_add_30 ?_
    refine V_aload_n 0 d_Sights_add_33 rfl rfl ?_
    refine N_getK fa_Sights_30 sk_12 rfl d_Sights_add_34 (kn_ne eh6 (kn_ne eh3 tK (by decide)) (by decide)) ?_
    refine V_iload_n 3 d_Sights_add_37 rfl rfl ?_
    refine N_iast sk_15 tE (by omega) d_Sights_add_38 (fun h9 eh9 => ?_)
    have hI10 : Inv h9 := inv_full hI7 eh9 rfl
    have f11 : fr S_Sights_addX_0 h h9 := fr_put f8 eh9 rfl
    refine V_aload_n 0 d_Sights_add_39 rfl rfl ?_
    refine V_getR fa_Sights_21 sk_12 rfl d_Sights_add_40 ?_
    refine V_aload_n 0 d_Sights_add_43 rfl rfl ?_
    refine N_getK fa_Sights_30 sk_12 rfl d_Sights_add_44 (kn_ne eh9 (kn_ne eh6 (kn_ne eh3 tK (by decide)) (by decide)) (by decide)) ?_
    refine V_iload d_Sights_add_47 rfl ?_
    refine N_iast sk_16 tE (by omega) d_Sights_add_49 (fun h12 eh12 => ?_)
    have hI13 : Inv h12 := inv_full hI10 eh12 rfl
    have f14 : fr S_Sights_addX_0 h h12 := fr_put f11 eh12 rfl
    refine V_aload_n 0 d_Sights_add_50 rfl rfl ?_
    refine V_dup d_Sights_add_51 rfl ?_
    refine N_getK fa_Sights_30 sk_12 rfl d_Sights_add_52 (kn_ne eh12 (kn_ne eh9 (kn_ne eh6 (kn_ne eh3 tK (by decide)) (by decide)) (by decide)) (by decide)) ?_
    refine V_iconst 1 d_Sights_add_55 (by decide) ?_
    refine V_iadd tE tc_1 (by omega) d_Sights_add_56 (fun z15 z15e z15E => ?_)
    refine N_putI fp_Sights_30 sk_12 rfl d_Sights_add_57 (fun h16 eh16 => ?_)
    have hI17 : Inv h16 := inv_put (lo := 0) (hi := 8) hI13 eh16 rfl z15E (by omega)
    have f18 : fr S_Sights_addX_0 h h16 := fr_put f14 eh16 rfl
    exact V_vret rfl d_Sights_add_60 ⟨rfl, ⟨hI17, f18, z15, (tZ + 1), z15E, (kn_put eh16), (Or.inl ⟨by omega, by omega, (by rw [eh16, eh12, eh9, eh6, eh3] <;> rfl)⟩)⟩⟩
def S_Rod_seeX : List (Nat × Option Nat) := [(12, some 4), (13, none), (14, none), (15, none), (16, none)]
abbrev q_Rod_seeX (h : Hp) (c : Int32) (cZ : Int) (o : Int32) (oZ : Int) (s : Int32) (sZ : Int) (b : Int32) (bZ : Int) (w : Int32) (wZ : Int) (g : Int32) (gZ : Int) (t : Int32) (tZ : Int) : Option Value → Hp → Prop := pInt (fun r h' => Inv h' ∧ fr S_Rod_seeX h h' ∧ ((0 ≤ cZ ∧ cZ < wZ * gZ ∧ 0 ≤ oZ ∧ oZ ≤ 3 ∧ 1 ≤ sZ ∧ sZ ≤ 9) ∧ tZ < 8 ∧ (∃ u x : Int32, u.toInt = tZ + 1 ∧ (bZ ≠ 0 ∧ x.toInt = 1 ∨ bZ = 0 ∧ x.toInt = 0) ∧ h' = pI (pI (pI (pI (pI h 13 tZ.toNat c) 14 tZ.toNat o) 15 tZ.toNat s) 16 tZ.toNat x) 12 4 u ∧ r = u) ∨ (0 ≤ cZ ∧ cZ < wZ * gZ ∧ 0 ≤ oZ ∧ oZ ≤ 3 ∧ 1 ≤ sZ ∧ sZ ≤ 9) ∧ 8 ≤ tZ ∧ h' = h ∧ r.toInt = -3 ∨ ¬ (0 ≤ cZ ∧ cZ < wZ * gZ ∧ 0 ≤ oZ ∧ oZ ≤ 3 ∧ 1 ≤ sZ ∧ sZ ≤ 9) ∧ h' = h ∧ r.toInt = -1))
set_option maxRecDepth 100000 in
theorem c_Rod_seeX (h : Hp) (hI : Inv h) (c : Int32) (cZ : Int) (cE : c.toInt = cZ) (o : Int32) (oZ : Int) (oE : o.toInt = oZ) (s : Int32) (sZ : Int) (sE : s.toInt = sZ) (b : Int32) (bZ : Int) (bE : b.toInt = bZ) (w : Int32) (wZ : Int) (wE : w.toInt = wZ) (wK : h.1 1 0 = w) (g : Int32) (gZ : Int) (gE : g.toInt = gZ) (gK : h.1 1 1 = g) (t : Int32) (tZ : Int) (tE : t.toInt = tZ) (tK : h.1 12 4 = t) : Ct y_Rod_see b_Rod_see 5 (some .int) 3 64 [.ref 85, .int c, .int o, .int s, .int b] h (q_Rod_seeX h c cZ o oZ s sZ b bZ w wZ g gZ t tZ) := by
  refine ct_ow R_Rod [some (.ref 85), some (.int c), some (.int o), some (.int s), some (.int b)] rfl (by decide) rfl (Nat.le_of_ble_eq_true rfl) ?_
  have f0 : fr S_Rod_seeX h h := fr_rf
  have g1 : 2 ≤ wZ ∧ wZ ≤ 4 := inv_at hI wE wK.symm rfl
  have g2 : 2 ≤ gZ ∧ gZ ≤ 4 := inv_at hI gE gK.symm rfl
  have g3 : 0 ≤ tZ ∧ tZ ≤ 8 := inv_at hI tE tK.symm rfl
  refine V_aload_n 0 d_Rod_see_0 rfl rfl ?_
  refine V_iload_n 1 d_Rod_see_1 rfl rfl ?_
  refine V_iload_n 2 d_Rod_see_2 rfl rfl ?_
  refine V_iload_n 3 d_Rod_see_3 rfl rfl ?_
  refine N_callVI [.int c, .int o, .int s] [] cv_Rod_171 sk_85 rfl d_Rod_see_4 rfl (Nat.le_of_ble_eq_true rfl) (by decide) (by decide) (c_Rod_isSightX h hI c cZ cE o oZ oE s sZ sE w wZ wE wK g gZ gE gK) (fun z4 h5 z4Z z4E p6 => ?_)
  obtain ⟨eh5, p6⟩ := p6
  subst eh5
  refine V_if_ne 12 z4E d_Rod_see_7 (by decide) (fun c7 => ?_) (fun c7 => ?_)
  ·
    refine V_aload_n 0 d_Rod_see_12 rfl rfl ?_
    refine V_getR fa_Rod_12 sk_85 rfl d_Rod_see_13 ?_
    refine V_getR fa_Rod_178 sk_0 rfl d_Rod_see_16 ?_
    refine N_getK fa_Rod_182 sk_12 rfl d_Rod_see_19 tK ?_
    refine V_bipush 8 d_Rod_see_22 (by decide) ?_
    refine V_icmp_lt 30 tE tc_8 d_Rod_see_24 (by decide) (fun c8 => ?_) (fun c8 => ?_)
    ·
      refine V_aload_n 0 d_Rod_see_30 rfl rfl ?_
      refine V_getR fa_Rod_12 sk_85 rfl d_Rod_see_31 ?_
      refine V_getR fa_Rod_178 sk_0 rfl d_Rod_see_34 ?_
      refine V_iload_n 1 d_Rod_see_37 rfl rfl ?_
      refine V_iload_n 2 d_Rod_see_38 rfl rfl ?_
      refine V_iload_n 3 d_Rod_see_39 rfl rfl ?_
      refine V_iload d_Rod_see_40 rfl ?_
      refine N_callSI [.int b] [.int s, .int o, .int c, .ref 12] cs_Rod_147 d_Rod_see_42 rfl (Nat.le_of_ble_eq_true rfl) (by decide) (by decide) (c_Rod_oneIf h b bZ bE) (fun z9 h10 z9Z z9E p11 => ?_)
      obtain ⟨eh10, p11⟩ := p11
      subst eh10
      refine N_callVV [.int c, .int o, .int s, .int z9] [] cv_Rod_185 sk_12 rfl d_Rod_see_45 rfl (Nat.le_of_ble_eq_true rfl) (by decide) (by decide) (c_Sights_addX_0 h hI c cZ cE o oZ oE s sZ sE z9 z9Z z9E t tZ tE tK (by omega)) (fun h13 p14 => ?_)
      obtain ⟨hI15, fh13, o17, o17Z, o17E, o17K, p14⟩ := p14
      have f16 : fr S_Rod_seeX h h13 := fr_call f0 fh13 rfl
      have g18 : 0 ≤ o17Z ∧ o17Z ≤ 8 := inv_at hI15 o17E o17K.symm rfl
      refine V_aload_n 0 d_Rod_see_48 rfl rfl ?_
      refine V_getR fa_Rod_12 sk_85 rfl d_Rod_see_49 ?_
      refine V_getR fa_Rod_178 sk_0 rfl d_Rod_see_52 ?_
      refine N_getK fa_Rod_182 sk_12 rfl d_Rod_see_55 o17K ?_
      exact V_iret rfl d_Rod_see_58 ⟨o17, rfl, ⟨hI15, f16, (Or.inl ⟨by omega, by omega, o17, z9, by rw [o17E]; omega, p11, (p14.resolve_right (fun q => absurd q.1 (by omega))).2.2, rfl⟩)⟩⟩
    ·
      refine V_bipush (-3) d_Rod_see_27 (by decide) ?_
      exact V_iret rfl d_Rod_see_29 ⟨(-3), rfl, ⟨hI, f0, (Or.inr (Or.inl ⟨by omega, by omega, rfl, tc_m3⟩))⟩⟩
  ·
    refine V_iconst (-1) d_Rod_see_10 (by decide) ?_
    exact V_iret rfl d_Rod_see_11 ⟨(-1), rfl, ⟨hI, f0, (Or.inr (Or.inr ⟨by omega, rfl, tc_m1⟩))⟩⟩
def S_Mod_seeX : List (Nat × Option Nat) := [(117, none)]
abbrev q_Mod_seeX (h : Hp) (c : Int32) (cZ : Int) (o : Int32) (oZ : Int) (s : Int32) (sZ : Int) (b : Int32) (bZ : Int) (w : Int32) (wZ : Int) (g : Int32) (gZ : Int) (t : Int32) (tZ : Int) : Option Value → Hp → Prop := pInt (fun r h' => Inv h' ∧ fr S_Mod_seeX h h' ∧ ((0 ≤ cZ ∧ cZ < wZ * gZ ∧ 0 ≤ oZ ∧ oZ ≤ 3 ∧ 1 ≤ sZ ∧ sZ ≤ 9) ∧ tZ < 8 ∧ (∃ u x : Int32, u.toInt = tZ + 1 ∧ (bZ ≠ 0 ∧ x.toInt = 1 ∨ bZ = 0 ∧ x.toInt = 0) ∧ h' = pI (pI (pI (pI (pI h 117 (112 + 4 * tZ).toNat c) 117 (112 + 4 * tZ + 1).toNat o) 117 (112 + 4 * tZ + 2).toNat s) 117 (112 + 4 * tZ + 3).toNat x) 117 111 u ∧ r = u) ∨ (0 ≤ cZ ∧ cZ < wZ * gZ ∧ 0 ≤ oZ ∧ oZ ≤ 3 ∧ 1 ≤ sZ ∧ sZ ≤ 9) ∧ 8 ≤ tZ ∧ h' = h ∧ r.toInt = -3 ∨ ¬ (0 ≤ cZ ∧ cZ < wZ * gZ ∧ 0 ≤ oZ ∧ oZ ≤ 3 ∧ 1 ≤ sZ ∧ sZ ≤ 9) ∧ h' = h ∧ r.toInt = -1))
set_option maxRecDepth 100000 in
theorem c_Mod_seeX (h : Hp) (hI : Inv h) (c : Int32) (cZ : Int) (cE : c.toInt = cZ) (o : Int32) (oZ : Int) (oE : o.toInt = oZ) (s : Int32) (sZ : Int) (sE : s.toInt = sZ) (b : Int32) (bZ : Int) (bE : b.toInt = bZ) (w : Int32) (wZ : Int) (wE : w.toInt = wZ) (wK : h.1 116 2 = w) (g : Int32) (gZ : Int) (gE : g.toInt = gZ) (gK : h.1 116 3 = g) (t : Int32) (tZ : Int) (tE : t.toInt = tZ) (tK : h.1 117 111 = t) : Ct y_Mod_see b_Mod_see 6 (some .int) 3 69 [.ref 116, .int c, .int o, .int s, .int b] h (q_Mod_seeX h c cZ o oZ s sZ b bZ w wZ g gZ t tZ) := by
  refine ct_ow R_Mod [some (.ref 116), some (.int c), some (.int o), some (.int s), some (.int b), none] rfl (by decide) rfl (Nat.le_of_ble_eq_true rfl) ?_
  have f0 : fr S_Mod_seeX h h := fr_rf
  have g1 : 2 ≤ wZ ∧ wZ ≤ 4 := inv_at hI wE wK.symm rfl
  have g2 : 2 ≤ gZ ∧ gZ ≤ 4 := inv_at hI gE gK.symm rfl
  have tB : 0 ≤ tZ ∧ tZ ≤ 8 := inv_at hI tE tK.symm rfl
  refine V_aload_n 0 d_Mod_see_0 rfl rfl ?_
  refine V_iload_n 1 d_Mod_see_1 rfl rfl ?_
  refine V_iload_n 2 d_Mod_see_2 rfl rfl ?_
  refine V_iload_n 3 d_Mod_see_3 rfl rfl ?_
  refine N_callVI [.int c, .int o, .int s] [] cv_Mod_226 sk_116 rfl d_Mod_see_4 rfl (Nat.le_of_ble_eq_true rfl) (by decide) (by decide) (c_Mod_isSeenX h hI c cZ cE o oZ oE s sZ sE w wZ wE wK g gZ gE gK) (fun z3 h4 z3Z z3E p5 => ?_)
  obtain ⟨eh4, p5⟩ := p5
  subst eh4
  refine V_if_ne 12 z3E d_Mod_see_7 (by decide) (fun c6 => ?_) (fun c6 => ?_)
  ·
    refine V_aload_n 0 d_Mod_see_12 rfl rfl ?_
    refine V_getR fa_Mod_7 sk_116 rfl d_Mod_see_13 ?_
    refine V_bipush 111 d_Mod_see_16 (by decide) ?_
    refine N_ialdK sk_117 tc_111 (by omega) d_Mod_see_18 tK ?_
    refine V_bipush 8 d_Mod_see_19 (by decide) ?_
    refine V_icmp_ne 27 tE tc_8 d_Mod_see_21 (by decide) (fun c8 => ?_) (fun c8 => ?_)
    ·
      refine V_bipush 112 d_Mod_see_27 (by decide) ?_
      refine V_iconst 4 d_Mod_see_29 (by decide) ?_
      refine V_aload_n 0 d_Mod_see_30 rfl rfl ?_
      refine V_getR fa_Mod_7 sk_116 rfl d_Mod_see_31 ?_
      refine V_bipush 111 d_Mod_see_34 (by decide) ?_
      refine N_ialdK sk_117 tc_111 (by omega) d_Mod_see_36 tK ?_
      refine V_imul tc_4 tE (by omega) d_Mod_see_37 (fun z10 z10e z10E => ?_)
      refine V_iadd tc_112 z10E (by omega) d_Mod_see_38 (fun z11 z11e z11E => ?_)
      refine V_istore 5 [some (.ref 116), some (.int c), some (.int o), some (.int s), some (.int b), some (.int z11)] d_Mod_see_39 (by decide) rfl rfl ?_
      refine V_aload_n 0 d_Mod_see_41 rfl rfl ?_
      refine V_getR fa_Mod_7 sk_116 rfl d_Mod_see_42 ?_
      refine V_iload d_Mod_see_45 rfl ?_
      refine V_iload_n 1 d_Mod_see_47 rfl rfl ?_
      refine N_iast sk_117 z11E (by omega) d_Mod_see_48 (fun h12 eh12 => ?_)
      have hI13 : Inv h12 := inv_put hI eh12 (st_c (by omega)) cE (by omega)
      have f14 : fr S_Mod_seeX h h12 := fr_put f0 eh12 rfl
      refine V_aload_n 0 d_Mod_see_49 rfl rfl ?_
      refine V_getR fa_Mod_7 sk_116 rfl d_Mod_see_50 ?_
      refine V_iload d_Mod_see_53 rfl ?_
      refine V_iconst 1 d_Mod_see_55 (by decide) ?_
      refine V_iadd z11E tc_1 (by omega) d_Mod_see_56 (fun z15 z15e z15E => ?_)
      refine V_iload_n 2 d_Mod_see_57 rfl rfl ?_
      refine N_iast sk_117 z15E (by omega) d_Mod_see_58 (fun h16 eh16 => ?_)
      have hI17 : Inv h16 := inv_full hI13 eh16 (st_d (by omega))
      have f18 : fr S_Mod_seeX h h16 := fr_put f14 eh16 rfl
      refine V_aload_n 0 d_Mod_see_59 rfl rfl ?_
      refine V_getR fa_Mod_7 sk_116 rfl d_Mod_see_60 ?_
      refine V_iload d_Mod_see_63 rfl ?_
      refine V_iconst 2 d_Mod_see_65 (by decide) ?_
      refine V_iadd z11E tc_2 (by omega) d_Mod_see_66 (fun z19 z19e z19E => ?_)
      refine V_iload_n 3 d_Mod_see_67 rfl rfl ?_
      refine N_iast sk_117 z19E (by omega) d_Mod_see_68 (fun h20 eh20 => ?_)
      have hI21 : Inv h20 := inv_full hI17 eh20 (st_d (by omega))
      have f22 : fr S_Mod_seeX h h20 := fr_put f18 eh20 rfl
      refine V_aload_n 0 d_Mod_see_69 rfl rfl ?_
      refine V_getR fa_Mod_7 sk_116 rfl d_Mod_see_70 ?_
      refine V_iload d_Mod_see_73 rfl ?_
      refine V_iconst 3 d_Mod_see_75 (by decide) ?_
      refine V_iadd z11E tc_3 (by omega) d_Mod_see_76 (fun z23 z23e z23E => ?_)
      refine V_iload d_Mod_see_77 rfl ?_
      refine N_callSI [.int b] [.int z23, .ref 117] cs_Mod_196 d_Mod_see_79 rfl (Nat.le_of_ble_eq_true rfl) (by decide) (by decide) (c_Mod_flag h20 b bZ bE) (fun z24 h25 z24Z z24E p26 => ?_)
      obtain ⟨eh25, p26⟩ := p26
      subst eh25
      refine N_iast sk_117 z23E (by omega) d_Mod_see_82 (fun h27 eh27 => ?_)
      have hI28 : Inv h27 := inv_full hI21 eh27 (st_d (by omega))
      have f29 : fr S_Mod_seeX h h27 := fr_put f22 eh27 rfl
      refine V_aload_n 0 d_Mod_see_83 rfl rfl ?_
      refine V_getR fa_Mod_7 sk_116 rfl d_Mod_see_84 ?_
      refine V_bipush 111 d_Mod_see_87 (by decide) ?_
      refine V_dup2 d_Mod_see_89 rfl rfl ?_
      refine N_ialdK sk_117 tc_111 (by omega) d_Mod_see_90 (kn_nei eh27 (kn_nei eh20 (kn_nei eh16 (kn_nei eh12 tK (by omega)) (by omega)) (by omega)) (by omega)) ?_
      refine V_iconst 1 d_Mod_see_91 (by decide) ?_
      refine V_iadd tE tc_1 (by omega) d_Mod_see_92 (fun z31 z31e z31E => ?_)
      refine N_iast sk_117 tc_111 (by omega) d_Mod_see_93 (fun h32 eh32 => ?_)
      have hI33 : Inv h32 := inv_put (lo := 0) (hi := 8) hI28 eh32 rfl z31E (by omega)
      have f34 : fr S_Mod_seeX h h32 := fr_put f29 eh32 rfl
      refine V_aload_n 0 d_Mod_see_94 rfl rfl ?_
      refine V_getR fa_Mod_7 sk_116 rfl d_Mod_see_95 ?_
      refine V_bipush 111 d_Mod_see_98 (by decide) ?_
      refine N_ialdK sk_117 tc_111 (by omega) d_Mod_see_100 (kn_put eh32) ?_
      exact V_iret rfl d_Mod_see_101 ⟨z31, rfl, ⟨hI33, f34, (Or.inl ⟨by omega, by omega, z31, z24, by rw [z31E], p26, (by rw [eh32, eh27, eh20, eh16, eh12] <;> rfl), rfl⟩)⟩⟩
    ·
      refine V_bipush (-3) d_Mod_see_24 (by decide) ?_
      exact V_iret rfl d_Mod_see_26 ⟨(-3), rfl, ⟨hI, f0, (Or.inr (Or.inl ⟨by omega, by omega, rfl, tc_m3⟩))⟩⟩
  ·
    refine V_iconst (-1) d_Mod_see_10 (by decide) ?_
    exact V_iret rfl d_Mod_see_11 ⟨(-1), rfl, ⟨hI, f0, (Or.inr (Or.inr ⟨by omega, rfl, tc_m1⟩))⟩⟩
end
section
def S_Land_copyX_1_0 : List (Nat × Option Nat) := [(18, none), (19, none), (20, none), (21, none), (22, none), (23, none)]
abbrev q_Land_copyX_1_0 (h : Hp) (w : Int32) (wZ : Int) (g : Int32) (gZ : Int) (x : Int32) (xZ : Int) (y : Int32) (yZ : Int) : Option Value → Hp → Prop := pVd (fun h' => Inv h' ∧ fr S_Land_copyX_1_0 h h' ∧ (h'.1 18 0 = h.1 1 0 ∧ h'.1 18 1 = h.1 1 1 ∧ h'.1 18 2 = h.1 1 2 ∧ h'.1 18 3 = h.1 1 3 ∧ rcp h h' 19 2 16 ∧ rcp h h' 20 3 16 ∧ rcp h h' 21 4 16 ∧ rcp h h' 22 5 16 ∧ rcp h h' 23 6 16))
set_option maxRecDepth 100000 in
theorem c_Land_copyX_1_0 (h : Hp) (hI : Inv h) (w : Int32) (wZ : Int) (wE : w.toInt = wZ) (wK : h.1 1 0 = w) (g : Int32) (gZ : Int) (gE : g.toInt = gZ) (gK : h.1 1 1 = g) (x : Int32) (xZ : Int) (xE : x.toInt = xZ) (xK : h.1 1 2 = x) (y : Int32) (yZ : Int) (yE : y.toInt = yZ) (yK : h.1 1 3 = y) : Ct y_Land_copyFrom b_Land_copyFrom 2 none 1 60 [.ref 18, .ref 1] h (q_Land_copyX_1_0 h w wZ g gZ x xZ y yZ) := by
  refine ct_ow R_Land [some (.ref 18), some (.ref 1)] rfl (by decide) rfl (Nat.le_of_ble_eq_true rfl) ?_
  have f0 : fr S_Land_copyX_1_0 h h := fr_rf
  have g1 : 2 ≤ wZ ∧ wZ ≤ 4 := inv_at hI wE wK.symm rfl
  have g2 : 2 ≤ gZ ∧ gZ ≤ 4 := inv_at hI gE gK.symm rfl
  refine V_aload_n 0 d_Land_copyFrom_0 rfl rfl ?_
  refine V_aload_n 1 d_Land_copyFrom_1 rfl rfl ?_
  refine N_getK fa_Land_27 sk_1 rfl d_Land_copyFrom_2 wK ?_
  refine N_putI fp_Land_27 sk_18 rfl d_Land_copyFrom_5 (fun h3 eh3 => ?_)
  have hI4 : Inv h3 := inv_put (lo := 2) (hi := 4) hI eh3 rfl wE (by omega)
  have f5 : fr S_Land_copyX_1_0 h h3 := fr_put f0 eh3 rfl
  refine V_aload_n 0 d_Land_copyFrom_8 rfl rfl ?_
  refine V_aload_n 1 d_Land_copyFrom_9 rfl rfl ?_
  refine N_getK fa_Land_31 sk_1 rfl d_Land_copyFrom_10 (kn_ne eh3 gK (by decide)) ?_
  refine N_putI fp_Land_31 sk_18 rfl d_Land_copyFrom_13 (fun h6 eh6 => ?_)
  have hI7 : Inv h6 := inv_put (lo := 2) (hi := 4) hI4 eh6 rfl gE (by omega)
  have f8 : fr S_Land_copyX_1_0 h h6 := fr_put f5 eh6 rfl
  refine V_aload_n 0 d_Land_copyFrom_16 rfl rfl ?_
  refine V_aload_n 1 d_Land_copyFrom_17 rfl rfl ?_
  refine N_getK fa_Land_34 sk_1 rfl d_Land_copyFrom_18 (kn_ne eh6 (kn_ne eh3 xK (by decide)) (by decide)) ?_
  refine N_putI fp_Land_34 sk_18 rfl d_Land_copyFrom_21 (fun h9 eh9 => ?_)
  have hI10 : Inv h9 := inv_full hI7 eh9 rfl
  have f11 : fr S_Land_copyX_1_0 h h9 := fr_put f8 eh9 rfl
  refine V_aload_n 0 d_Land_copyFrom_24 rfl rfl ?_
  refine V_aload_n 1 d_Land_copyFrom_25 rfl rfl ?_
  refine N_getK fa_Land_37 sk_1 rfl d_Land_copyFrom_26 (kn_ne eh9 (kn_ne eh6 (kn_ne eh3 yK (by decide)) (by decide)) (by decide)) ?_
  refine N_putI fp_Land_37 sk_18 rfl d_Land_copyFrom_29 (fun h12 eh12 => ?_)
  have hI13 : Inv h12 := inv_full hI10 eh12 rfl
  have f14 : fr S_Land_copyX_1_0 h h12 := fr_put f11 eh12 rfl
  refine V_aload_n 1 d_Land_copyFrom_32 rfl rfl ?_
  refine V_getR fa_Land_9 sk_1 rfl d_Land_copyFrom_33 ?_
  refine V_iconst 0 d_Land_copyFrom_36 (by decide) ?_
  refine V_aload_n 0 d_Land_copyFrom_37 rfl rfl ?_
  refine V_getR fa_Land_9 sk_18 rfl d_Land_copyFrom_38 ?_
  refine V_iconst 0 d_Land_copyFrom_41 (by decide) ?_
  refine V_bipush 16 d_Land_copyFrom_42 (by decide) ?_
  refine N_acopy sk_2 sk_19 tc_0 tc_0 tc_16 (by omega) wa_Land_46 wA1 wA2 wA3 d_Land_copyFrom_44 (by decide) (Nat.le_of_ble_eq_true rfl) (fun h15 eh15 => ?_)
  have hI16 : Inv h15 := inv_cpy (n := 16) hI13 eh15 (fun _ => rfl)
  have f17 : fr S_Land_copyX_1_0 h h15 := fr_row f14 eh15 (fun _ => rfl)
  have C18 : rcp h h15 19 2 16 := rcp_now f14 (fun _ => rfl) eh15
  refine V_aload_n 1 d_Land_copyFrom_47 rfl rfl ?_
  refine V_getR fa_Land_15 sk_1 rfl d_Land_copyFrom_48 ?_
  refine V_iconst 0 d_Land_copyFrom_51 (by decide) ?_
  refine V_aload_n 0 d_Land_copyFrom_52 rfl rfl ?_
  refine V_getR fa_Land_15 sk_18 rfl d_Land_copyFrom_53 ?_
  refine V_iconst 0 d_Land_copyFrom_56 (by decide) ?_
  refine V_bipush 16 d_Land_copyFrom_57 (by decide) ?_
  refine N_acopy sk_3 sk_20 tc_0 tc_0 tc_16 (by omega) wa_Land_46 wA1 wA2 wA3 d_Land_copyFrom_59 (by decide) (Nat.le_of_ble_eq_true rfl) (fun h19 eh19 => ?_)
  have hI20 : Inv h19 := inv_cpy (n := 16) hI16 eh19 (fun _ => rfl)
  have f21 : fr S_Land_copyX_1_0 h h19 := fr_row f17 eh19 (fun _ => rfl)
  have C22 : rcp h h19 19 2 16 := rcp_row C18 eh19 (by decide)
  have C23 : rcp h h19 20 3 16 := rcp_now f17 (fun _ => rfl) eh19
  refine V_aload_n 1 d_Land_copyFrom_62 rfl rfl ?_
  refine V_getR fa_Land_18 sk_1 rfl d_Land_copyFrom_63 ?_
  refine V_iconst 0 d_Land_copyFrom_66 (by decide) ?_
  refine V_aload_n 0 d_Land_copyFrom_67 rfl rfl ?_
  refine V_getR fa_Land_18 sk_18 rfl d_Land_copyFrom_68 ?_
  refine V_iconst 0 d_Land_copyFrom_71 (by decide) ?_
  refine V_bipush 16 d_Land_copyFrom_72 (by decide) ?_
  refine N_acopy sk_4 sk_21 tc_0 tc_0 tc_16 (by omega) wa_Land_46 wA1 wA2 wA3 d_Land_copyFrom_74 (by decide) (Nat.le_of_ble_eq_true rfl) (fun h24 eh24 => ?_)
  have hI25 : Inv h24 := inv_cpy (n := 16) hI20 eh24 (fun _ => rfl)
  have f26 : fr S_Land_copyX_1_0 h h24 := fr_row f21 eh24 (fun _ => rfl)
  have C27 : rcp h h24 19 2 16 := rcp_row C22 eh24 (by decide)
  have C28 : rcp h h24 20 3 16 := rcp_row C23 eh24 (by decide)
  have C29 : rcp h h24 21 4 16 := rcp_now f21 (fun _ => rfl) eh24
  refine V_aload_n 1 d_Land_copyFrom_77 rfl rfl ?_
  refine V_getR fa_Land_21 sk_1 rfl d_Land_copyFrom_78 ?_
  refine V_iconst 0 d_Land_copyFrom_81 (by decide) ?_
  refine V_aload_n 0 d_Land_copyFrom_82 rfl rfl ?_
  refine V_getR fa_Land_21 sk_18 rfl d_Land_copyFrom_83 ?_
  refine V_iconst 0 d_Land_copyFrom_86 (by decide) ?_
  refine V_bipush 16 d_Land_copyFrom_87 (by decide) ?_
  refine N_acopy sk_5 sk_22 tc_0 tc_0 tc_16 (by omega) wa_Land_46 wA1 wA2 wA3 d_Land_copyFrom_89 (by decide) (Nat.le_of_ble_eq_true rfl) (fun h30 eh30 => ?_)
  have hI31 : Inv h30 := inv_cpy (n := 16) hI25 eh30 (fun _ => rfl)
  have f32 : fr S_Land_copyX_1_0 h h30 := fr_row f26 eh30 (fun _ => rfl)
  have C33 : rcp h h30 19 2 16 := rcp_row C27 eh30 (by decide)
  have C34 : rcp h h30 20 3 16 := rcp_row C28 eh30 (by decide)
  have C35 : rcp h h30 21 4 16 := rcp_row C29 eh30 (by decide)
  have C36 : rcp h h30 22 5 16 := rcp_now f26 (fun _ => rfl) eh30
  refine V_aload_n 1 d_Land_copyFrom_92 rfl rfl ?_
  refine V_getR fa_Land_24 sk_1 rfl d_Land_copyFrom_93 ?_
  refine V_iconst 0 d_Land_copyFrom_96 (by decide) ?_
  refine V_aload_n 0 d_Land_copyFrom_97 rfl rfl ?_
  refine V_getR fa_Land_24 sk_18 rfl d_Land_copyFrom_98 ?_
  refine V_iconst 0 d_Land_copyFrom_101 (by decide) ?_
  refine V_bipush 16 d_Land_copyFrom_102 (by decide) ?_
  refine N_acopy sk_6 sk_23 tc_0 tc_0 tc_16 (by omega) wa_Land_46 wA1 wA2 wA3 d_Land_copyFrom_104 (by decide) (Nat.le_of_ble_eq_true rfl) (fun h37 eh37 => ?_)
  have hI38 : Inv h37 := inv_cpy (n := 16) hI31 eh37 (fun _ => rfl)
  have f39 : fr S_Land_copyX_1_0 h h37 := fr_row f32 eh37 (fun _ => rfl)
  have C40 : rcp h h37 19 2 16 := rcp_row C33 eh37 (by decide)
  have C41 : rcp h h37 20 3 16 := rcp_row C34 eh37 (by decide)
  have C42 : rcp h h37 21 4 16 := rcp_row C35 eh37 (by decide)
  have C43 : rcp h h37 22 5 16 := rcp_row C36 eh37 (by decide)
  have C44 : rcp h h37 23 6 16 := rcp_now f32 (fun _ => rfl) eh37
  exact V_vret rfl d_Land_copyFrom_107 ⟨rfl, ⟨hI38, f39, ⟨((kn_row eh37 (kn_row eh30 (kn_row eh24 (kn_row eh19 (kn_row eh15 (kn_nei eh12 (kn_nei eh9 (kn_nei eh6 (kn_put eh3) (by decide)) (by decide)) (by decide)) (by decide)) (by decide)) (by decide)) (by decide)) (by decide)).trans wK.symm), ((kn_row eh37 (kn_row eh30 (kn_row eh24 (kn_row eh19 (kn_row eh15 (kn_nei eh12 (kn_nei eh9 (kn_put eh6) (by decide)) (by decide)) (by decide)) (by decide)) (by decide)) (by decide)) (by decide)).trans gK.symm), ((kn_row eh37 (kn_row eh30 (kn_row eh24 (kn_row eh19 (kn_row eh15 (kn_nei eh12 (kn_put eh9) (by decide)) (by decide)) (by decide)) (by decide)) (by decide)) (by decide)).trans xK.symm), ((kn_row eh37 (kn_row eh30 (kn_row eh24 (kn_row eh19 (kn_row eh15 (kn_put eh12) (by decide)) (by decide)) (by decide)) (by decide)) (by decide)).trans yK.symm), C40, C41, C42, C43, C44⟩⟩⟩
def S_Ledger_copyX_1_0 : List (Nat × Option Nat) := [(24, some 4), (25, none), (26, none), (27, none), (28, none)]
abbrev q_Ledger_copyX_1_0 (h : Hp) (t : Int32) (tZ : Int) : Option Value → Hp → Prop := pVd (fun h' => Inv h' ∧ fr S_Ledger_copyX_1_0 h h' ∧ (h'.1 24 4 = h.1 7 4 ∧ rcp h h' 25 8 4 ∧ rcp h h' 26 9 8 ∧ rcp h h' 27 10 8 ∧ rcp h h' 28 11 8))
set_option maxRecDepth 100000 in
theorem c_Ledger_copyX_1_0 (h : Hp) (hI : Inv h) (t : Int32) (tZ : Int) (tE : t.toInt = tZ) (tK : h.1 7 4 = t) : Ct y_Ledger_copyFrom b_Ledger_copyFrom 2 none 1 60 [.ref 24, .ref 7] h (q_Ledger_copyX_1_0 h t tZ) := by
  refine ct_ow R_Ledger [some (.ref 24), some (.ref 7)] rfl (by decide) rfl (Nat.le_of_ble_eq_true rfl) ?_
  have f0 : fr S_Ledger_copyX_1_0 h h := fr_rf
  have g1 : 0 ≤ tZ ∧ tZ ≤ 8 := inv_at hI tE tK.symm rfl
  refine V_aload_n 1 d_Ledger_copyFrom_0 rfl rfl ?_
  refine V_getR fa_Ledger_9 sk_7 rfl d_Ledger_copyFrom_1 ?_
  refine V_iconst 0 d_Ledger_copyFrom_4 (by decide) ?_
  refine V_aload_n 0 d_Ledger_copyFrom_5 rfl rfl ?_
  refine V_getR fa_Ledger_9 sk_24 rfl d_Ledger_copyFrom_6 ?_
  refine V_iconst 0 d_Ledger_copyFrom_9 (by decide) ?_
  refine V_iconst 4 d_Ledger_copyFrom_10 (by decide) ?_
  refine N_acopy sk_8 sk_25 tc_0 tc_0 tc_4 (by omega) wa_Ledger_34 wA1 wA2 wA3 d_Ledger_copyFrom_11 (by decide) (Nat.le_of_ble_eq_true rfl) (fun h2 eh2 => ?_)
  have hI3 : Inv h2 := inv_cpy (n := 4) hI eh2 (fun _ => rfl)
  have f4 : fr S_Ledger_copyX_1_0 h h2 := fr_row f0 eh2 (fun _ => rfl)
  have C5 : rcp h h2 25 8 4 := rcp_now f0 (fun _ => rfl) eh2
  refine V_aload_n 1 d_Ledger_copyFrom_14 rfl rfl ?_
  refine V_getR fa_Ledger_15 sk_7 rfl d_Ledger_copyFrom_15 ?_
  refine V_iconst 0 d_Ledger_copyFrom_18 (by decide) ?_
  refine V_aload_n 0 d_Ledger_copyFrom_19 rfl rfl ?_
  refine V_getR fa_Ledger_15 sk_24 rfl d_Ledger_copyFrom_20 ?_
  refine V_iconst 0 d_Ledger_copyFrom_23 (by decide) ?_
  refine V_bipush 8 d_Ledger_copyFrom_24 (by decide) ?_
  refine N_acopy sk_9 sk_26 tc_0 tc_0 tc_8 (by omega) wa_Ledger_34 wA1 wA2 wA3 d_Ledger_copyFrom_26 (by decide) (Nat.le_of_ble_eq_true rfl) (fun h6 eh6 => ?_)
  have hI7 : Inv h6 := inv_cpy (n := 8) hI3 eh6 (fun _ => rfl)
  have f8 : fr S_Ledger_copyX_1_0 h h6 := fr_row f4 eh6 (fun _ => rfl)
  have C9 : rcp h h6 25 8 4 := rcp_row C5 eh6 (by decide)
  have C10 : rcp h h6 26 9 8 := rcp_now f4 (fun _ => rfl) eh6
  refine V_aload_n 1 d_Ledger_copyFrom_29 rfl rfl ?_
  refine V_getR fa_Ledger_18 sk_7 rfl d_Ledger_copyFrom_30 ?_
  refine V_iconst 0 d_Ledger_copyFrom_33 (by decide) ?_
  refine V_aload_n 0 d_Ledger_copyFrom_34 rfl rfl ?_
  refine V_getR fa_Ledger_18 sk_24 rfl d_Ledger_copyFrom_35 ?_
  refine V_iconst 0 d_Ledger_copyFrom_38 (by decide) ?_
  refine V_bipush 8 d_Ledger_copyFrom_39 (by decide) ?_
  refine N_acopy sk_10 sk_27 tc_0 tc_0 tc_8 (by omega) wa_Ledger_34 wA1 wA2 wA3 d_Ledger_copyFrom_41 (by decide) (Nat.le_of_ble_eq_true rfl) (fun h11 eh11 => ?_)
  have hI12 : Inv h11 := inv_cpy (n := 8) hI7 eh11 (fun _ => rfl)
  have f13 : fr S_Ledger_copyX_1_0 h h11 := fr_row f8 eh11 (fun _ => rfl)
  have C14 : rcp h h11 25 8 4 := rcp_row C9 eh11 (by decide)
  have C15 : rcp h h11 26 9 8 := rcp_row C10 eh11 (by decide)
  have C16 : rcp h h11 27 10 8 := rcp_now f8 (fun _ => rfl) eh11
  refine V_aload_n 1 d_Ledger_copyFrom_44 rfl rfl ?_
  refine V_getR fa_Ledger_21 sk_7 rfl d_Ledger_copyFrom_45 ?_
  refine V_iconst 0 d_Ledger_copyFrom_48 (by decide) ?_
  refine V_aload_n 0 d_Ledger_copyFrom_49 rfl rfl ?_
  refine V_getR fa_Ledger_21 sk_24 rfl d_Ledger_copyFrom_50 ?_
  refine V_iconst 0 d_Ledger_copyFrom_53 (by decide) ?_
  refine V_bipush 8 d_Ledger_copyFrom_54 (by decide) ?_
  refine N_acopy sk_11 sk_28 tc_0 tc_0 tc_8 (by omega) wa_Ledger_34 wA1 wA2 wA3 d_Ledger_copyFrom_56 (by decide) (Nat.le_of_ble_eq_true rfl) (fun h17 eh17 => ?_)
  have hI18 : Inv h17 := inv_cpy (n := 8) hI12 eh17 (fun _ => rfl)
  have f19 : fr S_Ledger_copyX_1_0 h h17 := fr_row f13 eh17 (fun _ => rfl)
  have C20 : rcp h h17 25 8 4 := rcp_row C14 eh17 (by decide)
  have C21 : rcp h h17 26 9 8 := rcp_row C15 eh17 (by decide)
  have C22 : rcp h h17 27 10 8 := rcp_row C16 eh17 (by decide)
  have C23 : rcp h h17 28 11 8 := rcp_now f13 (fun _ => rfl) eh17
  refine V_aload_n 0 d_Ledger_copyFrom_59 rfl rfl ?_
  refine V_aload_n 1 d_Ledger_copyFrom_60 rfl rfl ?_
  refine N_getK fa_Ledger_30 sk_7 rfl d_Ledger_copyFrom_61 (kn_row eh17 (kn_row eh11 (kn_row eh6 (kn_row eh2 tK (by decide)) (by decide)) (by decide)) (by decide)) ?_
  refine N_putI fp_Ledger_30 sk_24 rfl d_Ledger_copyFrom_64 (fun h24 eh24 => ?_)
  have hI25 : Inv h24 := inv_put (lo := 0) (hi := 8) hI18 eh24 rfl tE (by omega)
  have f26 : fr S_Ledger_copyX_1_0 h h24 := fr_put f19 eh24 rfl
  have C27 : rcp h h24 25 8 4 := rcp_put C20 eh24 (by decide)
  have C28 : rcp h h24 26 9 8 := rcp_put C21 eh24 (by decide)
  have C29 : rcp h h24 27 10 8 := rcp_put C22 eh24 (by decide)
  have C30 : rcp h h24 28 11 8 := rcp_put C23 eh24 (by decide)
  exact V_vret rfl d_Ledger_copyFrom_67 ⟨rfl, ⟨hI25, f26, ⟨((kn_put eh24).trans tK.symm), C27, C28, C29, C30⟩⟩⟩
def S_Sights_copyX_1_0 : List (Nat × Option Nat) := [(29, some 4), (30, none), (31, none), (32, none), (33, none)]
abbrev q_Sights_copyX_1_0 (h : Hp) (t : Int32) (tZ : Int) : Option Value → Hp → Prop := pVd (fun h' => Inv h' ∧ fr S_Sights_copyX_1_0 h h' ∧ (h'.1 29 4 = h.1 12 4 ∧ rcp h h' 30 13 8 ∧ rcp h h' 31 14 8 ∧ rcp h h' 32 15 8 ∧ rcp h h' 33 16 8))
set_option maxRecDepth 100000 in
theorem c_Sights_copyX_1_0 (h : Hp) (hI : Inv h) (t : Int32) (tZ : Int) (tE : t.toInt = tZ) (tK : h.1 12 4 = t) : Ct y_Sights_copyFrom b_Sights_copyFrom 2 none 1 60 [.ref 29, .ref 12] h (q_Sights_copyX_1_0 h t tZ) := by
  refine ct_ow R_Sights [some (.ref 29), some (.ref 12)] rfl (by decide) rfl (Nat.le_of_ble_eq_true rfl) ?_
  have f0 : fr S_Sights_copyX_1_0 h h := fr_rf
  have g1 : 0 ≤ tZ ∧ tZ ≤ 8 := inv_at hI tE tK.symm rfl
  refine V_aload_n 1 d_Sights_copyFrom_0 rfl rfl ?_
  refine V_getR fa_Sights_9 sk_12 rfl d_Sights_copyFrom_1 ?_
  refine V_iconst 0 d_Sights_copyFrom_4 (by decide) ?_
  refine V_aload_n 0 d_Sights_copyFrom_5 rfl rfl ?_
  refine V_getR fa_Sights_9 sk_29 rfl d_Sights_copyFrom_6 ?_
  refine V_iconst 0 d_Sights_copyFrom_9 (by decide) ?_
  refine V_bipush 8 d_Sights_copyFrom_10 (by decide) ?_
  refine N_acopy sk_13 sk_30 tc_0 tc_0 tc_8 (by omega) wa_Sights_24 wA1 wA2 wA3 d_Sights_copyFrom_12 (by decide) (Nat.le_of_ble_eq_true rfl) (fun h2 eh2 => ?_)
  have hI3 : Inv h2 := inv_cpy (n := 8) hI eh2 (fun _ => rfl)
  have f4 : fr S_Sights_copyX_1_0 h h2 := fr_row f0 eh2 (fun _ => rfl)
  have C5 : rcp h h2 30 13 8 := rcp_now f0 (fun _ => rfl) eh2
  refine V_aload_n 1 d_Sights_copyFrom_15 rfl rfl ?_
  refine V_getR fa_Sights_15 sk_12 rfl d_Sights_copyFrom_16 ?_
  refine V_iconst 0 d_Sights_copyFrom_19 (by decide) ?_
  refine V_aload_n 0 d_Sights_copyFrom_20 rfl rfl ?_
  refine V_getR fa_Sights_15 sk_29 rfl d_Sights_copyFrom_21 ?_
  refine V_iconst 0 d_Sights_copyFrom_24 (by decide) ?_
  refine V_bipush 8 d_Sights_copyFrom_25 (by decide) ?_
  refine N_acopy sk_14 sk_31 tc_0 tc_0 tc_8 (by omega) wa_Sights_24 wA1 wA2 wA3 d_Sights_copyFrom_27 (by decide) (Nat.le_of_ble_eq_true rfl) (fun h6 eh6 => ?_)
  have hI7 : Inv h6 := inv_cpy (n := 8) hI3 eh6 (fun _ => rfl)
  have f8 : fr S_Sights_copyX_1_0 h h6 := fr_row f4 eh6 (fun _ => rfl)
  have C9 : rcp h h6 30 13 8 := rcp_row C5 eh6 (by decide)
  have C10 : rcp h h6 31 14 8 := rcp_now f4 (fun _ => rfl) eh6
  refine V_aload_n 1 d_Sights_copyFrom_30 rfl rfl ?_
  refine V_getR fa_Sights_18 sk_12 rfl d_Sights_copyFrom_31 ?_
  refine V_iconst 0 d_Sights_copyFrom_34 (by decide) ?_
  refine V_aload_n 0 d_Sights_copyFrom_35 rfl rfl ?_
  refine V_getR fa_Sights_18 sk_29 rfl d_Sights_copyFrom_36 ?_
  refine V_iconst 0 d_Sights_copyFrom_39 (by decide) ?_
  refine V_bipush 8 d_Sights_copyFrom_40 (by decide) ?_
  refine N_acopy sk_15 sk_32 tc_0 tc_0 tc_8 (by omega) wa_Sights_24 wA1 wA2 wA3 d_Sights_copyFrom_42 (by decide) (Nat.le_of_ble_eq_true rfl) (fun h11 eh11 => ?_)
  have hI12 : Inv h11 := inv_cpy (n := 8) hI7 eh11 (fun _ => rfl)
  have f13 : fr S_Sights_copyX_1_0 h h11 := fr_row f8 eh11 (fun _ => rfl)
  have C14 : rcp h h11 30 13 8 := rcp_row C9 eh11 (by decide)
  have C15 : rcp h h11 31 14 8 := rcp_row C10 eh11 (by decide)
  have C16 : rcp h h11 32 15 8 := rcp_now f8 (fun _ => rfl) eh11
  refine V_aload_n 1 d_Sights_copyFrom_45 rfl rfl ?_
  refine V_getR fa_Sights_21 sk_12 rfl d_Sights_copyFrom_46 ?_
  refine V_iconst 0 d_Sights_copyFrom_49 (by decide) ?_
  refine V_aload_n 0 d_Sights_copyFrom_50 rfl rfl ?_
  refine V_getR fa_Sights_21 sk_29 rfl d_Sights_copyFrom_51 ?_
  refine V_iconst 0 d_Sights_copyFrom_54 (by decide) ?_
  refine V_bipush 8 d_Sights_copyFrom_55 (by decide) ?_
  refine N_acopy sk_16 sk_33 tc_0 tc_0 tc_8 (by omega) wa_Sights_24 wA1 wA2 wA3 d_Sights_copyFrom_57 (by decide) (Nat.le_of_ble_eq_true rfl) (fun h17 eh17 => ?_)
  have hI18 : Inv h17 := inv_cpy (n := 8) hI12 eh17 (fun _ => rfl)
  have f19 : fr S_Sights_copyX_1_0 h h17 := fr_row f13 eh17 (fun _ => rfl)
  have C20 : rcp h h17 30 13 8 := rcp_row C14 eh17 (by decide)
  have C21 : rcp h h17 31 14 8 := rcp_row C15 eh17 (by decide)
  have C22 : rcp h h17 32 15 8 := rcp_row C16 eh17 (by decide)
  have C23 : rcp h h17 33 16 8 := rcp_now f13 (fun _ => rfl) eh17
  refine V_aload_n 0 d_Sights_copyFrom_60 rfl rfl ?_
  refine V_aload_n 1 d_Sights_copyFrom_61 rfl rfl ?_
  refine N_getK fa_Sights_30 sk_12 rfl d_Sights_copyFrom_62 (kn_row eh17 (kn_row eh11 (kn_row eh6 (kn_row eh2 tK (by decide)) (by decide)) (by decide)) (by decide)) ?_
  refine N_putI fp_Sights_30 sk_29 rfl d_Sights_copyFrom_65 (fun h24 eh24 => ?_)
  have hI25 : Inv h24 := inv_put (lo := 0) (hi := 8) hI18 eh24 rfl tE (by omega)
  have f26 : fr S_Sights_copyX_1_0 h h24 := fr_put f19 eh24 rfl
  have C27 : rcp h h24 30 13 8 := rcp_put C20 eh24 (by decide)
  have C28 : rcp h h24 31 14 8 := rcp_put C21 eh24 (by decide)
  have C29 : rcp h h24 32 15 8 := rcp_put C22 eh24 (by decide)
  have C30 : rcp h h24 33 16 8 := rcp_put C23 eh24 (by decide)
  exact V_vret rfl d_Sights_copyFrom_68 ⟨rfl, ⟨hI25, f26, ⟨((kn_put eh24).trans tK.symm), C27, C28, C29, C30⟩⟩⟩
def S_County_copyX_1_0 : List (Nat × Option Nat) := [(17, some 3), (17, some 4), (18, none), (19, none), (20, none), (21, none), (22, none), (23, none), (24, some 4), (25, none), (26, none), (27, none), (28, none), (29, some 4), (30, none), (31, none), (32, none), (33, none)]
abbrev q_County_copyX_1_0 (h : Hp) (n : Int32) (nZ : Int) (m : Int32) (mZ : Int) : Option Value → Hp → Prop := pVd (fun h' => Inv h' ∧ fr S_County_copyX_1_0 h h' ∧ (cpy h h' 17 0))
set_option maxRecDepth 100000 in
theorem c_County_copyX_1_0 (h : Hp) (hI : Inv h) (n : Int32) (nZ : Int) (nE : n.toInt = nZ) (nK : h.1 0 3 = n) (m : Int32) (mZ : Int) (mE : m.toInt = mZ) (mK : h.1 0 4 = m) : Ct y_County_copyFrom b_County_copyFrom 2 none 2 81 [.ref 17, .ref 0] h (q_County_copyX_1_0 h n nZ m mZ) := by
  refine ct_ow R_County [some (.ref 17), some (.ref 0)] rfl (by decide) rfl (Nat.le_of_ble_eq_true rfl) ?_
  have f0 : fr S_County_copyX_1_0 h h := fr_rf
  refine V_aload_n 0 d_County_copyFrom_0 rfl rfl ?_
  refine V_getR fa_County_12 sk_17 rfl d_County_copyFrom_1 ?_
  refine V_aload_n 1 d_County_copyFrom_4 rfl rfl ?_
  refine V_getR fa_County_12 sk_0 rfl d_County_copyFrom_5 ?_
  obtain ⟨z1, z1Z, z1E, z1e⟩ : ∃ (y : Int32) (Y : Int), y.toInt = Y ∧ y = h.1 1 0 := ⟨_, _, rfl, rfl⟩
  have g2 : 2 ≤ z1Z ∧ z1Z ≤ 4 := inv_at hI z1E z1e rfl
  obtain ⟨z3, z3Z, z3E, z3e⟩ : ∃ (y : Int32) (Y : Int), y.toInt = Y ∧ y = h.1 1 1 := ⟨_, _, rfl, rfl⟩
  have g4 : 2 ≤ z3Z ∧ z3Z ≤ 4 := inv_at hI z3E z3e rfl
  obtain ⟨z5, z5Z, z5E, z5e⟩ : ∃ (y : Int32) (Y : Int), y.toInt = Y ∧ y = h.1 1 2 := ⟨_, _, rfl, rfl⟩
  obtain ⟨z6, z6Z, z6E, z6e⟩ : ∃ (y : Int32) (Y : Int), y.toInt = Y ∧ y = h.1 1 3 := ⟨_, _, rfl, rfl⟩
  refine N_callVV [.ref 1] [] cv_County_47 sk_18 rfl d_County_copyFrom_8 rfl (Nat.le_of_ble_eq_true rfl) (by decide) (by decide) (c_Land_copyX_1_0 h hI z1 z1Z z1E z1e.symm z3 z3Z z3E z3e.symm z5 z5Z z5E z5e.symm z6 z6Z z6E z6e.symm) (fun h8 p9 => ?_)
  obtain ⟨hI10, fh8, p9⟩ := p9
  have f11 : fr S_County_copyX_1_0 h h8 := fr_call f0 fh8 rfl
  have qL := p9
  refine V_aload_n 0 d_County_copyFrom_11 rfl rfl ?_
  refine V_getR fa_County_21 sk_17 rfl d_County_copyFrom_12 ?_
  refine V_aload_n 1 d_County_copyFrom_15 rfl rfl ?_
  refine V_getR fa_County_21 sk_0 rfl d_County_copyFrom_16 ?_
  obtain ⟨z12, z12Z, z12E, z12e⟩ : ∃ (y : Int32) (Y : Int), y.toInt = Y ∧ y = h8.1 7 4 := ⟨_, _, rfl, rfl⟩
  have g13 : 0 ≤ z12Z ∧ z12Z ≤ 8 := inv_at hI10 z12E z12e rfl
  refine N_callVV [.ref 7] [] cv_County_51 sk_24 rfl d_County_copyFrom_19 rfl (Nat.le_of_ble_eq_true rfl) (by decide) (by decide) (c_Ledger_copyX_1_0 h8 hI10 z12 z12Z z12E z12e.symm) (fun h15 p16 => ?_)
  obtain ⟨hI17, fh15, p16⟩ := p16
  have f18 : fr S_County_copyX_1_0 h h15 := fr_call f11 fh15 rfl
  have qG := p16
  refine V_aload_n 0 d_County_copyFrom_22 rfl rfl ?_
  refine V_getR fa_County_28 sk_17 rfl d_County_copyFrom_23 ?_
  refine V_aload_n 1 d_County_copyFrom_26 rfl rfl ?_
  refine V_getR fa_County_28 sk_0 rfl d_County_copyFrom_27 ?_
  obtain ⟨z19, z19Z, z19E, z19e⟩ : ∃ (y : Int32) (Y : Int), y.toInt = Y ∧ y = h15.1 12 4 := ⟨_, _, rfl, rfl⟩
  have g20 : 0 ≤ z19Z ∧ z19Z ≤ 8 := inv_at hI17 z19E z19e rfl
  refine N_callVV [.ref 12] [] cv_County_54 sk_29 rfl d_County_copyFrom_30 rfl (Nat.le_of_ble_eq_true rfl) (by decide) (by decide) (c_Sights_copyX_1_0 h15 hI17 z19 z19Z z19E z19e.symm) (fun h22 p23 => ?_)
  obtain ⟨hI24, fh22, p23⟩ := p23
  have f25 : fr S_County_copyX_1_0 h h22 := fr_call f18 fh22 rfl
  have qS := p23
  refine V_aload_n 0 d_County_copyFrom_33 rfl rfl ?_
  refine V_aload_n 1 d_County_copyFrom_34 rfl rfl ?_
  refine N_getK fa_County_41 sk_0 rfl d_County_copyFrom_35 (kn_call fh22 (kn_call fh15 (kn_call fh8 nK rfl) rfl) rfl) ?_
  refine N_putI fp_County_41 sk_17 rfl d_County_copyFrom_38 (fun h26 eh26 => ?_)
  have hI27 : Inv h26 := inv_full hI24 eh26 rfl
  have f28 : fr S_County_copyX_1_0 h h26 := fr_put f25 eh26 rfl
  refine V_aload_n 0 d_County_copyFrom_41 rfl rfl ?_
  refine V_aload_n 1 d_County_copyFrom_42 rfl rfl ?_
  refine N_getK fa_County_44 sk_0 rfl d_County_copyFrom_43 (kn_ne eh26 (kn_call fh22 (kn_call fh15 (kn_call fh8 mK rfl) rfl) rfl) (by decide)) ?_
  refine N_putI fp_County_44 sk_17 rfl d_County_copyFrom_46 (fun h29 eh29 => ?_)
  have hI30 : Inv h29 := inv_full hI27 eh29 rfl
  have f31 : fr S_County_copyX_1_0 h h29 := fr_put f28 eh29 rfl
  exact V_vret rfl d_County_copyFrom_49 ⟨rfl, ⟨hI30, f31, (cpy_of (a := 17) (b := 0) qL fh15 qG fh22 qS fh8 eh26 eh29 nK mK rfl rfl rfl rfl)⟩⟩
def S_Land_copyX_0_1 : List (Nat × Option Nat) := [(1, none), (2, none), (3, none), (4, none), (5, none), (6, none)]
abbrev q_Land_copyX_0_1 (h : Hp) (w : Int32) (wZ : Int) (g : Int32) (gZ : Int) (x : Int32) (xZ : Int) (y : Int32) (yZ : Int) : Option Value → Hp → Prop := pVd (fun h' => Inv h' ∧ fr S_Land_copyX_0_1 h h' ∧ (h'.1 1 0 = h.1 18 0 ∧ h'.1 1 1 = h.1 18 1 ∧ h'.1 1 2 = h.1 18 2 ∧ h'.1 1 3 = h.1 18 3 ∧ rcp h h' 2 19 16 ∧ rcp h h' 3 20 16 ∧ rcp h h' 4 21 16 ∧ rcp h h' 5 22 16 ∧ rcp h h' 6 23 16))
set_option maxRecDepth 100000 in
theorem c_Land_copyX_0_1 (h : Hp) (hI : Inv h) (w : Int32) (wZ : Int) (wE : w.toInt = wZ) (wK : h.1 18 0 = w) (g : Int32) (gZ : Int) (gE : g.toInt = gZ) (gK : h.1 18 1 = g) (x : Int32) (xZ : Int) (xE : x.toInt = xZ) (xK : h.1 18 2 = x) (y : Int32) (yZ : Int) (yE : y.toInt = yZ) (yK : h.1 18 3 = y) : Ct y_Land_copyFrom b_Land_copyFrom 2 none 1 60 [.ref 1, .ref 18] h (q_Land_copyX_0_1 h w wZ g gZ x xZ y yZ) := by
  refine ct_ow R_Land [some (.ref 1), some (.ref 18)] rfl (by decide) rfl (Nat.le_of_ble_eq_true rfl) ?_
  have f0 : fr S_Land_copyX_0_1 h h := fr_rf
  have g1 : 2 ≤ wZ ∧ wZ ≤ 4 := inv_at hI wE wK.symm rfl
  have g2 : 2 ≤ gZ ∧ gZ ≤ 4 := inv_at hI gE gK.symm rfl
  refine V_aload_n 0 d_Land_copyFrom_0 rfl rfl ?_
  refine V_aload_n 1 d_Land_copyFrom_1 rfl rfl ?_
  refine N_getK fa_Land_27 sk_18 rfl d_Land_copyFrom_2 wK ?_
  refine N_putI fp_Land_27 sk_1 rfl d_Land_copyFrom_5 (fun h3 eh3 => ?_)
  have hI4 : Inv h3 := inv_put (lo := 2) (hi := 4) hI eh3 rfl wE (by omega)
  have f5 : fr S_Land_copyX_0_1 h h3 := fr_put f0 eh3 rfl
  refine V_aload_n 0 d_Land_copyFrom_8 rfl rfl ?_
  refine V_aload_n 1 d_Land_copyFrom_9 rfl rfl ?_
  refine N_getK fa_Land_31 sk_18 rfl d_Land_copyFrom_10 (kn_ne eh3 gK (by decide)) ?_
  refine N_putI fp_Land_31 sk_1 rfl d_Land_copyFrom_13 (fun h6 eh6 => ?_)
  have hI7 : Inv h6 := inv_put (lo := 2) (hi := 4) hI4 eh6 rfl gE (by omega)
  have f8 : fr S_Land_copyX_0_1 h h6 := fr_put f5 eh6 rfl
  refine V_aload_n 0 d_Land_copyFrom_16 rfl rfl ?_
  refine V_aload_n 1 d_Land_copyFrom_17 rfl rfl ?_
  refine N_getK fa_Land_34 sk_18 rfl d_Land_copyFrom_18 (kn_ne eh6 (kn_ne eh3 xK (by decide)) (by decide)) ?_
  refine N_putI fp_Land_34 sk_1 rfl d_Land_copyFrom_21 (fun h9 eh9 => ?_)
  have hI10 : Inv h9 := inv_full hI7 eh9 rfl
  have f11 : fr S_Land_copyX_0_1 h h9 := fr_put f8 eh9 rfl
  refine V_aload_n 0 d_Land_copyFrom_24 rfl rfl ?_
  refine V_aload_n 1 d_Land_copyFrom_25 rfl rfl ?_
  refine N_getK fa_Land_37 sk_18 rfl d_Land_copyFrom_26 (kn_ne eh9 (kn_ne eh6 (kn_ne eh3 yK (by decide)) (by decide)) (by decide)) ?_
  refine N_putI fp_Land_37 sk_1 rfl d_Land_copyFrom_29 (fun h12 eh12 => ?_)
  have hI13 : Inv h12 := inv_full hI10 eh12 rfl
  have f14 : fr S_Land_copyX_0_1 h h12 := fr_put f11 eh12 rfl
  refine V_aload_n 1 d_Land_copyFrom_32 rfl rfl ?_
  refine V_getR fa_Land_9 sk_18 rfl d_Land_copyFrom_33 ?_
  refine V_iconst 0 d_Land_copyFrom_36 (by decide) ?_
  refine V_aload_n 0 d_Land_copyFrom_37 rfl rfl ?_
  refine V_getR fa_Land_9 sk_1 rfl d_Land_copyFrom_38 ?_
  refine V_iconst 0 d_Land_copyFrom_41 (by decide) ?_
  refine V_bipush 16 d_Land_copyFrom_42 (by decide) ?_
  refine N_acopy sk_19 sk_2 tc_0 tc_0 tc_16 (by omega) wa_Land_46 wA1 wA2 wA3 d_Land_copyFrom_44 (by decide) (Nat.le_of_ble_eq_true rfl) (fun h15 eh15 => ?_)
  have hI16 : Inv h15 := inv_cpy (n := 16) hI13 eh15 (fun _ => rfl)
  have f17 : fr S_Land_copyX_0_1 h h15 := fr_row f14 eh15 (fun _ => rfl)
  have C18 : rcp h h15 2 19 16 := rcp_now f14 (fun _ => rfl) eh15
  refine V_aload_n 1 d_Land_copyFrom_47 rfl rfl ?_
  refine V_getR fa_Land_15 sk_18 rfl d_Land_copyFrom_48 ?_
  refine V_iconst 0 d_Land_copyFrom_51 (by decide) ?_
  refine V_aload_n 0 d_Land_copyFrom_52 rfl rfl ?_
  refine V_getR fa_Land_15 sk_1 rfl d_Land_copyFrom_53 ?_
  refine V_iconst 0 d_Land_copyFrom_56 (by decide) ?_
  refine V_bipush 16 d_Land_copyFrom_57 (by decide) ?_
  refine N_acopy sk_20 sk_3 tc_0 tc_0 tc_16 (by omega) wa_Land_46 wA1 wA2 wA3 d_Land_copyFrom_59 (by decide) (Nat.le_of_ble_eq_true rfl) (fun h19 eh19 => ?_)
  have hI20 : Inv h19 := inv_cpy (n := 16) hI16 eh19 (fun _ => rfl)
  have f21 : fr S_Land_copyX_0_1 h h19 := fr_row f17 eh19 (fun _ => rfl)
  have C22 : rcp h h19 2 19 16 := rcp_row C18 eh19 (by decide)
  have C23 : rcp h h19 3 20 16 := rcp_now f17 (fun _ => rfl) eh19
  refine V_aload_n 1 d_Land_copyFrom_62 rfl rfl ?_
  refine V_getR fa_Land_18 sk_18 rfl d_Land_copyFrom_63 ?_
  refine V_iconst 0 d_Land_copyFrom_66 (by decide) ?_
  refine V_aload_n 0 d_Land_copyFrom_67 rfl rfl ?_
  refine V_getR fa_Land_18 sk_1 rfl d_Land_copyFrom_68 ?_
  refine V_iconst 0 d_Land_copyFrom_71 (by decide) ?_
  refine V_bipush 16 d_Land_copyFrom_72 (by decide) ?_
  refine N_acopy sk_21 sk_4 tc_0 tc_0 tc_16 (by omega) wa_Land_46 wA1 wA2 wA3 d_Land_copyFrom_74 (by decide) (Nat.le_of_ble_eq_true rfl) (fun h24 eh24 => ?_)
  have hI25 : Inv h24 := inv_cpy (n := 16) hI20 eh24 (fun _ => rfl)
  have f26 : fr S_Land_copyX_0_1 h h24 := fr_row f21 eh24 (fun _ => rfl)
  have C27 : rcp h h24 2 19 16 := rcp_row C22 eh24 (by decide)
  have C28 : rcp h h24 3 20 16 := rcp_row C23 eh24 (by decide)
  have C29 : rcp h h24 4 21 16 := rcp_now f21 (fun _ => rfl) eh24
  refine V_aload_n 1 d_Land_copyFrom_77 rfl rfl ?_
  refine V_getR fa_Land_21 sk_18 rfl d_Land_copyFrom_78 ?_
  refine V_iconst 0 d_Land_copyFrom_81 (by decide) ?_
  refine V_aload_n 0 d_Land_copyFrom_82 rfl rfl ?_
  refine V_getR fa_Land_21 sk_1 rfl d_Land_copyFrom_83 ?_
  refine V_iconst 0 d_Land_copyFrom_86 (by decide) ?_
  refine V_bipush 16 d_Land_copyFrom_87 (by decide) ?_
  refine N_acopy sk_22 sk_5 tc_0 tc_0 tc_16 (by omega) wa_Land_46 wA1 wA2 wA3 d_Land_copyFrom_89 (by decide) (Nat.le_of_ble_eq_true rfl) (fun h30 eh30 => ?_)
  have hI31 : Inv h30 := inv_cpy (n := 16) hI25 eh30 (fun _ => rfl)
  have f32 : fr S_Land_copyX_0_1 h h30 := fr_row f26 eh30 (fun _ => rfl)
  have C33 : rcp h h30 2 19 16 := rcp_row C27 eh30 (by decide)
  have C34 : rcp h h30 3 20 16 := rcp_row C28 eh30 (by decide)
  have C35 : rcp h h30 4 21 16 := rcp_row C29 eh30 (by decide)
  have C36 : rcp h h30 5 22 16 := rcp_now f26 (fun _ => rfl) eh30
  refine V_aload_n 1 d_Land_copyFrom_92 rfl rfl ?_
  refine V_getR fa_Land_24 sk_18 rfl d_Land_copyFrom_93 ?_
  refine V_iconst 0 d_Land_copyFrom_96 (by decide) ?_
  refine V_aload_n 0 d_Land_copyFrom_97 rfl rfl ?_
  refine V_getR fa_Land_24 sk_1 rfl d_Land_copyFrom_98 ?_
  refine V_iconst 0 d_Land_copyFrom_101 (by decide) ?_
  refine V_bipush 16 d_Land_copyFrom_102 (by decide) ?_
  refine N_acopy sk_23 sk_6 tc_0 tc_0 tc_16 (by omega) wa_Land_46 wA1 wA2 wA3 d_Land_copyFrom_104 (by decide) (Nat.le_of_ble_eq_true rfl) (fun h37 eh37 => ?_)
  have hI38 : Inv h37 := inv_cpy (n := 16) hI31 eh37 (fun _ => rfl)
  have f39 : fr S_Land_copyX_0_1 h h37 := fr_row f32 eh37 (fun _ => rfl)
  have C40 : rcp h h37 2 19 16 := rcp_row C33 eh37 (by decide)
  have C41 : rcp h h37 3 20 16 := rcp_row C34 eh37 (by decide)
  have C42 : rcp h h37 4 21 16 := rcp_row C35 eh37 (by decide)
  have C43 : rcp h h37 5 22 16 := rcp_row C36 eh37 (by decide)
  have C44 : rcp h h37 6 23 16 := rcp_now f32 (fun _ => rfl) eh37
  exact V_vret rfl d_Land_copyFrom_107 ⟨rfl, ⟨hI38, f39, ⟨((kn_row eh37 (kn_row eh30 (kn_row eh24 (kn_row eh19 (kn_row eh15 (kn_nei eh12 (kn_nei eh9 (kn_nei eh6 (kn_put eh3) (by decide)) (by decide)) (by decide)) (by decide)) (by decide)) (by decide)) (by decide)) (by decide)).trans wK.symm), ((kn_row eh37 (kn_row eh30 (kn_row eh24 (kn_row eh19 (kn_row eh15 (kn_nei eh12 (kn_nei eh9 (kn_put eh6) (by decide)) (by decide)) (by decide)) (by decide)) (by decide)) (by decide)) (by decide)).trans gK.symm), ((kn_row eh37 (kn_row eh30 (kn_row eh24 (kn_row eh19 (kn_row eh15 (kn_nei eh12 (kn_put eh9) (by decide)) (by decide)) (by decide)) (by decide)) (by decide)) (by decide)).trans xK.symm), ((kn_row eh37 (kn_row eh30 (kn_row eh24 (kn_row eh19 (kn_row eh15 (kn_put eh12) (by decide)) (by decide)) (by decide)) (by decide)) (by decide)).trans yK.symm), C40, C41, C42, C43, C44⟩⟩⟩
def S_Ledger_copyX_0_1 : List (Nat × Option Nat) := [(7, some 4), (8, none), (9, none), (10, none), (11, none)]
abbrev q_Ledger_copyX_0_1 (h : Hp) (t : Int32) (tZ : Int) : Option Value → Hp → Prop := pVd (fun h' => Inv h' ∧ fr S_Ledger_copyX_0_1 h h' ∧ (h'.1 7 4 = h.1 24 4 ∧ rcp h h' 8 25 4 ∧ rcp h h' 9 26 8 ∧ rcp h h' 10 27 8 ∧ rcp h h' 11 28 8))
set_option maxRecDepth 100000 in
theorem c_Ledger_copyX_0_1 (h : Hp) (hI : Inv h) (t : Int32) (tZ : Int) (tE : t.toInt = tZ) (tK : h.1 24 4 = t) : Ct y_Ledger_copyFrom b_Ledger_copyFrom 2 none 1 60 [.ref 7, .ref 24] h (q_Ledger_copyX_0_1 h t tZ) := by
  refine ct_ow R_Ledger [some (.ref 7), some (.ref 24)] rfl (by decide) rfl (Nat.le_of_ble_eq_true rfl) ?_
  have f0 : fr S_Ledger_copyX_0_1 h h := fr_rf
  have g1 : 0 ≤ tZ ∧ tZ ≤ 8 := inv_at hI tE tK.symm rfl
  refine V_aload_n 1 d_Ledger_copyFrom_0 rfl rfl ?_
  refine V_getR fa_Ledger_9 sk_24 rfl d_Ledger_copyFrom_1 ?_
  refine V_iconst 0 d_Ledger_copyFrom_4 (by decide) ?_
  refine V_aload_n 0 d_Ledger_copyFrom_5 rfl rfl ?_
  refine V_getR fa_Ledger_9 sk_7 rfl d_Ledger_copyFrom_6 ?_
  refine V_iconst 0 d_Ledger_copyFrom_9 (by decide) ?_
  refine V_iconst 4 d_Ledger_copyFrom_10 (by decide) ?_
  refine N_acopy sk_25 sk_8 tc_0 tc_0 tc_4 (by omega) wa_Ledger_34 wA1 wA2 wA3 d_Ledger_copyFrom_11 (by decide) (Nat.le_of_ble_eq_true rfl) (fun h2 eh2 => ?_)
  have hI3 : Inv h2 := inv_cpy (n := 4) hI eh2 (fun _ => rfl)
  have f4 : fr S_Ledger_copyX_0_1 h h2 := fr_row f0 eh2 (fun _ => rfl)
  have C5 : rcp h h2 8 25 4 := rcp_now f0 (fun _ => rfl) eh2
  refine V_aload_n 1 d_Ledger_copyFrom_14 rfl rfl ?_
  refine V_getR fa_Ledger_15 sk_24 rfl d_Ledger_copyFrom_15 ?_
  refine V_iconst 0 d_Ledger_copyFrom_18 (by decide) ?_
  refine V_aload_n 0 d_Ledger_copyFrom_19 rfl rfl ?_
  refine V_getR fa_Ledger_15 sk_7 rfl d_Ledger_copyFrom_20 ?_
  refine V_iconst 0 d_Ledger_copyFrom_23 (by decide) ?_
  refine V_bipush 8 d_Ledger_copyFrom_24 (by decide) ?_
  refine N_acopy sk_26 sk_9 tc_0 tc_0 tc_8 (by omega) wa_Ledger_34 wA1 wA2 wA3 d_Ledger_copyFrom_26 (by decide) (Nat.le_of_ble_eq_true rfl) (fun h6 eh6 => ?_)
  have hI7 : Inv h6 := inv_cpy (n := 8) hI3 eh6 (fun _ => rfl)
  have f8 : fr S_Ledger_copyX_0_1 h h6 := fr_row f4 eh6 (fun _ => rfl)
  have C9 : rcp h h6 8 25 4 := rcp_row C5 eh6 (by decide)
  have C10 : rcp h h6 9 26 8 := rcp_now f4 (fun _ => rfl) eh6
  refine V_aload_n 1 d_Ledger_copyFrom_29 rfl rfl ?_
  refine V_getR fa_Ledger_18 sk_24 rfl d_Ledger_copyFrom_30 ?_
  refine V_iconst 0 d_Ledger_copyFrom_33 (by decide) ?_
  refine V_aload_n 0 d_Ledger_copyFrom_34 rfl rfl ?_
  refine V_getR fa_Ledger_18 sk_7 rfl d_Ledger_copyFrom_35 ?_
  refine V_iconst 0 d_Ledger_copyFrom_38 (by decide) ?_
  refine V_bipush 8 d_Ledger_copyFrom_39 (by decide) ?_
  refine N_acopy sk_27 sk_10 tc_0 tc_0 tc_8 (by omega) wa_Ledger_34 wA1 wA2 wA3 d_Ledger_copyFrom_41 (by decide) (Nat.le_of_ble_eq_true rfl) (fun h11 eh11 => ?_)
  have hI12 : Inv h11 := inv_cpy (n := 8) hI7 eh11 (fun _ => rfl)
  have f13 : fr S_Ledger_copyX_0_1 h h11 := fr_row f8 eh11 (fun _ => rfl)
  have C14 : rcp h h11 8 25 4 := rcp_row C9 eh11 (by decide)
  have C15 : rcp h h11 9 26 8 := rcp_row C10 eh11 (by decide)
  have C16 : rcp h h11 10 27 8 := rcp_now f8 (fun _ => rfl) eh11
  refine V_aload_n 1 d_Ledger_copyFrom_44 rfl rfl ?_
  refine V_getR fa_Ledger_21 sk_24 rfl d_Ledger_copyFrom_45 ?_
  refine V_iconst 0 d_Ledger_copyFrom_48 (by decide) ?_
  refine V_aload_n 0 d_Ledger_copyFrom_49 rfl rfl ?_
  refine V_getR fa_Ledger_21 sk_7 rfl d_Ledger_copyFrom_50 ?_
  refine V_iconst 0 d_Ledger_copyFrom_53 (by decide) ?_
  refine V_bipush 8 d_Ledger_copyFrom_54 (by decide) ?_
  refine N_acopy sk_28 sk_11 tc_0 tc_0 tc_8 (by omega) wa_Ledger_34 wA1 wA2 wA3 d_Ledger_copyFrom_56 (by decide) (Nat.le_of_ble_eq_true rfl) (fun h17 eh17 => ?_)
  have hI18 : Inv h17 := inv_cpy (n := 8) hI12 eh17 (fun _ => rfl)
  have f19 : fr S_Ledger_copyX_0_1 h h17 := fr_row f13 eh17 (fun _ => rfl)
  have C20 : rcp h h17 8 25 4 := rcp_row C14 eh17 (by decide)
  have C21 : rcp h h17 9 26 8 := rcp_row C15 eh17 (by decide)
  have C22 : rcp h h17 10 27 8 := rcp_row C16 eh17 (by decide)
  have C23 : rcp h h17 11 28 8 := rcp_now f13 (fun _ => rfl) eh17
  refine V_aload_n 0 d_Ledger_copyFrom_59 rfl rfl ?_
  refine V_aload_n 1 d_Ledger_copyFrom_60 rfl rfl ?_
  refine N_getK fa_Ledger_30 sk_24 rfl d_Ledger_copyFrom_61 (kn_row eh17 (kn_row eh11 (kn_row eh6 (kn_row eh2 tK (by decide)) (by decide)) (by decide)) (by decide)) ?_
  refine N_putI fp_Ledger_30 sk_7 rfl d_Ledger_copyFrom_64 (fun h24 eh24 => ?_)
  have hI25 : Inv h24 := inv_put (lo := 0) (hi := 8) hI18 eh24 rfl tE (by omega)
  have f26 : fr S_Ledger_copyX_0_1 h h24 := fr_put f19 eh24 rfl
  have C27 : rcp h h24 8 25 4 := rcp_put C20 eh24 (by decide)
  have C28 : rcp h h24 9 26 8 := rcp_put C21 eh24 (by decide)
  have C29 : rcp h h24 10 27 8 := rcp_put C22 eh24 (by decide)
  have C30 : rcp h h24 11 28 8 := rcp_put C23 eh24 (by decide)
  exact V_vret rfl d_Ledger_copyFrom_67 ⟨rfl, ⟨hI25, f26, ⟨((kn_put eh24).trans tK.symm), C27, C28, C29, C30⟩⟩⟩
def S_Sights_copyX_0_1 : List (Nat × Option Nat) := [(12, some 4), (13, none), (14, none), (15, none), (16, none)]
abbrev q_Sights_copyX_0_1 (h : Hp) (t : Int32) (tZ : Int) : Option Value → Hp → Prop := pVd (fun h' => Inv h' ∧ fr S_Sights_copyX_0_1 h h' ∧ (h'.1 12 4 = h.1 29 4 ∧ rcp h h' 13 30 8 ∧ rcp h h' 14 31 8 ∧ rcp h h' 15 32 8 ∧ rcp h h' 16 33 8))
set_option maxRecDepth 100000 in
theorem c_Sights_copyX_0_1 (h : Hp) (hI : Inv h) (t : Int32) (tZ : Int) (tE : t.toInt = tZ) (tK : h.1 29 4 = t) : Ct y_Sights_copyFrom b_Sights_copyFrom 2 none 1 60 [.ref 12, .ref 29] h (q_Sights_copyX_0_1 h t tZ) := by
  refine ct_ow R_Sights [some (.ref 12), some (.ref 29)] rfl (by decide) rfl (Nat.le_of_ble_eq_true rfl) ?_
  have f0 : fr S_Sights_copyX_0_1 h h := fr_rf
  have g1 : 0 ≤ tZ ∧ tZ ≤ 8 := inv_at hI tE tK.symm rfl
  refine V_aload_n 1 d_Sights_copyFrom_0 rfl rfl ?_
  refine V_getR fa_Sights_9 sk_29 rfl d_Sights_copyFrom_1 ?_
  refine V_iconst 0 d_Sights_copyFrom_4 (by decide) ?_
  refine V_aload_n 0 d_Sights_copyFrom_5 rfl rfl ?_
  refine V_getR fa_Sights_9 sk_12 rfl d_Sights_copyFrom_6 ?_
  refine V_iconst 0 d_Sights_copyFrom_9 (by decide) ?_
  refine V_bipush 8 d_Sights_copyFrom_10 (by decide) ?_
  refine N_acopy sk_30 sk_13 tc_0 tc_0 tc_8 (by omega) wa_Sights_24 wA1 wA2 wA3 d_Sights_copyFrom_12 (by decide) (Nat.le_of_ble_eq_true rfl) (fun h2 eh2 => ?_)
  have hI3 : Inv h2 := inv_cpy (n := 8) hI eh2 (fun _ => rfl)
  have f4 : fr S_Sights_copyX_0_1 h h2 := fr_row f0 eh2 (fun _ => rfl)
  have C5 : rcp h h2 13 30 8 := rcp_now f0 (fun _ => rfl) eh2
  refine V_aload_n 1 d_Sights_copyFrom_15 rfl rfl ?_
  refine V_getR fa_Sights_15 sk_29 rfl d_Sights_copyFrom_16 ?_
  refine V_iconst 0 d_Sights_copyFrom_19 (by decide) ?_
  refine V_aload_n 0 d_Sights_copyFrom_20 rfl rfl ?_
  refine V_getR fa_Sights_15 sk_12 rfl d_Sights_copyFrom_21 ?_
  refine V_iconst 0 d_Sights_copyFrom_24 (by decide) ?_
  refine V_bipush 8 d_Sights_copyFrom_25 (by decide) ?_
  refine N_acopy sk_31 sk_14 tc_0 tc_0 tc_8 (by omega) wa_Sights_24 wA1 wA2 wA3 d_Sights_copyFrom_27 (by decide) (Nat.le_of_ble_eq_true rfl) (fun h6 eh6 => ?_)
  have hI7 : Inv h6 := inv_cpy (n := 8) hI3 eh6 (fun _ => rfl)
  have f8 : fr S_Sights_copyX_0_1 h h6 := fr_row f4 eh6 (fun _ => rfl)
  have C9 : rcp h h6 13 30 8 := rcp_row C5 eh6 (by decide)
  have C10 : rcp h h6 14 31 8 := rcp_now f4 (fun _ => rfl) eh6
  refine V_aload_n 1 d_Sights_copyFrom_30 rfl rfl ?_
  refine V_getR fa_Sights_18 sk_29 rfl d_Sights_copyFrom_31 ?_
  refine V_iconst 0 d_Sights_copyFrom_34 (by decide) ?_
  refine V_aload_n 0 d_Sights_copyFrom_35 rfl rfl ?_
  refine V_getR fa_Sights_18 sk_12 rfl d_Sights_copyFrom_36 ?_
  refine V_iconst 0 d_Sights_copyFrom_39 (by decide) ?_
  refine V_bipush 8 d_Sights_copyFrom_40 (by decide) ?_
  refine N_acopy sk_32 sk_15 tc_0 tc_0 tc_8 (by omega) wa_Sights_24 wA1 wA2 wA3 d_Sights_copyFrom_42 (by decide) (Nat.le_of_ble_eq_true rfl) (fun h11 eh11 => ?_)
  have hI12 : Inv h11 := inv_cpy (n := 8) hI7 eh11 (fun _ => rfl)
  have f13 : fr S_Sights_copyX_0_1 h h11 := fr_row f8 eh11 (fun _ => rfl)
  have C14 : rcp h h11 13 30 8 := rcp_row C9 eh11 (by decide)
  have C15 : rcp h h11 14 31 8 := rcp_row C10 eh11 (by decide)
  have C16 : rcp h h11 15 32 8 := rcp_now f8 (fun _ => rfl) eh11
  refine V_aload_n 1 d_Sights_copyFrom_45 rfl rfl ?_
  refine V_getR fa_Sights_21 sk_29 rfl d_Sights_copyFrom_46 ?_
  refine V_iconst 0 d_Sights_copyFrom_49 (by decide) ?_
  refine V_aload_n 0 d_Sights_copyFrom_50 rfl rfl ?_
  refine V_getR fa_Sights_21 sk_12 rfl d_Sights_copyFrom_51 ?_
  refine V_iconst 0 d_Sights_copyFrom_54 (by decide) ?_
  refine V_bipush 8 d_Sights_copyFrom_55 (by decide) ?_
  refine N_acopy sk_33 sk_16 tc_0 tc_0 tc_8 (by omega) wa_Sights_24 wA1 wA2 wA3 d_Sights_copyFrom_57 (by decide) (Nat.le_of_ble_eq_true rfl) (fun h17 eh17 => ?_)
  have hI18 : Inv h17 := inv_cpy (n := 8) hI12 eh17 (fun _ => rfl)
  have f19 : fr S_Sights_copyX_0_1 h h17 := fr_row f13 eh17 (fun _ => rfl)
  have C20 : rcp h h17 13 30 8 := rcp_row C14 eh17 (by decide)
  have C21 : rcp h h17 14 31 8 := rcp_row C15 eh17 (by decide)
  have C22 : rcp h h17 15 32 8 := rcp_row C16 eh17 (by decide)
  have C23 : rcp h h17 16 33 8 := rcp_now f13 (fun _ => rfl) eh17
  refine V_aload_n 0 d_Sights_copyFrom_60 rfl rfl ?_
  refine V_aload_n 1 d_Sights_copyFrom_61 rfl rfl ?_
  refine N_getK fa_Sights_30 sk_29 rfl d_Sights_copyFrom_62 (kn_row eh17 (kn_row eh11 (kn_row eh6 (kn_row eh2 tK (by decide)) (by decide)) (by decide)) (by decide)) ?_
  refine N_putI fp_Sights_30 sk_12 rfl d_Sights_copyFrom_65 (fun h24 eh24 => ?_)
  have hI25 : Inv h24 := inv_put (lo := 0) (hi := 8) hI18 eh24 rfl tE (by omega)
  have f26 : fr S_Sights_copyX_0_1 h h24 := fr_put f19 eh24 rfl
  have C27 : rcp h h24 13 30 8 := rcp_put C20 eh24 (by decide)
  have C28 : rcp h h24 14 31 8 := rcp_put C21 eh24 (by decide)
  have C29 : rcp h h24 15 32 8 := rcp_put C22 eh24 (by decide)
  have C30 : rcp h h24 16 33 8 := rcp_put C23 eh24 (by decide)
  exact V_vret rfl d_Sights_copyFrom_68 ⟨rfl, ⟨hI25, f26, ⟨((kn_put eh24).trans tK.symm), C27, C28, C29, C30⟩⟩⟩
def S_County_copyX_0_1 : List (Nat × Option Nat) := [(0, some 3), (0, some 4), (1, none), (2, none), (3, none), (4, none), (5, none), (6, none), (7, some 4), (8, none), (9, none), (10, none), (11, none), (12, some 4), (13, none), (14, none), (15, none), (16, none)]
abbrev q_County_copyX_0_1 (h : Hp) (n : Int32) (nZ : Int) (m : Int32) (mZ : Int) : Option Value → Hp → Prop := pVd (fun h' => Inv h' ∧ fr S_County_copyX_0_1 h h' ∧ (cpy h h' 0 17))
set_option maxRecDepth 100000 in
theorem c_County_copyX_0_1 (h : Hp) (hI : Inv h) (n : Int32) (nZ : Int) (nE : n.toInt = nZ) (nK : h.1 17 3 = n) (m : Int32) (mZ : Int) (mE : m.toInt = mZ) (mK : h.1 17 4 = m) : Ct y_County_copyFrom b_County_copyFrom 2 none 2 81 [.ref 0, .ref 17] h (q_County_copyX_0_1 h n nZ m mZ) := by
  refine ct_ow R_County [some (.ref 0), some (.ref 17)] rfl (by decide) rfl (Nat.le_of_ble_eq_true rfl) ?_
  have f0 : fr S_County_copyX_0_1 h h := fr_rf
  refine V_aload_n 0 d_County_copyFrom_0 rfl rfl ?_
  refine V_getR fa_County_12 sk_0 rfl d_County_copyFrom_1 ?_
  refine V_aload_n 1 d_County_copyFrom_4 rfl rfl ?_
  refine V_getR fa_County_12 sk_17 rfl d_County_copyFrom_5 ?_
  obtain ⟨z1, z1Z, z1E, z1e⟩ : ∃ (y : Int32) (Y : Int), y.toInt = Y ∧ y = h.1 18 0 := ⟨_, _, rfl, rfl⟩
  have g2 : 2 ≤ z1Z ∧ z1Z ≤ 4 := inv_at hI z1E z1e rfl
  obtain ⟨z3, z3Z, z3E, z3e⟩ : ∃ (y : Int32) (Y : Int), y.toInt = Y ∧ y = h.1 18 1 := ⟨_, _, rfl, rfl⟩
  have g4 : 2 ≤ z3Z ∧ z3Z ≤ 4 := inv_at hI z3E z3e rfl
  obtain ⟨z5, z5Z, z5E, z5e⟩ : ∃ (y : Int32) (Y : Int), y.toInt = Y ∧ y = h.1 18 2 := ⟨_, _, rfl, rfl⟩
  obtain ⟨z6, z6Z, z6E, z6e⟩ : ∃ (y : Int32) (Y : Int), y.toInt = Y ∧ y = h.1 18 3 := ⟨_, _, rfl, rfl⟩
  refine N_callVV [.ref 18] [] cv_County_47 sk_1 rfl d_County_copyFrom_8 rfl (Nat.le_of_ble_eq_true rfl) (by decide) (by decide) (c_Land_copyX_0_1 h hI z1 z1Z z1E z1e.symm z3 z3Z z3E z3e.symm z5 z5Z z5E z5e.symm z6 z6Z z6E z6e.symm) (fun h8 p9 => ?_)
  obtain ⟨hI10, fh8, p9⟩ := p9
  have f11 : fr S_County_copyX_0_1 h h8 := fr_call f0 fh8 rfl
  have qL := p9
  refine V_aload_n 0 d_County_copyFrom_11 rfl rfl ?_
  refine V_getR fa_County_21 sk_0 rfl d_County_copyFrom_12 ?_
  refine V_aload_n 1 d_County_copyFrom_15 rfl rfl ?_
  refine V_getR fa_County_21 sk_17 rfl d_County_copyFrom_16 ?_
  obtain ⟨z12, z12Z, z12E, z12e⟩ : ∃ (y : Int32) (Y : Int), y.toInt = Y ∧ y = h8.1 24 4 := ⟨_, _, rfl, rfl⟩
  have g13 : 0 ≤ z12Z ∧ z12Z ≤ 8 := inv_at hI10 z12E z12e rfl
  refine N_callVV [.ref 24] [] cv_County_51 sk_7 rfl d_County_copyFrom_19 rfl (Nat.le_of_ble_eq_true rfl) (by decide) (by decide) (c_Ledger_copyX_0_1 h8 hI10 z12 z12Z z12E z12e.symm) (fun h15 p16 => ?_)
  obtain ⟨hI17, fh15, p16⟩ := p16
  have f18 : fr S_County_copyX_0_1 h h15 := fr_call f11 fh15 rfl
  have qG := p16
  refine V_aload_n 0 d_County_copyFrom_22 rfl rfl ?_
  refine V_getR fa_County_28 sk_0 rfl d_County_copyFrom_23 ?_
  refine V_aload_n 1 d_County_copyFrom_26 rfl rfl ?_
  refine V_getR fa_County_28 sk_17 rfl d_County_copyFrom_27 ?_
  obtain ⟨z19, z19Z, z19E, z19e⟩ : ∃ (y : Int32) (Y : Int), y.toInt = Y ∧ y = h15.1 29 4 := ⟨_, _, rfl, rfl⟩
  have g20 : 0 ≤ z19Z ∧ z19Z ≤ 8 := inv_at hI17 z19E z19e rfl
  refine N_callVV [.ref 29] [] cv_County_54 sk_12 rfl d_County_copyFrom_30 rfl (Nat.le_of_ble_eq_true rfl) (by decide) (by decide) (c_Sights_copyX_0_1 h15 hI17 z19 z19Z z19E z19e.symm) (fun h22 p23 => ?_)
  obtain ⟨hI24, fh22, p23⟩ := p23
  have f25 : fr S_County_copyX_0_1 h h22 := fr_call f18 fh22 rfl
  have qS := p23
  refine V_aload_n 0 d_County_copyFrom_33 rfl rfl ?_
  refine V_aload_n 1 d_County_copyFrom_34 rfl rfl ?_
  refine N_getK fa_County_41 sk_17 rfl d_County_copyFrom_35 (kn_call fh22 (kn_call fh15 (kn_call fh8 nK rfl) rfl) rfl) ?_
  refine N_putI fp_County_41 sk_0 rfl d_County_copyFrom_38 (fun h26 eh26 => ?_)
  have hI27 : Inv h26 := inv_full hI24 eh26 rfl
  have f28 : fr S_County_copyX_0_1 h h26 := fr_put f25 eh26 rfl
  refine V_aload_n 0 d_County_copyFrom_41 rfl rfl ?_
  refine V_aload_n 1 d_County_copyFrom_42 rfl rfl ?_
  refine N_getK fa_County_44 sk_17 rfl d_County_copyFrom_43 (kn_ne eh26 (kn_call fh22 (kn_call fh15 (kn_call fh8 mK rfl) rfl) rfl) (by decide)) ?_
  refine N_putI fp_County_44 sk_0 rfl d_County_copyFrom_46 (fun h29 eh29 => ?_)
  have hI30 : Inv h29 := inv_full hI27 eh29 rfl
  have f31 : fr S_County_copyX_0_1 h h29 := fr_put f28 eh29 rfl
  exact V_vret rfl d_County_copyFrom_49 ⟨rfl, ⟨hI30, f31, (cpy_of (a := 0) (b := 17) qL fh15 qG fh22 qS fh8 eh26 eh29 nK mK rfl rfl rfl rfl)⟩⟩
def S_Land_copyX_2_0 : List (Nat × Option Nat) := [(35, none), (36, none), (37, none), (38, none), (39, none), (40, none)]
abbrev q_Land_copyX_2_0 (h : Hp) (w : Int32) (wZ : Int) (g : Int32) (gZ : Int) (x : Int32) (xZ : Int) (y : Int32) (yZ : Int) : Option Value → Hp → Prop := pVd (fun h' => Inv h' ∧ fr S_Land_copyX_2_0 h h' ∧ (h'.1 35 0 = h.1 1 0 ∧ h'.1 35 1 = h.1 1 1 ∧ h'.1 35 2 = h.1 1 2 ∧ h'.1 35 3 = h.1 1 3 ∧ rcp h h' 36 2 16 ∧ rcp h h' 37 3 16 ∧ rcp h h' 38 4 16 ∧ rcp h h' 39 5 16 ∧ rcp h h' 40 6 16))
set_option maxRecDepth 100000 in
theorem c_Land_copyX_2_0 (h : Hp) (hI : Inv h) (w : Int32) (wZ : Int) (wE : w.toInt = wZ) (wK : h.1 1 0 = w) (g : Int32) (gZ : Int) (gE : g.toInt = gZ) (gK : h.1 1 1 = g) (x : Int32) (xZ : Int) (xE : x.toInt = xZ) (xK : h.1 1 2 = x) (y : Int32) (yZ : Int) (yE : y.toInt = yZ) (yK : h.1 1 3 = y) : Ct y_Land_copyFrom b_Land_copyFrom 2 none 1 60 [.ref 35, .ref 1] h (q_Land_copyX_2_0 h w wZ g gZ x xZ y yZ) := by
  refine ct_ow R_Land [some (.ref 35), some (.ref 1)] rfl (by decide) rfl (Nat.le_of_ble_eq_true rfl) ?_
  have f0 : fr S_Land_copyX_2_0 h h := fr_rf
  have g1 : 2 ≤ wZ ∧ wZ ≤ 4 := inv_at hI wE wK.symm rfl
  have g2 : 2 ≤ gZ ∧ gZ ≤ 4 := inv_at hI gE gK.symm rfl
  refine V_aload_n 0 d_Land_copyFrom_0 rfl rfl ?_
  refine V_aload_n 1 d_Land_copyFrom_1 rfl rfl ?_
  refine N_getK fa_Land_27 sk_1 rfl d_Land_copyFrom_2 wK ?_
  refine N_putI fp_Land_27 sk_35 rfl d_Land_copyFrom_5 (fun h3 eh3 => ?_)
  have hI4 : Inv h3 := inv_put (lo := 2) (hi := 4) hI eh3 rfl wE (by omega)
  have f5 : fr S_Land_copyX_2_0 h h3 := fr_put f0 eh3 rfl
  refine V_aload_n 0 d_Land_copyFrom_8 rfl rfl ?_
  refine V_aload_n 1 d_Land_copyFrom_9 rfl rfl ?_
  refine N_getK fa_Land_31 sk_1 rfl d_Land_copyFrom_10 (kn_ne eh3 gK (by decide)) ?_
  refine N_putI fp_Land_31 sk_35 rfl d_Land_copyFrom_13 (fun h6 eh6 => ?_)
  have hI7 : Inv h6 := inv_put (lo := 2) (hi := 4) hI4 eh6 rfl gE (by omega)
  have f8 : fr S_Land_copyX_2_0 h h6 := fr_put f5 eh6 rfl
  refine V_aload_n 0 d_Land_copyFrom_16 rfl rfl ?_
  refine V_aload_n 1 d_Land_copyFrom_17 rfl rfl ?_
  refine N_getK fa_Land_34 sk_1 rfl d_Land_copyFrom_18 (kn_ne eh6 (kn_ne eh3 xK (by decide)) (by decide)) ?_
  refine N_putI fp_Land_34 sk_35 rfl d_Land_copyFrom_21 (fun h9 eh9 => ?_)
  have hI10 : Inv h9 := inv_full hI7 eh9 rfl
  have f11 : fr S_Land_copyX_2_0 h h9 := fr_put f8 eh9 rfl
  refine V_aload_n 0 d_Land_copyFrom_24 rfl rfl ?_
  refine V_aload_n 1 d_Land_copyFrom_25 rfl rfl ?_
  refine N_getK fa_Land_37 sk_1 rfl d_Land_copyFrom_26 (kn_ne eh9 (kn_ne eh6 (kn_ne eh3 yK (by decide)) (by decide)) (by decide)) ?_
  refine N_putI fp_Land_37 sk_35 rfl d_Land_copyFrom_29 (fun h12 eh12 => ?_)
  have hI13 : Inv h12 := inv_full hI10 eh12 rfl
  have f14 : fr S_Land_copyX_2_0 h h12 := fr_put f11 eh12 rfl
  refine V_aload_n 1 d_Land_copyFrom_32 rfl rfl ?_
  refine V_getR fa_Land_9 sk_1 rfl d_Land_copyFrom_33 ?_
  refine V_iconst 0 d_Land_copyFrom_36 (by decide) ?_
  refine V_aload_n 0 d_Land_copyFrom_37 rfl rfl ?_
  refine V_getR fa_Land_9 sk_35 rfl d_Land_copyFrom_38 ?_
  refine V_iconst 0 d_Land_copyFrom_41 (by decide) ?_
  refine V_bipush 16 d_Land_copyFrom_42 (by decide) ?_
  refine N_acopy sk_2 sk_36 tc_0 tc_0 tc_16 (by omega) wa_Land_46 wA1 wA2 wA3 d_Land_copyFrom_44 (by decide) (Nat.le_of_ble_eq_true rfl) (fun h15 eh15 => ?_)
  have hI16 : Inv h15 := inv_cpy (n := 16) hI13 eh15 (fun _ => rfl)
  have f17 : fr S_Land_copyX_2_0 h h15 := fr_row f14 eh15 (fun _ => rfl)
  have C18 : rcp h h15 36 2 16 := rcp_now f14 (fun _ => rfl) eh15
  refine V_aload_n 1 d_Land_copyFrom_47 rfl rfl ?_
  refine V_getR fa_Land_15 sk_1 rfl d_Land_copyFrom_48 ?_
  refine V_iconst 0 d_Land_copyFrom_51 (by decide) ?_
  refine V_aload_n 0 d_Land_copyFrom_52 rfl rfl ?_
  refine V_getR fa_Land_15 sk_35 rfl d_Land_copyFrom_53 ?_
  refine V_iconst 0 d_Land_copyFrom_56 (by decide) ?_
  refine V_bipush 16 d_Land_copyFrom_57 (by decide) ?_
  refine N_acopy sk_3 sk_37 tc_0 tc_0 tc_16 (by omega) wa_Land_46 wA1 wA2 wA3 d_Land_copyFrom_59 (by decide) (Nat.le_of_ble_eq_true rfl) (fun h19 eh19 => ?_)
  have hI20 : Inv h19 := inv_cpy (n := 16) hI16 eh19 (fun _ => rfl)
  have f21 : fr S_Land_copyX_2_0 h h19 := fr_row f17 eh19 (fun _ => rfl)
  have C22 : rcp h h19 36 2 16 := rcp_row C18 eh19 (by decide)
  have C23 : rcp h h19 37 3 16 := rcp_now f17 (fun _ => rfl) eh19
  refine V_aload_n 1 d_Land_copyFrom_62 rfl rfl ?_
  refine V_getR fa_Land_18 sk_1 rfl d_Land_copyFrom_63 ?_
  refine V_iconst 0 d_Land_copyFrom_66 (by decide) ?_
  refine V_aload_n 0 d_Land_copyFrom_67 rfl rfl ?_
  refine V_getR fa_Land_18 sk_35 rfl d_Land_copyFrom_68 ?_
  refine V_iconst 0 d_Land_copyFrom_71 (by decide) ?_
  refine V_bipush 16 d_Land_copyFrom_72 (by decide) ?_
  refine N_acopy sk_4 sk_38 tc_0 tc_0 tc_16 (by omega) wa_Land_46 wA1 wA2 wA3 d_Land_copyFrom_74 (by decide) (Nat.le_of_ble_eq_true rfl) (fun h24 eh24 => ?_)
  have hI25 : Inv h24 := inv_cpy (n := 16) hI20 eh24 (fun _ => rfl)
  have f26 : fr S_Land_copyX_2_0 h h24 := fr_row f21 eh24 (fun _ => rfl)
  have C27 : rcp h h24 36 2 16 := rcp_row C22 eh24 (by decide)
  have C28 : rcp h h24 37 3 16 := rcp_row C23 eh24 (by decide)
  have C29 : rcp h h24 38 4 16 := rcp_now f21 (fun _ => rfl) eh24
  refine V_aload_n 1 d_Land_copyFrom_77 rfl rfl ?_
  refine V_getR fa_Land_21 sk_1 rfl d_Land_copyFrom_78 ?_
  refine V_iconst 0 d_Land_copyFrom_81 (by decide) ?_
  refine V_aload_n 0 d_Land_copyFrom_82 rfl rfl ?_
  refine V_getR fa_Land_21 sk_35 rfl d_Land_copyFrom_83 ?_
  refine V_iconst 0 d_Land_copyFrom_86 (by decide) ?_
  refine V_bipush 16 d_Land_copyFrom_87 (by decide) ?_
  refine N_acopy sk_5 sk_39 tc_0 tc_0 tc_16 (by omega) wa_Land_46 wA1 wA2 wA3 d_Land_copyFrom_89 (by decide) (Nat.le_of_ble_eq_true rfl) (fun h30 eh30 => ?_)
  have hI31 : Inv h30 := inv_cpy (n := 16) hI25 eh30 (fun _ => rfl)
  have f32 : fr S_Land_copyX_2_0 h h30 := fr_row f26 eh30 (fun _ => rfl)
  have C33 : rcp h h30 36 2 16 := rcp_row C27 eh30 (by decide)
  have C34 : rcp h h30 37 3 16 := rcp_row C28 eh30 (by decide)
  have C35 : rcp h h30 38 4 16 := rcp_row C29 eh30 (by decide)
  have C36 : rcp h h30 39 5 16 := rcp_now f26 (fun _ => rfl) eh30
  refine V_aload_n 1 d_Land_copyFrom_92 rfl rfl ?_
  refine V_getR fa_Land_24 sk_1 rfl d_Land_copyFrom_93 ?_
  refine V_iconst 0 d_Land_copyFrom_96 (by decide) ?_
  refine V_aload_n 0 d_Land_copyFrom_97 rfl rfl ?_
  refine V_getR fa_Land_24 sk_35 rfl d_Land_copyFrom_98 ?_
  refine V_iconst 0 d_Land_copyFrom_101 (by decide) ?_
  refine V_bipush 16 d_Land_copyFrom_102 (by decide) ?_
  refine N_acopy sk_6 sk_40 tc_0 tc_0 tc_16 (by omega) wa_Land_46 wA1 wA2 wA3 d_Land_copyFrom_104 (by decide) (Nat.le_of_ble_eq_true rfl) (fun h37 eh37 => ?_)
  have hI38 : Inv h37 := inv_cpy (n := 16) hI31 eh37 (fun _ => rfl)
  have f39 : fr S_Land_copyX_2_0 h h37 := fr_row f32 eh37 (fun _ => rfl)
  have C40 : rcp h h37 36 2 16 := rcp_row C33 eh37 (by decide)
  have C41 : rcp h h37 37 3 16 := rcp_row C34 eh37 (by decide)
  have C42 : rcp h h37 38 4 16 := rcp_row C35 eh37 (by decide)
  have C43 : rcp h h37 39 5 16 := rcp_row C36 eh37 (by decide)
  have C44 : rcp h h37 40 6 16 := rcp_now f32 (fun _ => rfl) eh37
  exact V_vret rfl d_Land_copyFrom_107 ⟨rfl, ⟨hI38, f39, ⟨((kn_row eh37 (kn_row eh30 (kn_row eh24 (kn_row eh19 (kn_row eh15 (kn_nei eh12 (kn_nei eh9 (kn_nei eh6 (kn_put eh3) (by decide)) (by decide)) (by decide)) (by decide)) (by decide)) (by decide)) (by decide)) (by decide)).trans wK.symm), ((kn_row eh37 (kn_row eh30 (kn_row eh24 (kn_row eh19 (kn_row eh15 (kn_nei eh12 (kn_nei eh9 (kn_put eh6) (by decide)) (by decide)) (by decide)) (by decide)) (by decide)) (by decide)) (by decide)).trans gK.symm), ((kn_row eh37 (kn_row eh30 (kn_row eh24 (kn_row eh19 (kn_row eh15 (kn_nei eh12 (kn_put eh9) (by decide)) (by decide)) (by decide)) (by decide)) (by decide)) (by decide)).trans xK.symm), ((kn_row eh37 (kn_row eh30 (kn_row eh24 (kn_row eh19 (kn_row eh15 (kn_put eh12) (by decide)) (by decide)) (by decide)) (by decide)) (by decide)).trans yK.symm), C40, C41, C42, C43, C44⟩⟩⟩
def S_Ledger_copyX_2_0 : List (Nat × Option Nat) := [(41, some 4), (42, none), (43, none), (44, none), (45, none)]
abbrev q_Ledger_copyX_2_0 (h : Hp) (t : Int32) (tZ : Int) : Option Value → Hp → Prop := pVd (fun h' => Inv h' ∧ fr S_Ledger_copyX_2_0 h h' ∧ (h'.1 41 4 = h.1 7 4 ∧ rcp h h' 42 8 4 ∧ rcp h h' 43 9 8 ∧ rcp h h' 44 10 8 ∧ rcp h h' 45 11 8))
set_option maxRecDepth 100000 in
theorem c_Ledger_copyX_2_0 (h : Hp) (hI : Inv h) (t : Int32) (tZ : Int) (tE : t.toInt = tZ) (tK : h.1 7 4 = t) : Ct y_Ledger_copyFrom b_Ledger_copyFrom 2 none 1 60 [.ref 41, .ref 7] h (q_Ledger_copyX_2_0 h t tZ) := by
  refine ct_ow R_Ledger [some (.ref 41), some (.ref 7)] rfl (by decide) rfl (Nat.le_of_ble_eq_true rfl) ?_
  have f0 : fr S_Ledger_copyX_2_0 h h := fr_rf
  have g1 : 0 ≤ tZ ∧ tZ ≤ 8 := inv_at hI tE tK.symm rfl
  refine V_aload_n 1 d_Ledger_copyFrom_0 rfl rfl ?_
  refine V_getR fa_Ledger_9 sk_7 rfl d_Ledger_copyFrom_1 ?_
  refine V_iconst 0 d_Ledger_copyFrom_4 (by decide) ?_
  refine V_aload_n 0 d_Ledger_copyFrom_5 rfl rfl ?_
  refine V_getR fa_Ledger_9 sk_41 rfl d_Ledger_copyFrom_6 ?_
  refine V_iconst 0 d_Ledger_copyFrom_9 (by decide) ?_
  refine V_iconst 4 d_Ledger_copyFrom_10 (by decide) ?_
  refine N_acopy sk_8 sk_42 tc_0 tc_0 tc_4 (by omega) wa_Ledger_34 wA1 wA2 wA3 d_Ledger_copyFrom_11 (by decide) (Nat.le_of_ble_eq_true rfl) (fun h2 eh2 => ?_)
  have hI3 : Inv h2 := inv_cpy (n := 4) hI eh2 (fun _ => rfl)
  have f4 : fr S_Ledger_copyX_2_0 h h2 := fr_row f0 eh2 (fun _ => rfl)
  have C5 : rcp h h2 42 8 4 := rcp_now f0 (fun _ => rfl) eh2
  refine V_aload_n 1 d_Ledger_copyFrom_14 rfl rfl ?_
  refine V_getR fa_Ledger_15 sk_7 rfl d_Ledger_copyFrom_15 ?_
  refine V_iconst 0 d_Ledger_copyFrom_18 (by decide) ?_
  refine V_aload_n 0 d_Ledger_copyFrom_19 rfl rfl ?_
  refine V_getR fa_Ledger_15 sk_41 rfl d_Ledger_copyFrom_20 ?_
  refine V_iconst 0 d_Ledger_copyFrom_23 (by decide) ?_
  refine V_bipush 8 d_Ledger_copyFrom_24 (by decide) ?_
  refine N_acopy sk_9 sk_43 tc_0 tc_0 tc_8 (by omega) wa_Ledger_34 wA1 wA2 wA3 d_Ledger_copyFrom_26 (by decide) (Nat.le_of_ble_eq_true rfl) (fun h6 eh6 => ?_)
  have hI7 : Inv h6 := inv_cpy (n := 8) hI3 eh6 (fun _ => rfl)
  have f8 : fr S_Ledger_copyX_2_0 h h6 := fr_row f4 eh6 (fun _ => rfl)
  have C9 : rcp h h6 42 8 4 := rcp_row C5 eh6 (by decide)
  have C10 : rcp h h6 43 9 8 := rcp_now f4 (fun _ => rfl) eh6
  refine V_aload_n 1 d_Ledger_copyFrom_29 rfl rfl ?_
  refine V_getR fa_Ledger_18 sk_7 rfl d_Ledger_copyFrom_30 ?_
  refine V_iconst 0 d_Ledger_copyFrom_33 (by decide) ?_
  refine V_aload_n 0 d_Ledger_copyFrom_34 rfl rfl ?_
  refine V_getR fa_Ledger_18 sk_41 rfl d_Ledger_copyFrom_35 ?_
  refine V_iconst 0 d_Ledger_copyFrom_38 (by decide) ?_
  refine V_bipush 8 d_Ledger_copyFrom_39 (by decide) ?_
  refine N_acopy sk_10 sk_44 tc_0 tc_0 tc_8 (by omega) wa_Ledger_34 wA1 wA2 wA3 d_Ledger_copyFrom_41 (by decide) (Nat.le_of_ble_eq_true rfl) (fun h11 eh11 => ?_)
  have hI12 : Inv h11 := inv_cpy (n := 8) hI7 eh11 (fun _ => rfl)
  have f13 : fr S_Ledger_copyX_2_0 h h11 := fr_row f8 eh11 (fun _ => rfl)
  have C14 : rcp h h11 42 8 4 := rcp_row C9 eh11 (by decide)
  have C15 : rcp h h11 43 9 8 := rcp_row C10 eh11 (by decide)
  have C16 : rcp h h11 44 10 8 := rcp_now f8 (fun _ => rfl) eh11
  refine V_aload_n 1 d_Ledger_copyFrom_44 rfl rfl ?_
  refine V_getR fa_Ledger_21 sk_7 rfl d_Ledger_copyFrom_45 ?_
  refine V_iconst 0 d_Ledger_copyFrom_48 (by decide) ?_
  refine V_aload_n 0 d_Ledger_copyFrom_49 rfl rfl ?_
  refine V_getR fa_Ledger_21 sk_41 rfl d_Ledger_copyFrom_50 ?_
  refine V_iconst 0 d_Ledger_copyFrom_53 (by decide) ?_
  refine V_bipush 8 d_Ledger_copyFrom_54 (by decide) ?_
  refine N_acopy sk_11 sk_45 tc_0 tc_0 tc_8 (by omega) wa_Ledger_34 wA1 wA2 wA3 d_Ledger_copyFrom_56 (by decide) (Nat.le_of_ble_eq_true rfl) (fun h17 eh17 => ?_)
  have hI18 : Inv h17 := inv_cpy (n := 8) hI12 eh17 (fun _ => rfl)
  have f19 : fr S_Ledger_copyX_2_0 h h17 := fr_row f13 eh17 (fun _ => rfl)
  have C20 : rcp h h17 42 8 4 := rcp_row C14 eh17 (by decide)
  have C21 : rcp h h17 43 9 8 := rcp_row C15 eh17 (by decide)
  have C22 : rcp h h17 44 10 8 := rcp_row C16 eh17 (by decide)
  have C23 : rcp h h17 45 11 8 := rcp_now f13 (fun _ => rfl) eh17
  refine V_aload_n 0 d_Ledger_copyFrom_59 rfl rfl ?_
  refine V_aload_n 1 d_Ledger_copyFrom_60 rfl rfl ?_
  refine N_getK fa_Ledger_30 sk_7 rfl d_Ledger_copyFrom_61 (kn_row eh17 (kn_row eh11 (kn_row eh6 (kn_row eh2 tK (by decide)) (by decide)) (by decide)) (by decide)) ?_
  refine N_putI fp_Ledger_30 sk_41 rfl d_Ledger_copyFrom_64 (fun h24 eh24 => ?_)
  have hI25 : Inv h24 := inv_put (lo := 0) (hi := 8) hI18 eh24 rfl tE (by omega)
  have f26 : fr S_Ledger_copyX_2_0 h h24 := fr_put f19 eh24 rfl
  have C27 : rcp h h24 42 8 4 := rcp_put C20 eh24 (by decide)
  have C28 : rcp h h24 43 9 8 := rcp_put C21 eh24 (by decide)
  have C29 : rcp h h24 44 10 8 := rcp_put C22 eh24 (by decide)
  have C30 : rcp h h24 45 11 8 := rcp_put C23 eh24 (by decide)
  exact V_vret rfl d_Ledger_copyFrom_67 ⟨rfl, ⟨hI25, f26, ⟨((kn_put eh24).trans tK.symm), C27, C28, C29, C30⟩⟩⟩
def S_Sights_copyX_2_0 : List (Nat × Option Nat) := [(46, some 4), (47, none), (48, none), (49, none), (50, none)]
abbrev q_Sights_copyX_2_0 (h : Hp) (t : Int32) (tZ : Int) : Option Value → Hp → Prop := pVd (fun h' => Inv h' ∧ fr S_Sights_copyX_2_0 h h' ∧ (h'.1 46 4 = h.1 12 4 ∧ rcp h h' 47 13 8 ∧ rcp h h' 48 14 8 ∧ rcp h h' 49 15 8 ∧ rcp h h' 50 16 8))
set_option maxRecDepth 100000 in
theorem c_Sights_copyX_2_0 (h : Hp) (hI : Inv h) (t : Int32) (tZ : Int) (tE : t.toInt = tZ) (tK : h.1 12 4 = t) : Ct y_Sights_copyFrom b_Sights_copyFrom 2 none 1 60 [.ref 46, .ref 12] h (q_Sights_copyX_2_0 h t tZ) := by
  refine ct_ow R_Sights [some (.ref 46), some (.ref 12)] rfl (by decide) rfl (Nat.le_of_ble_eq_true rfl) ?_
  have f0 : fr S_Sights_copyX_2_0 h h := fr_rf
  have g1 : 0 ≤ tZ ∧ tZ ≤ 8 := inv_at hI tE tK.symm rfl
  refine V_aload_n 1 d_Sights_copyFrom_0 rfl rfl ?_
  refine V_getR fa_Sights_9 sk_12 rfl d_Sights_copyFrom_1 ?_
  refine V_iconst 0 d_Sights_copyFrom_4 (by decide) ?_
  refine V_aload_n 0 d_Sights_copyFrom_5 rfl rfl ?_
  refine V_getR fa_Sights_9 sk_46 rfl d_Sights_copyFrom_6 ?_
  refine V_iconst 0 d_Sights_copyFrom_9 (by decide) ?_
  refine V_bipush 8 d_Sights_copyFrom_10 (by decide) ?_
  refine N_acopy sk_13 sk_47 tc_0 tc_0 tc_8 (by omega) wa_Sights_24 wA1 wA2 wA3 d_Sights_copyFrom_12 (by decide) (Nat.le_of_ble_eq_true rfl) (fun h2 eh2 => ?_)
  have hI3 : Inv h2 := inv_cpy (n := 8) hI eh2 (fun _ => rfl)
  have f4 : fr S_Sights_copyX_2_0 h h2 := fr_row f0 eh2 (fun _ => rfl)
  have C5 : rcp h h2 47 13 8 := rcp_now f0 (fun _ => rfl) eh2
  refine V_aload_n 1 d_Sights_copyFrom_15 rfl rfl ?_
  refine V_getR fa_Sights_15 sk_12 rfl d_Sights_copyFrom_16 ?_
  refine V_iconst 0 d_Sights_copyFrom_19 (by decide) ?_
  refine V_aload_n 0 d_Sights_copyFrom_20 rfl rfl ?_
  refine V_getR fa_Sights_15 sk_46 rfl d_Sights_copyFrom_21 ?_
  refine V_iconst 0 d_Sights_copyFrom_24 (by decide) ?_
  refine V_bipush 8 d_Sights_copyFrom_25 (by decide) ?_
  refine N_acopy sk_14 sk_48 tc_0 tc_0 tc_8 (by omega) wa_Sights_24 wA1 wA2 wA3 d_Sights_copyFrom_27 (by decide) (Nat.le_of_ble_eq_true rfl) (fun h6 eh6 => ?_)
  have hI7 : Inv h6 := inv_cpy (n := 8) hI3 eh6 (fun _ => rfl)
  have f8 : fr S_Sights_copyX_2_0 h h6 := fr_row f4 eh6 (fun _ => rfl)
  have C9 : rcp h h6 47 13 8 := rcp_row C5 eh6 (by decide)
  have C10 : rcp h h6 48 14 8 := rcp_now f4 (fun _ => rfl) eh6
  refine V_aload_n 1 d_Sights_copyFrom_30 rfl rfl ?_
  refine V_getR fa_Sights_18 sk_12 rfl d_Sights_copyFrom_31 ?_
  refine V_iconst 0 d_Sights_copyFrom_34 (by decide) ?_
  refine V_aload_n 0 d_Sights_copyFrom_35 rfl rfl ?_
  refine V_getR fa_Sights_18 sk_46 rfl d_Sights_copyFrom_36 ?_
  refine V_iconst 0 d_Sights_copyFrom_39 (by decide) ?_
  refine V_bipush 8 d_Sights_copyFrom_40 (by decide) ?_
  refine N_acopy sk_15 sk_49 tc_0 tc_0 tc_8 (by omega) wa_Sights_24 wA1 wA2 wA3 d_Sights_copyFrom_42 (by decide) (Nat.le_of_ble_eq_true rfl) (fun h11 eh11 => ?_)
  have hI12 : Inv h11 := inv_cpy (n := 8) hI7 eh11 (fun _ => rfl)
  have f13 : fr S_Sights_copyX_2_0 h h11 := fr_row f8 eh11 (fun _ => rfl)
  have C14 : rcp h h11 47 13 8 := rcp_row C9 eh11 (by decide)
  have C15 : rcp h h11 48 14 8 := rcp_row C10 eh11 (by decide)
  have C16 : rcp h h11 49 15 8 := rcp_now f8 (fun _ => rfl) eh11
  refine V_aload_n 1 d_Sights_copyFrom_45 rfl rfl ?_
  refine V_getR fa_Sights_21 sk_12 rfl d_Sights_copyFrom_46 ?_
  refine V_iconst 0 d_Sights_copyFrom_49 (by decide) ?_
  refine V_aload_n 0 d_Sights_copyFrom_50 rfl rfl ?_
  refine V_getR fa_Sights_21 sk_46 rfl d_Sights_copyFrom_51 ?_
  refine V_iconst 0 d_Sights_copyFrom_54 (by decide) ?_
  refine V_bipush 8 d_Sights_copyFrom_55 (by decide) ?_
  refine N_acopy sk_16 sk_50 tc_0 tc_0 tc_8 (by omega) wa_Sights_24 wA1 wA2 wA3 d_Sights_copyFrom_57 (by decide) (Nat.le_of_ble_eq_true rfl) (fun h17 eh17 => ?_)
  have hI18 : Inv h17 := inv_cpy (n := 8) hI12 eh17 (fun _ => rfl)
  have f19 : fr S_Sights_copyX_2_0 h h17 := fr_row f13 eh17 (fun _ => rfl)
  have C20 : rcp h h17 47 13 8 := rcp_row C14 eh17 (by decide)
  have C21 : rcp h h17 48 14 8 := rcp_row C15 eh17 (by decide)
  have C22 : rcp h h17 49 15 8 := rcp_row C16 eh17 (by decide)
  have C23 : rcp h h17 50 16 8 := rcp_now f13 (fun _ => rfl) eh17
  refine V_aload_n 0 d_Sights_copyFrom_60 rfl rfl ?_
  refine V_aload_n 1 d_Sights_copyFrom_61 rfl rfl ?_
  refine N_getK fa_Sights_30 sk_12 rfl d_Sights_copyFrom_62 (kn_row eh17 (kn_row eh11 (kn_row eh6 (kn_row eh2 tK (by decide)) (by decide)) (by decide)) (by decide)) ?_
  refine N_putI fp_Sights_30 sk_46 rfl d_Sights_copyFrom_65 (fun h24 eh24 => ?_)
  have hI25 : Inv h24 := inv_put (lo := 0) (hi := 8) hI18 eh24 rfl tE (by omega)
  have f26 : fr S_Sights_copyX_2_0 h h24 := fr_put f19 eh24 rfl
  have C27 : rcp h h24 47 13 8 := rcp_put C20 eh24 (by decide)
  have C28 : rcp h h24 48 14 8 := rcp_put C21 eh24 (by decide)
  have C29 : rcp h h24 49 15 8 := rcp_put C22 eh24 (by decide)
  have C30 : rcp h h24 50 16 8 := rcp_put C23 eh24 (by decide)
  exact V_vret rfl d_Sights_copyFrom_68 ⟨rfl, ⟨hI25, f26, ⟨((kn_put eh24).trans tK.symm), C27, C28, C29, C30⟩⟩⟩
def S_County_copyX_2_0 : List (Nat × Option Nat) := [(34, some 3), (34, some 4), (35, none), (36, none), (37, none), (38, none), (39, none), (40, none), (41, some 4), (42, none), (43, none), (44, none), (45, none), (46, some 4), (47, none), (48, none), (49, none), (50, none)]
abbrev q_County_copyX_2_0 (h : Hp) (n : Int32) (nZ : Int) (m : Int32) (mZ : Int) : Option Value → Hp → Prop := pVd (fun h' => Inv h' ∧ fr S_County_copyX_2_0 h h' ∧ (cpy h h' 34 0))
set_option maxRecDepth 100000 in
theorem c_County_copyX_2_0 (h : Hp) (hI : Inv h) (n : Int32) (nZ : Int) (nE : n.toInt = nZ) (nK : h.1 0 3 = n) (m : Int32) (mZ : Int) (mE : m.toInt = mZ) (mK : h.1 0 4 = m) : Ct y_County_copyFrom b_County_copyFrom 2 none 2 81 [.ref 34, .ref 0] h (q_County_copyX_2_0 h n nZ m mZ) := by
  refine ct_ow R_County [some (.ref 34), some (.ref 0)] rfl (by decide) rfl (Nat.le_of_ble_eq_true rfl) ?_
  have f0 : fr S_County_copyX_2_0 h h := fr_rf
  refine V_aload_n 0 d_County_copyFrom_0 rfl rfl ?_
  refine V_getR fa_County_12 sk_34 rfl d_County_copyFrom_1 ?_
  refine V_aload_n 1 d_County_copyFrom_4 rfl rfl ?_
  refine V_getR fa_County_12 sk_0 rfl d_County_copyFrom_5 ?_
  obtain ⟨z1, z1Z, z1E, z1e⟩ : ∃ (y : Int32) (Y : Int), y.toInt = Y ∧ y = h.1 1 0 := ⟨_, _, rfl, rfl⟩
  have g2 : 2 ≤ z1Z ∧ z1Z ≤ 4 := inv_at hI z1E z1e rfl
  obtain ⟨z3, z3Z, z3E, z3e⟩ : ∃ (y : Int32) (Y : Int), y.toInt = Y ∧ y = h.1 1 1 := ⟨_, _, rfl, rfl⟩
  have g4 : 2 ≤ z3Z ∧ z3Z ≤ 4 := inv_at hI z3E z3e rfl
  obtain ⟨z5, z5Z, z5E, z5e⟩ : ∃ (y : Int32) (Y : Int), y.toInt = Y ∧ y = h.1 1 2 := ⟨_, _, rfl, rfl⟩
  obtain ⟨z6, z6Z, z6E, z6e⟩ : ∃ (y : Int32) (Y : Int), y.toInt = Y ∧ y = h.1 1 3 := ⟨_, _, rfl, rfl⟩
  refine N_callVV [.ref 1] [] cv_County_47 sk_35 rfl d_County_copyFrom_8 rfl (Nat.le_of_ble_eq_true rfl) (by decide) (by decide) (c_Land_copyX_2_0 h hI z1 z1Z z1E z1e.symm z3 z3Z z3E z3e.symm z5 z5Z z5E z5e.symm z6 z6Z z6E z6e.symm) (fun h8 p9 => ?_)
  obtain ⟨hI10, fh8, p9⟩ := p9
  have f11 : fr S_County_copyX_2_0 h h8 := fr_call f0 fh8 rfl
  have qL := p9
  refine V_aload_n 0 d_County_copyFrom_11 rfl rfl ?_
  refine V_getR fa_County_21 sk_34 rfl d_County_copyFrom_12 ?_
  refine V_aload_n 1 d_County_copyFrom_15 rfl rfl ?_
  refine V_getR fa_County_21 sk_0 rfl d_County_copyFrom_16 ?_
  obtain ⟨z12, z12Z, z12E, z12e⟩ : ∃ (y : Int32) (Y : Int), y.toInt = Y ∧ y = h8.1 7 4 := ⟨_, _, rfl, rfl⟩
  have g13 : 0 ≤ z12Z ∧ z12Z ≤ 8 := inv_at hI10 z12E z12e rfl
  refine N_callVV [.ref 7] [] cv_County_51 sk_41 rfl d_County_copyFrom_19 rfl (Nat.le_of_ble_eq_true rfl) (by decide) (by decide) (c_Ledger_copyX_2_0 h8 hI10 z12 z12Z z12E z12e.symm) (fun h15 p16 => ?_)
  obtain ⟨hI17, fh15, p16⟩ := p16
  have f18 : fr S_County_copyX_2_0 h h15 := fr_call f11 fh15 rfl
  have qG := p16
  refine V_aload_n 0 d_County_copyFrom_22 rfl rfl ?_
  refine V_getR fa_County_28 sk_34 rfl d_County_copyFrom_23 ?_
  refine V_aload_n 1 d_County_copyFrom_26 rfl rfl ?_
  refine V_getR fa_County_28 sk_0 rfl d_County_copyFrom_27 ?_
  obtain ⟨z19, z19Z, z19E, z19e⟩ : ∃ (y : Int32) (Y : Int), y.toInt = Y ∧ y = h15.1 12 4 := ⟨_, _, rfl, rfl⟩
  have g20 : 0 ≤ z19Z ∧ z19Z ≤ 8 := inv_at hI17 z19E z19e rfl
  refine N_callVV [.ref 12] [] cv_County_54 sk_46 rfl d_County_copyFrom_30 rfl (Nat.le_of_ble_eq_true rfl) (by decide) (by decide) (c_Sights_copyX_2_0 h15 hI17 z19 z19Z z19E z19e.symm) (fun h22 p23 => ?_)
  obtain ⟨hI24, fh22, p23⟩ := p23
  have f25 : fr S_County_copyX_2_0 h h22 := fr_call f18 fh22 rfl
  have qS := p23
  refine V_aload_n 0 d_County_copyFrom_33 rfl rfl ?_
  refine V_aload_n 1 d_County_copyFrom_34 rfl rfl ?_
  refine N_getK fa_County_41 sk_0 rfl d_County_copyFrom_35 (kn_call fh22 (kn_call fh15 (kn_call fh8 nK rfl) rfl) rfl) ?_
  refine N_putI fp_County_41 sk_34 rfl d_County_copyFrom_38 (fun h26 eh26 => ?_)
  have hI27 : Inv h26 := inv_full hI24 eh26 rfl
  have f28 : fr S_County_copyX_2_0 h h26 := fr_put f25 eh26 rfl
  refine V_aload_n 0 d_County_copyFrom_41 rfl rfl ?_
  refine V_aload_n 1 d_County_copyFrom_42 rfl rfl ?_
  refine N_getK fa_County_44 sk_0 rfl d_County_copyFrom_43 (kn_ne eh26 (kn_call fh22 (kn_call fh15 (kn_call fh8 mK rfl) rfl) rfl) (by decide)) ?_
  refine N_putI fp_County_44 sk_34 rfl d_County_copyFrom_46 (fun h29 eh29 => ?_)
  have hI30 : Inv h29 := inv_full hI27 eh29 rfl
  have f31 : fr S_County_copyX_2_0 h h29 := fr_put f28 eh29 rfl
  exact V_vret rfl d_County_copyFrom_49 ⟨rfl, ⟨hI30, f31, (cpy_of (a := 34) (b := 0) qL fh15 qG fh22 qS fh8 eh26 eh29 nK mK rfl rfl rfl rfl)⟩⟩
def S_Land_copyX_3_0 : List (Nat × Option Nat) := [(52, none), (53, none), (54, none), (55, none), (56, none), (57, none)]
abbrev q_Land_copyX_3_0 (h : Hp) (w : Int32) (wZ : Int) (g : Int32) (gZ : Int) (x : Int32) (xZ : Int) (y : Int32) (yZ : Int) : Option Value → Hp → Prop := pVd (fun h' => Inv h' ∧ fr S_Land_copyX_3_0 h h' ∧ (h'.1 52 0 = h.1 1 0 ∧ h'.1 52 1 = h.1 1 1 ∧ h'.1 52 2 = h.1 1 2 ∧ h'.1 52 3 = h.1 1 3 ∧ rcp h h' 53 2 16 ∧ rcp h h' 54 3 16 ∧ rcp h h' 55 4 16 ∧ rcp h h' 56 5 16 ∧ rcp h h' 57 6 16))
set_option maxRecDepth 100000 in
theorem c_Land_copyX_3_0 (h : Hp) (hI : Inv h) (w : Int32) (wZ : Int) (wE : w.toInt = wZ) (wK : h.1 1 0 = w) (g : Int32) (gZ : Int) (gE : g.toInt = gZ) (gK : h.1 1 1 = g) (x : Int32) (xZ : Int) (xE : x.toInt = xZ) (xK : h.1 1 2 = x) (y : Int32) (yZ : Int) (yE : y.toInt = yZ) (yK : h.1 1 3 = y) : Ct y_Land_copyFrom b_Land_copyFrom 2 none 1 60 [.ref 52, .ref 1] h (q_Land_copyX_3_0 h w wZ g gZ x xZ y yZ) := by
  refine ct_ow R_Land [some (.ref 52), some (.ref 1)] rfl (by decide) rfl (Nat.le_of_ble_eq_true rfl) ?_
  have f0 : fr S_Land_copyX_3_0 h h := fr_rf
  have g1 : 2 ≤ wZ ∧ wZ ≤ 4 := inv_at hI wE wK.symm rfl
  have g2 : 2 ≤ gZ ∧ gZ ≤ 4 := inv_at hI gE gK.symm rfl
  refine V_aload_n 0 d_Land_copyFrom_0 rfl rfl ?_
  refine V_aload_n 1 d_Land_copyFrom_1 rfl rfl ?_
  refine N_getK fa_Land_27 sk_1 rfl d_Land_copyFrom_2 wK ?_
  refine N_putI fp_Land_27 sk_52 rfl d_Land_copyFrom_5 (fun h3 eh3 => ?_)
  have hI4 : Inv h3 := inv_put (lo := 2) (hi := 4) hI eh3 rfl wE (by omega)
  have f5 : fr S_Land_copyX_3_0 h h3 := fr_put f0 eh3 rfl
  refine V_aload_n 0 d_Land_copyFrom_8 rfl rfl ?_
  refine V_aload_n 1 d_Land_copyFrom_9 rfl rfl ?_
  refine N_getK fa_Land_31 sk_1 rfl d_Land_copyFrom_10 (kn_ne eh3 gK (by decide)) ?_
  refine N_putI fp_Land_31 sk_52 rfl d_Land_copyFrom_13 (fun h6 eh6 => ?_)
  have hI7 : Inv h6 := inv_put (lo := 2) (hi := 4) hI4 eh6 rfl gE (by omega)
  have f8 : fr S_Land_copyX_3_0 h h6 := fr_put f5 eh6 rfl
  refine V_aload_n 0 d_Land_copyFrom_16 rfl rfl ?_
  refine V_aload_n 1 d_Land_copyFrom_17 rfl rfl ?_
  refine N_getK fa_Land_34 sk_1 rfl d_Land_copyFrom_18 (kn_ne eh6 (kn_ne eh3 xK (by decide)) (by decide)) ?_
  refine N_putI fp_Land_34 sk_52 rfl d_Land_copyFrom_21 (fun h9 eh9 => ?_)
  have hI10 : Inv h9 := inv_full hI7 eh9 rfl
  have f11 : fr S_Land_copyX_3_0 h h9 := fr_put f8 eh9 rfl
  refine V_aload_n 0 d_Land_copyFrom_24 rfl rfl ?_
  refine V_aload_n 1 d_Land_copyFrom_25 rfl rfl ?_
  refine N_getK fa_Land_37 sk_1 rfl d_Land_copyFrom_26 (kn_ne eh9 (kn_ne eh6 (kn_ne eh3 yK (by decide)) (by decide)) (by decide)) ?_
  refine N_putI fp_Land_37 sk_52 rfl d_Land_copyFrom_29 (fun h12 eh12 => ?_)
  have hI13 : Inv h12 := inv_full hI10 eh12 rfl
  have f14 : fr S_Land_copyX_3_0 h h12 := fr_put f11 eh12 rfl
  refine V_aload_n 1 d_Land_copyFrom_32 rfl rfl ?_
  refine V_getR fa_Land_9 sk_1 rfl d_Land_copyFrom_33 ?_
  refine V_iconst 0 d_Land_copyFrom_36 (by decide) ?_
  refine V_aload_n 0 d_Land_copyFrom_37 rfl rfl ?_
  refine V_getR fa_Land_9 sk_52 rfl d_Land_copyFrom_38 ?_
  refine V_iconst 0 d_Land_copyFrom_41 (by decide) ?_
  refine V_bipush 16 d_Land_copyFrom_42 (by decide) ?_
  refine N_acopy sk_2 sk_53 tc_0 tc_0 tc_16 (by omega) wa_Land_46 wA1 wA2 wA3 d_Land_copyFrom_44 (by decide) (Nat.le_of_ble_eq_true rfl) (fun h15 eh15 => ?_)
  have hI16 : Inv h15 := inv_cpy (n := 16) hI13 eh15 (fun _ => rfl)
  have f17 : fr S_Land_copyX_3_0 h h15 := fr_row f14 eh15 (fun _ => rfl)
  have C18 : rcp h h15 53 2 16 := rcp_now f14 (fun _ => rfl) eh15
  refine V_aload_n 1 d_Land_copyFrom_47 rfl rfl ?_
  refine V_getR fa_Land_15 sk_1 rfl d_Land_copyFrom_48 ?_
  refine V_iconst 0 d_Land_copyFrom_51 (by decide) ?_
  refine V_aload_n 0 d_Land_copyFrom_52 rfl rfl ?_
  refine V_getR fa_Land_15 sk_52 rfl d_Land_copyFrom_53 ?_
  refine V_iconst 0 d_Land_copyFrom_56 (by decide) ?_
  refine V_bipush 16 d_Land_copyFrom_57 (by decide) ?_
  refine N_acopy sk_3 sk_54 tc_0 tc_0 tc_16 (by omega) wa_Land_46 wA1 wA2 wA3 d_Land_copyFrom_59 (by decide) (Nat.le_of_ble_eq_true rfl) (fun h19 eh19 => ?_)
  have hI20 : Inv h19 := inv_cpy (n := 16) hI16 eh19 (fun _ => rfl)
  have f21 : fr S_Land_copyX_3_0 h h19 := fr_row f17 eh19 (fun _ => rfl)
  have C22 : rcp h h19 53 2 16 := rcp_row C18 eh19 (by decide)
  have C23 : rcp h h19 54 3 16 := rcp_now f17 (fun _ => rfl) eh19
  refine V_aload_n 1 d_Land_copyFrom_62 rfl rfl ?_
  refine V_getR fa_Land_18 sk_1 rfl d_Land_copyFrom_63 ?_
  refine V_iconst 0 d_Land_copyFrom_66 (by decide) ?_
  refine V_aload_n 0 d_Land_copyFrom_67 rfl rfl ?_
  refine V_getR fa_Land_18 sk_52 rfl d_Land_copyFrom_68 ?_
  refine V_iconst 0 d_Land_copyFrom_71 (by decide) ?_
  refine V_bipush 16 d_Land_copyFrom_72 (by decide) ?_
  refine N_acopy sk_4 sk_55 tc_0 tc_0 tc_16 (by omega) wa_Land_46 wA1 wA2 wA3 d_Land_copyFrom_74 (by decide) (Nat.le_of_ble_eq_true rfl) (fun h24 eh24 => ?_)
  have hI25 : Inv h24 := inv_cpy (n := 16) hI20 eh24 (fun _ => rfl)
  have f26 : fr S_Land_copyX_3_0 h h24 := fr_row f21 eh24 (fun _ => rfl)
  have C27 : rcp h h24 53 2 16 := rcp_row C22 eh24 (by decide)
  have C28 : rcp h h24 54 3 16 := rcp_row C23 eh24 (by decide)
  have C29 : rcp h h24 55 4 16 := rcp_now f21 (fun _ => rfl) eh24
  refine V_aload_n 1 d_Land_copyFrom_77 rfl rfl ?_
  refine V_getR fa_Land_21 sk_1 rfl d_Land_copyFrom_78 ?_
  refine V_iconst 0 d_Land_copyFrom_81 (by decide) ?_
  refine V_aload_n 0 d_Land_copyFrom_82 rfl rfl ?_
  refine V_getR fa_Land_21 sk_52 rfl d_Land_copyFrom_83 ?_
  refine V_iconst 0 d_Land_copyFrom_86 (by decide) ?_
  refine V_bipush 16 d_Land_copyFrom_87 (by decide) ?_
  refine N_acopy sk_5 sk_56 tc_0 tc_0 tc_16 (by omega) wa_Land_46 wA1 wA2 wA3 d_Land_copyFrom_89 (by decide) (Nat.le_of_ble_eq_true rfl) (fun h30 eh30 => ?_)
  have hI31 : Inv h30 := inv_cpy (n := 16) hI25 eh30 (fun _ => rfl)
  have f32 : fr S_Land_copyX_3_0 h h30 := fr_row f26 eh30 (fun _ => rfl)
  have C33 : rcp h h30 53 2 16 := rcp_row C27 eh30 (by decide)
  have C34 : rcp h h30 54 3 16 := rcp_row C28 eh30 (by decide)
  have C35 : rcp h h30 55 4 16 := rcp_row C29 eh30 (by decide)
  have C36 : rcp h h30 56 5 16 := rcp_now f26 (fun _ => rfl) eh30
  refine V_aload_n 1 d_Land_copyFrom_92 rfl rfl ?_
  refine V_getR fa_Land_24 sk_1 rfl d_Land_copyFrom_93 ?_
  refine V_iconst 0 d_Land_copyFrom_96 (by decide) ?_
  refine V_aload_n 0 d_Land_copyFrom_97 rfl rfl ?_
  refine V_getR fa_Land_24 sk_52 rfl d_Land_copyFrom_98 ?_
  refine V_iconst 0 d_Land_copyFrom_101 (by decide) ?_
  refine V_bipush 16 d_Land_copyFrom_102 (by decide) ?_
  refine N_acopy sk_6 sk_57 tc_0 tc_0 tc_16 (by omega) wa_Land_46 wA1 wA2 wA3 d_Land_copyFrom_104 (by decide) (Nat.le_of_ble_eq_true rfl) (fun h37 eh37 => ?_)
  have hI38 : Inv h37 := inv_cpy (n := 16) hI31 eh37 (fun _ => rfl)
  have f39 : fr S_Land_copyX_3_0 h h37 := fr_row f32 eh37 (fun _ => rfl)
  have C40 : rcp h h37 53 2 16 := rcp_row C33 eh37 (by decide)
  have C41 : rcp h h37 54 3 16 := rcp_row C34 eh37 (by decide)
  have C42 : rcp h h37 55 4 16 := rcp_row C35 eh37 (by decide)
  have C43 : rcp h h37 56 5 16 := rcp_row C36 eh37 (by decide)
  have C44 : rcp h h37 57 6 16 := rcp_now f32 (fun _ => rfl) eh37
  exact V_vret rfl d_Land_copyFrom_107 ⟨rfl, ⟨hI38, f39, ⟨((kn_row eh37 (kn_row eh30 (kn_row eh24 (kn_row eh19 (kn_row eh15 (kn_nei eh12 (kn_nei eh9 (kn_nei eh6 (kn_put eh3) (by decide)) (by decide)) (by decide)) (by decide)) (by decide)) (by decide)) (by decide)) (by decide)).trans wK.symm), ((kn_row eh37 (kn_row eh30 (kn_row eh24 (kn_row eh19 (kn_row eh15 (kn_nei eh12 (kn_nei eh9 (kn_put eh6) (by decide)) (by decide)) (by decide)) (by decide)) (by decide)) (by decide)) (by decide)).trans gK.symm), ((kn_row eh37 (kn_row eh30 (kn_row eh24 (kn_row eh19 (kn_row eh15 (kn_nei eh12 (kn_put eh9) (by decide)) (by decide)) (by decide)) (by decide)) (by decide)) (by decide)).trans xK.symm), ((kn_row eh37 (kn_row eh30 (kn_row eh24 (kn_row eh19 (kn_row eh15 (kn_put eh12) (by decide)) (by decide)) (by decide)) (by decide)) (by decide)).trans yK.symm), C40, C41, C42, C43, C44⟩⟩⟩
def S_Ledger_copyX_3_0 : List (Nat × Option Nat) := [(58, some 4), (59, none), (60, none), (61, none), (62, none)]
abbrev q_Ledger_copyX_3_0 (h : Hp) (t : Int32) (tZ : Int) : Option Value → Hp → Prop := pVd (fun h' => Inv h' ∧ fr S_Ledger_copyX_3_0 h h' ∧ (h'.1 58 4 = h.1 7 4 ∧ rcp h h' 59 8 4 ∧ rcp h h' 60 9 8 ∧ rcp h h' 61 10 8 ∧ rcp h h' 62 11 8))
set_option maxRecDepth 100000 in
theorem c_Ledger_copyX_3_0 (h : Hp) (hI : Inv h) (t : Int32) (tZ : Int) (tE : t.toInt = tZ) (tK : h.1 7 4 = t) : Ct y_Ledger_copyFrom b_Ledger_copyFrom 2 none 1 60 [.ref 58, .ref 7] h (q_Ledger_copyX_3_0 h t tZ) := by
  refine ct_ow R_Ledger [some (.ref 58), some (.ref 7)] rfl (by decide) rfl (Nat.le_of_ble_eq_true rfl) ?_
  have f0 : fr S_Ledger_copyX_3_0 h h := fr_rf
  have g1 : 0 ≤ tZ ∧ tZ ≤ 8 := inv_at hI tE tK.symm rfl
  refine V_aload_n 1 d_Ledger_copyFrom_0 rfl rfl ?_
  refine V_getR fa_Ledger_9 sk_7 rfl d_Ledger_copyFrom_1 ?_
  refine V_iconst 0 d_Ledger_copyFrom_4 (by decide) ?_
  refine V_aload_n 0 d_Ledger_copyFrom_5 rfl rfl ?_
  refine V_getR fa_Ledger_9 sk_58 rfl d_Ledger_copyFrom_6 ?_
  refine V_iconst 0 d_Ledger_copyFrom_9 (by decide) ?_
  refine V_iconst 4 d_Ledger_copyFrom_10 (by decide) ?_
  refine N_acopy sk_8 sk_59 tc_0 tc_0 tc_4 (by omega) wa_Ledger_34 wA1 wA2 wA3 d_Ledger_copyFrom_11 (by decide) (Nat.le_of_ble_eq_true rfl) (fun h2 eh2 => ?_)
  have hI3 : Inv h2 := inv_cpy (n := 4) hI eh2 (fun _ => rfl)
  have f4 : fr S_Ledger_copyX_3_0 h h2 := fr_row f0 eh2 (fun _ => rfl)
  have C5 : rcp h h2 59 8 4 := rcp_now f0 (fun _ => rfl) eh2
  refine V_aload_n 1 d_Ledger_copyFrom_14 rfl rfl ?_
  refine V_getR fa_Ledger_15 sk_7 rfl d_Ledger_copyFrom_15 ?_
  refine V_iconst 0 d_Ledger_copyFrom_18 (by decide) ?_
  refine V_aload_n 0 d_Ledger_copyFrom_19 rfl rfl ?_
  refine V_getR fa_Ledger_15 sk_58 rfl d_Ledger_copyFrom_20 ?_
  refine V_iconst 0 d_Ledger_copyFrom_23 (by decide) ?_
  refine V_bipush 8 d_Ledger_copyFrom_24 (by decide) ?_
  refine N_acopy sk_9 sk_60 tc_0 tc_0 tc_8 (by omega) wa_Ledger_34 wA1 wA2 wA3 d_Ledger_copyFrom_26 (by decide) (Nat.le_of_ble_eq_true rfl) (fun h6 eh6 => ?_)
  have hI7 : Inv h6 := inv_cpy (n := 8) hI3 eh6 (fun _ => rfl)
  have f8 : fr S_Ledger_copyX_3_0 h h6 := fr_row f4 eh6 (fun _ => rfl)
  have C9 : rcp h h6 59 8 4 := rcp_row C5 eh6 (by decide)
  have C10 : rcp h h6 60 9 8 := rcp_now f4 (fun _ => rfl) eh6
  refine V_aload_n 1 d_Ledger_copyFrom_29 rfl rfl ?_
  refine V_getR fa_Ledger_18 sk_7 rfl d_Ledger_copyFrom_30 ?_
  refine V_iconst 0 d_Ledger_copyFrom_33 (by decide) ?_
  refine V_aload_n 0 d_Ledger_copyFrom_34 rfl rfl ?_
  refine V_getR fa_Ledger_18 sk_58 rfl d_Ledger_copyFrom_35 ?_
  refine V_iconst 0 d_Ledger_copyFrom_38 (by decide) ?_
  refine V_bipush 8 d_Ledger_copyFrom_39 (by decide) ?_
  refine N_acopy sk_10 sk_61 tc_0 tc_0 tc_8 (by omega) wa_Ledger_34 wA1 wA2 wA3 d_Ledger_copyFrom_41 (by decide) (Nat.le_of_ble_eq_true rfl) (fun h11 eh11 => ?_)
  have hI12 : Inv h11 := inv_cpy (n := 8) hI7 eh11 (fun _ => rfl)
  have f13 : fr S_Ledger_copyX_3_0 h h11 := fr_row f8 eh11 (fun _ => rfl)
  have C14 : rcp h h11 59 8 4 := rcp_row C9 eh11 (by decide)
  have C15 : rcp h h11 60 9 8 := rcp_row C10 eh11 (by decide)
  have C16 : rcp h h11 61 10 8 := rcp_now f8 (fun _ => rfl) eh11
  refine V_aload_n 1 d_Ledger_copyFrom_44 rfl rfl ?_
  refine V_getR fa_Ledger_21 sk_7 rfl d_Ledger_copyFrom_45 ?_
  refine V_iconst 0 d_Ledger_copyFrom_48 (by decide) ?_
  refine V_aload_n 0 d_Ledger_copyFrom_49 rfl rfl ?_
  refine V_getR fa_Ledger_21 sk_58 rfl d_Ledger_copyFrom_50 ?_
  refine V_iconst 0 d_Ledger_copyFrom_53 (by decide) ?_
  refine V_bipush 8 d_Ledger_copyFrom_54 (by decide) ?_
  refine N_acopy sk_11 sk_62 tc_0 tc_0 tc_8 (by omega) wa_Ledger_34 wA1 wA2 wA3 d_Ledger_copyFrom_56 (by decide) (Nat.le_of_ble_eq_true rfl) (fun h17 eh17 => ?_)
  have hI18 : Inv h17 := inv_cpy (n := 8) hI12 eh17 (fun _ => rfl)
  have f19 : fr S_Ledger_copyX_3_0 h h17 := fr_row f13 eh17 (fun _ => rfl)
  have C20 : rcp h h17 59 8 4 := rcp_row C14 eh17 (by decide)
  have C21 : rcp h h17 60 9 8 := rcp_row C15 eh17 (by decide)
  have C22 : rcp h h17 61 10 8 := rcp_row C16 eh17 (by decide)
  have C23 : rcp h h17 62 11 8 := rcp_now f13 (fun _ => rfl) eh17
  refine V_aload_n 0 d_Ledger_copyFrom_59 rfl rfl ?_
  refine V_aload_n 1 d_Ledger_copyFrom_60 rfl rfl ?_
  refine N_getK fa_Ledger_30 sk_7 rfl d_Ledger_copyFrom_61 (kn_row eh17 (kn_row eh11 (kn_row eh6 (kn_row eh2 tK (by decide)) (by decide)) (by decide)) (by decide)) ?_
  refine N_putI fp_Ledger_30 sk_58 rfl d_Ledger_copyFrom_64 (fun h24 eh24 => ?_)
  have hI25 : Inv h24 := inv_put (lo := 0) (hi := 8) hI18 eh24 rfl tE (by omega)
  have f26 : fr S_Ledger_copyX_3_0 h h24 := fr_put f19 eh24 rfl
  have C27 : rcp h h24 59 8 4 := rcp_put C20 eh24 (by decide)
  have C28 : rcp h h24 60 9 8 := rcp_put C21 eh24 (by decide)
  have C29 : rcp h h24 61 10 8 := rcp_put C22 eh24 (by decide)
  have C30 : rcp h h24 62 11 8 := rcp_put C23 eh24 (by decide)
  exact V_vret rfl d_Ledger_copyFrom_67 ⟨rfl, ⟨hI25, f26, ⟨((kn_put eh24).trans tK.symm), C27, C28, C29, C30⟩⟩⟩
def S_Sights_copyX_3_0 : List (Nat × Option Nat) := [(63, some 4), (64, none), (65, none), (66, none), (67, none)]
abbrev q_Sights_copyX_3_0 (h : Hp) (t : Int32) (tZ : Int) : Option Value → Hp → Prop := pVd (fun h' => Inv h' ∧ fr S_Sights_copyX_3_0 h h' ∧ (h'.1 63 4 = h.1 12 4 ∧ rcp h h' 64 13 8 ∧ rcp h h' 65 14 8 ∧ rcp h h' 66 15 8 ∧ rcp h h' 67 16 8))
set_option maxRecDepth 100000 in
theorem c_Sights_copyX_3_0 (h : Hp) (hI : Inv h) (t : Int32) (tZ : Int) (tE : t.toInt = tZ) (tK : h.1 12 4 = t) : Ct y_Sights_copyFrom b_Sights_copyFrom 2 none 1 60 [.ref 63, .ref 12] h (q_Sights_copyX_3_0 h t tZ) := by
  refine ct_ow R_Sights [some (.ref 63), some (.ref 12)] rfl (by decide) rfl (Nat.le_of_ble_eq_true rfl) ?_
  have f0 : fr S_Sights_copyX_3_0 h h := fr_rf
  have g1 : 0 ≤ tZ ∧ tZ ≤ 8 := inv_at hI tE tK.symm rfl
  refine V_aload_n 1 d_Sights_copyFrom_0 rfl rfl ?_
  refine V_getR fa_Sights_9 sk_12 rfl d_Sights_copyFrom_1 ?_
  refine V_iconst 0 d_Sights_copyFrom_4 (by decide) ?_
  refine V_aload_n 0 d_Sights_copyFrom_5 rfl rfl ?_
  refine V_getR fa_Sights_9 sk_63 rfl d_Sights_copyFrom_6 ?_
  refine V_iconst 0 d_Sights_copyFrom_9 (by decide) ?_
  refine V_bipush 8 d_Sights_copyFrom_10 (by decide) ?_
  refine N_acopy sk_13 sk_64 tc_0 tc_0 tc_8 (by omega) wa_Sights_24 wA1 wA2 wA3 d_Sights_copyFrom_12 (by decide) (Nat.le_of_ble_eq_true rfl) (fun h2 eh2 => ?_)
  have hI3 : Inv h2 := inv_cpy (n := 8) hI eh2 (fun _ => rfl)
  have f4 : fr S_Sights_copyX_3_0 h h2 := fr_row f0 eh2 (fun _ => rfl)
  have C5 : rcp h h2 64 13 8 := rcp_now f0 (fun _ => rfl) eh2
  refine V_aload_n 1 d_Sights_copyFrom_15 rfl rfl ?_
  refine V_getR fa_Sights_15 sk_12 rfl d_Sights_copyFrom_16 ?_
  refine V_iconst 0 d_Sights_copyFrom_19 (by decide) ?_
  refine V_aload_n 0 d_Sights_copyFrom_20 rfl rfl ?_
  refine V_getR fa_Sights_15 sk_63 rfl d_Sights_copyFrom_21 ?_
  refine V_iconst 0 d_Sights_copyFrom_24 (by decide) ?_
  refine V_bipush 8 d_Sights_copyFrom_25 (by decide) ?_
  refine N_acopy sk_14 sk_65 tc_0 tc_0 tc_8 (by omega) wa_Sights_24 wA1 wA2 wA3 d_Sights_copyFrom_27 (by decide) (Nat.le_of_ble_eq_true rfl) (fun h6 eh6 => ?_)
  have hI7 : Inv h6 := inv_cpy (n := 8) hI3 eh6 (fun _ => rfl)
  have f8 : fr S_Sights_copyX_3_0 h h6 := fr_row f4 eh6 (fun _ => rfl)
  have C9 : rcp h h6 64 13 8 := rcp_row C5 eh6 (by decide)
  have C10 : rcp h h6 65 14 8 := rcp_now f4 (fun _ => rfl) eh6
  refine V_aload_n 1 d_Sights_copyFrom_30 rfl rfl ?_
  refine V_getR fa_Sights_18 sk_12 rfl d_Sights_copyFrom_31 ?_
  refine V_iconst 0 d_Sights_copyFrom_34 (by decide) ?_
  refine V_aload_n 0 d_Sights_copyFrom_35 rfl rfl ?_
  refine V_getR fa_Sights_18 sk_63 rfl d_Sights_copyFrom_36 ?_
  refine V_iconst 0 d_Sights_copyFrom_39 (by decide) ?_
  refine V_bipush 8 d_Sights_copyFrom_40 (by decide) ?_
  refine N_acopy sk_15 sk_66 tc_0 tc_0 tc_8 (by omega) wa_Sights_24 wA1 wA2 wA3 d_Sights_copyFrom_42 (by decide) (Nat.le_of_ble_eq_true rfl) (fun h11 eh11 => ?_)
  have hI12 : Inv h11 := inv_cpy (n := 8) hI7 eh11 (fun _ => rfl)
  have f13 : fr S_Sights_copyX_3_0 h h11 := fr_row f8 eh11 (fun _ => rfl)
  have C14 : rcp h h11 64 13 8 := rcp_row C9 eh11 (by decide)
  have C15 : rcp h h11 65 14 8 := rcp_row C10 eh11 (by decide)
  have C16 : rcp h h11 66 15 8 := rcp_now f8 (fun _ => rfl) eh11
  refine V_aload_n 1 d_Sights_copyFrom_45 rfl rfl ?_
  refine V_getR fa_Sights_21 sk_12 rfl d_Sights_copyFrom_46 ?_
  refine V_iconst 0 d_Sights_copyFrom_49 (by decide) ?_
  refine V_aload_n 0 d_Sights_copyFrom_50 rfl rfl ?_
  refine V_getR fa_Sights_21 sk_63 rfl d_Sights_copyFrom_51 ?_
  refine V_iconst 0 d_Sights_copyFrom_54 (by decide) ?_
  refine V_bipush 8 d_Sights_copyFrom_55 (by decide) ?_
  refine N_acopy sk_16 sk_67 tc_0 tc_0 tc_8 (by omega) wa_Sights_24 wA1 wA2 wA3 d_Sights_copyFrom_57 (by decide) (Nat.le_of_ble_eq_true rfl) (fun h17 eh17 => ?_)
  have hI18 : Inv h17 := inv_cpy (n := 8) hI12 eh17 (fun _ => rfl)
  have f19 : fr S_Sights_copyX_3_0 h h17 := fr_row f13 eh17 (fun _ => rfl)
  have C20 : rcp h h17 64 13 8 := rcp_row C14 eh17 (by decide)
  have C21 : rcp h h17 65 14 8 := rcp_row C15 eh17 (by decide)
  have C22 : rcp h h17 66 15 8 := rcp_row C16 eh17 (by decide)
  have C23 : rcp h h17 67 16 8 := rcp_now f13 (fun _ => rfl) eh17
  refine V_aload_n 0 d_Sights_copyFrom_60 rfl rfl ?_
  refine V_aload_n 1 d_Sights_copyFrom_61 rfl rfl ?_
  refine N_getK fa_Sights_30 sk_12 rfl d_Sights_copyFrom_62 (kn_row eh17 (kn_row eh11 (kn_row eh6 (kn_row eh2 tK (by decide)) (by decide)) (by decide)) (by decide)) ?_
  refine N_putI fp_Sights_30 sk_63 rfl d_Sights_copyFrom_65 (fun h24 eh24 => ?_)
  have hI25 : Inv h24 := inv_put (lo := 0) (hi := 8) hI18 eh24 rfl tE (by omega)
  have f26 : fr S_Sights_copyX_3_0 h h24 := fr_put f19 eh24 rfl
  have C27 : rcp h h24 64 13 8 := rcp_put C20 eh24 (by decide)
  have C28 : rcp h h24 65 14 8 := rcp_put C21 eh24 (by decide)
  have C29 : rcp h h24 66 15 8 := rcp_put C22 eh24 (by decide)
  have C30 : rcp h h24 67 16 8 := rcp_put C23 eh24 (by decide)
  exact V_vret rfl d_Sights_copyFrom_68 ⟨rfl, ⟨hI25, f26, ⟨((kn_put eh24).trans tK.symm), C27, C28, C29, C30⟩⟩⟩
def S_County_copyX_3_0 : List (Nat × Option Nat) := [(51, some 3), (51, some 4), (52, none), (53, none), (54, none), (55, none), (56, none), (57, none), (58, some 4), (59, none), (60, none), (61, none), (62, none), (63, some 4), (64, none), (65, none), (66, none), (67, none)]
abbrev q_County_copyX_3_0 (h : Hp) (n : Int32) (nZ : Int) (m : Int32) (mZ : Int) : Option Value → Hp → Prop := pVd (fun h' => Inv h' ∧ fr S_County_copyX_3_0 h h' ∧ (cpy h h' 51 0))
set_option maxRecDepth 100000 in
theorem c_County_copyX_3_0 (h : Hp) (hI : Inv h) (n : Int32) (nZ : Int) (nE : n.toInt = nZ) (nK : h.1 0 3 = n) (m : Int32) (mZ : Int) (mE : m.toInt = mZ) (mK : h.1 0 4 = m) : Ct y_County_copyFrom b_County_copyFrom 2 none 2 81 [.ref 51, .ref 0] h (q_County_copyX_3_0 h n nZ m mZ) := by
  refine ct_ow R_County [some (.ref 51), some (.ref 0)] rfl (by decide) rfl (Nat.le_of_ble_eq_true rfl) ?_
  have f0 : fr S_County_copyX_3_0 h h := fr_rf
  refine V_aload_n 0 d_County_copyFrom_0 rfl rfl ?_
  refine V_getR fa_County_12 sk_51 rfl d_County_copyFrom_1 ?_
  refine V_aload_n 1 d_County_copyFrom_4 rfl rfl ?_
  refine V_getR fa_County_12 sk_0 rfl d_County_copyFrom_5 ?_
  obtain ⟨z1, z1Z, z1E, z1e⟩ : ∃ (y : Int32) (Y : Int), y.toInt = Y ∧ y = h.1 1 0 := ⟨_, _, rfl, rfl⟩
  have g2 : 2 ≤ z1Z ∧ z1Z ≤ 4 := inv_at hI z1E z1e rfl
  obtain ⟨z3, z3Z, z3E, z3e⟩ : ∃ (y : Int32) (Y : Int), y.toInt = Y ∧ y = h.1 1 1 := ⟨_, _, rfl, rfl⟩
  have g4 : 2 ≤ z3Z ∧ z3Z ≤ 4 := inv_at hI z3E z3e rfl
  obtain ⟨z5, z5Z, z5E, z5e⟩ : ∃ (y : Int32) (Y : Int), y.toInt = Y ∧ y = h.1 1 2 := ⟨_, _, rfl, rfl⟩
  obtain ⟨z6, z6Z, z6E, z6e⟩ : ∃ (y : Int32) (Y : Int), y.toInt = Y ∧ y = h.1 1 3 := ⟨_, _, rfl, rfl⟩
  refine N_callVV [.ref 1] [] cv_County_47 sk_52 rfl d_County_copyFrom_8 rfl (Nat.le_of_ble_eq_true rfl) (by decide) (by decide) (c_Land_copyX_3_0 h hI z1 z1Z z1E z1e.symm z3 z3Z z3E z3e.symm z5 z5Z z5E z5e.symm z6 z6Z z6E z6e.symm) (fun h8 p9 => ?_)
  obtain ⟨hI10, fh8, p9⟩ := p9
  have f11 : fr S_County_copyX_3_0 h h8 := fr_call f0 fh8 rfl
  have qL := p9
  refine V_aload_n 0 d_County_copyFrom_11 rfl rfl ?_
  refine V_getR fa_County_21 sk_51 rfl d_County_copyFrom_12 ?_
  refine V_aload_n 1 d_County_copyFrom_15 rfl rfl ?_
  refine V_getR fa_County_21 sk_0 rfl d_County_copyFrom_16 ?_
  obtain ⟨z12, z12Z, z12E, z12e⟩ : ∃ (y : Int32) (Y : Int), y.toInt = Y ∧ y = h8.1 7 4 := ⟨_, _, rfl, rfl⟩
  have g13 : 0 ≤ z12Z ∧ z12Z ≤ 8 := inv_at hI10 z12E z12e rfl
  refine N_callVV [.ref 7] [] cv_County_51 sk_58 rfl d_County_copyFrom_19 rfl (Nat.le_of_ble_eq_true rfl) (by decide) (by decide) (c_Ledger_copyX_3_0 h8 hI10 z12 z12Z z12E z12e.symm) (fun h15 p16 => ?_)
  obtain ⟨hI17, fh15, p16⟩ := p16
  have f18 : fr S_County_copyX_3_0 h h15 := fr_call f11 fh15 rfl
  have qG := p16
  refine V_aload_n 0 d_County_copyFrom_22 rfl rfl ?_
  refine V_getR fa_County_28 sk_51 rfl d_County_copyFrom_23 ?_
  refine V_aload_n 1 d_County_copyFrom_26 rfl rfl ?_
  refine V_getR fa_County_28 sk_0 rfl d_County_copyFrom_27 ?_
  obtain ⟨z19, z19Z, z19E, z19e⟩ : ∃ (y : Int32) (Y : Int), y.toInt = Y ∧ y = h15.1 12 4 := ⟨_, _, rfl, rfl⟩
  have g20 : 0 ≤ z19Z ∧ z19Z ≤ 8 := inv_at hI17 z19E z19e rfl
  refine N_callVV [.ref 12] [] cv_County_54 sk_63 rfl d_County_copyFrom_30 rfl (Nat.le_of_ble_eq_true rfl) (by decide) (by decide) (c_Sights_copyX_3_0 h15 hI17 z19 z19Z z19E z19e.symm) (fun h22 p23 => ?_)
  obtain ⟨hI24, fh22, p23⟩ := p23
  have f25 : fr S_County_copyX_3_0 h h22 := fr_call f18 fh22 rfl
  have qS := p23
  refine V_aload_n 0 d_County_copyFrom_33 rfl rfl ?_
  refine V_aload_n 1 d_County_copyFrom_34 rfl rfl ?_
  refine N_getK fa_County_41 sk_0 rfl d_County_copyFrom_35 (kn_call fh22 (kn_call fh15 (kn_call fh8 nK rfl) rfl) rfl) ?_
  refine N_putI fp_County_41 sk_51 rfl d_County_copyFrom_38 (fun h26 eh26 => ?_)
  have hI27 : Inv h26 := inv_full hI24 eh26 rfl
  have f28 : fr S_County_copyX_3_0 h h26 := fr_put f25 eh26 rfl
  refine V_aload_n 0 d_County_copyFrom_41 rfl rfl ?_
  refine V_aload_n 1 d_County_copyFrom_42 rfl rfl ?_
  refine N_getK fa_County_44 sk_0 rfl d_County_copyFrom_43 (kn_ne eh26 (kn_call fh22 (kn_call fh15 (kn_call fh8 mK rfl) rfl) rfl) (by decide)) ?_
  refine N_putI fp_County_44 sk_51 rfl d_County_copyFrom_46 (fun h29 eh29 => ?_)
  have hI30 : Inv h29 := inv_full hI27 eh29 rfl
  have f31 : fr S_County_copyX_3_0 h h29 := fr_put f28 eh29 rfl
  exact V_vret rfl d_County_copyFrom_49 ⟨rfl, ⟨hI30, f31, (cpy_of (a := 51) (b := 0) qL fh15 qG fh22 qS fh8 eh26 eh29 nK mK rfl rfl rfl rfl)⟩⟩
def S_Land_copyX_0_2 : List (Nat × Option Nat) := [(1, none), (2, none), (3, none), (4, none), (5, none), (6, none)]
abbrev q_Land_copyX_0_2 (h : Hp) (w : Int32) (wZ : Int) (g : Int32) (gZ : Int) (x : Int32) (xZ : Int) (y : Int32) (yZ : Int) : Option Value → Hp → Prop := pVd (fun h' => Inv h' ∧ fr S_Land_copyX_0_2 h h' ∧ (h'.1 1 0 = h.1 35 0 ∧ h'.1 1 1 = h.1 35 1 ∧ h'.1 1 2 = h.1 35 2 ∧ h'.1 1 3 = h.1 35 3 ∧ rcp h h' 2 36 16 ∧ rcp h h' 3 37 16 ∧ rcp h h' 4 38 16 ∧ rcp h h' 5 39 16 ∧ rcp h h' 6 40 16))
set_option maxRecDepth 100000 in
theorem c_Land_copyX_0_2 (h : Hp) (hI : Inv h) (w : Int32) (wZ : Int) (wE : w.toInt = wZ) (wK : h.1 35 0 = w) (g : Int32) (gZ : Int) (gE : g.toInt = gZ) (gK : h.1 35 1 = g) (x : Int32) (xZ : Int) (xE : x.toInt = xZ) (xK : h.1 35 2 = x) (y : Int32) (yZ : Int) (yE : y.toInt = yZ) (yK : h.1 35 3 = y) : Ct y_Land_copyFrom b_Land_copyFrom 2 none 1 60 [.ref 1, .ref 35] h (q_Land_copyX_0_2 h w wZ g gZ x xZ y yZ) := by
  refine ct_ow R_Land [some (.ref 1), some (.ref 35)] rfl (by decide) rfl (Nat.le_of_ble_eq_true rfl) ?_
  have f0 : fr S_Land_copyX_0_2 h h := fr_rf
  have g1 : 2 ≤ wZ ∧ wZ ≤ 4 := inv_at hI wE wK.symm rfl
  have g2 : 2 ≤ gZ ∧ gZ ≤ 4 := inv_at hI gE gK.symm rfl
  refine V_aload_n 0 d_Land_copyFrom_0 rfl rfl ?_
  refine V_aload_n 1 d_Land_copyFrom_1 rfl rfl ?_
  refine N_getK fa_Land_27 sk_35 rfl d_Land_copyFrom_2 wK ?_
  refine N_putI fp_Land_27 sk_1 rfl d_Land_copyFrom_5 (fun h3 eh3 => ?_)
  have hI4 : Inv h3 := inv_put (lo := 2) (hi := 4) hI eh3 rfl wE (by omega)
  have f5 : fr S_Land_copyX_0_2 h h3 := fr_put f0 eh3 rfl
  refine V_aload_n 0 d_Land_copyFrom_8 rfl rfl ?_
  refine V_aload_n 1 d_Land_copyFrom_9 rfl rfl ?_
  refine N_getK fa_Land_31 sk_35 rfl d_Land_copyFrom_10 (kn_ne eh3 gK (by decide)) ?_
  refine N_putI fp_Land_31 sk_1 rfl d_Land_copyFrom_13 (fun h6 eh6 => ?_)
  have hI7 : Inv h6 := inv_put (lo := 2) (hi := 4) hI4 eh6 rfl gE (by omega)
  have f8 : fr S_Land_copyX_0_2 h h6 := fr_put f5 eh6 rfl
  refine V_aload_n 0 d_Land_copyFrom_16 rfl rfl ?_
  refine V_aload_n 1 d_Land_copyFrom_17 rfl rfl ?_
  refine N_getK fa_Land_34 sk_35 rfl d_Land_copyFrom_18 (kn_ne eh6 (kn_ne eh3 xK (by decide)) (by decide)) ?_
  refine N_putI fp_Land_34 sk_1 rfl d_Land_copyFrom_21 (fun h9 eh9 => ?_)
  have hI10 : Inv h9 := inv_full hI7 eh9 rfl
  have f11 : fr S_Land_copyX_0_2 h h9 := fr_put f8 eh9 rfl
  refine V_aload_n 0 d_Land_copyFrom_24 rfl rfl ?_
  refine V_aload_n 1 d_Land_copyFrom_25 rfl rfl ?_
  refine N_getK fa_Land_37 sk_35 rfl d_Land_copyFrom_26 (kn_ne eh9 (kn_ne eh6 (kn_ne eh3 yK (by decide)) (by decide)) (by decide)) ?_
  refine N_putI fp_Land_37 sk_1 rfl d_Land_copyFrom_29 (fun h12 eh12 => ?_)
  have hI13 : Inv h12 := inv_full hI10 eh12 rfl
  have f14 : fr S_Land_copyX_0_2 h h12 := fr_put f11 eh12 rfl
  refine V_aload_n 1 d_Land_copyFrom_32 rfl rfl ?_
  refine V_getR fa_Land_9 sk_35 rfl d_Land_copyFrom_33 ?_
  refine V_iconst 0 d_Land_copyFrom_36 (by decide) ?_
  refine V_aload_n 0 d_Land_copyFrom_37 rfl rfl ?_
  refine V_getR fa_Land_9 sk_1 rfl d_Land_copyFrom_38 ?_
  refine V_iconst 0 d_Land_copyFrom_41 (by decide) ?_
  refine V_bipush 16 d_Land_copyFrom_42 (by decide) ?_
  refine N_acopy sk_36 sk_2 tc_0 tc_0 tc_16 (by omega) wa_Land_46 wA1 wA2 wA3 d_Land_copyFrom_44 (by decide) (Nat.le_of_ble_eq_true rfl) (fun h15 eh15 => ?_)
  have hI16 : Inv h15 := inv_cpy (n := 16) hI13 eh15 (fun _ => rfl)
  have f17 : fr S_Land_copyX_0_2 h h15 := fr_row f14 eh15 (fun _ => rfl)
  have C18 : rcp h h15 2 36 16 := rcp_now f14 (fun _ => rfl) eh15
  refine V_aload_n 1 d_Land_copyFrom_47 rfl rfl ?_
  refine V_getR fa_Land_15 sk_35 rfl d_Land_copyFrom_48 ?_
  refine V_iconst 0 d_Land_copyFrom_51 (by decide) ?_
  refine V_aload_n 0 d_Land_copyFrom_52 rfl rfl ?_
  refine V_getR fa_Land_15 sk_1 rfl d_Land_copyFrom_53 ?_
  refine V_iconst 0 d_Land_copyFrom_56 (by decide) ?_
  refine V_bipush 16 d_Land_copyFrom_57 (by decide) ?_
  refine N_acopy sk_37 sk_3 tc_0 tc_0 tc_16 (by omega) wa_Land_46 wA1 wA2 wA3 d_Land_copyFrom_59 (by decide) (Nat.le_of_ble_eq_true rfl) (fun h19 eh19 => ?_)
  have hI20 : Inv h19 := inv_cpy (n := 16) hI16 eh19 (fun _ => rfl)
  have f21 : fr S_Land_copyX_0_2 h h19 := fr_row f17 eh19 (fun _ => rfl)
  have C22 : rcp h h19 2 36 16 := rcp_row C18 eh19 (by decide)
  have C23 : rcp h h19 3 37 16 := rcp_now f17 (fun _ => rfl) eh19
  refine V_aload_n 1 d_Land_copyFrom_62 rfl rfl ?_
  refine V_getR fa_Land_18 sk_35 rfl d_Land_copyFrom_63 ?_
  refine V_iconst 0 d_Land_copyFrom_66 (by decide) ?_
  refine V_aload_n 0 d_Land_copyFrom_67 rfl rfl ?_
  refine V_getR fa_Land_18 sk_1 rfl d_Land_copyFrom_68 ?_
  refine V_iconst 0 d_Land_copyFrom_71 (by decide) ?_
  refine V_bipush 16 d_Land_copyFrom_72 (by decide) ?_
  refine N_acopy sk_38 sk_4 tc_0 tc_0 tc_16 (by omega) wa_Land_46 wA1 wA2 wA3 d_Land_copyFrom_74 (by decide) (Nat.le_of_ble_eq_true rfl) (fun h24 eh24 => ?_)
  have hI25 : Inv h24 := inv_cpy (n := 16) hI20 eh24 (fun _ => rfl)
  have f26 : fr S_Land_copyX_0_2 h h24 := fr_row f21 eh24 (fun _ => rfl)
  have C27 : rcp h h24 2 36 16 := rcp_row C22 eh24 (by decide)
  have C28 : rcp h h24 3 37 16 := rcp_row C23 eh24 (by decide)
  have C29 : rcp h h24 4 38 16 := rcp_now f21 (fun _ => rfl) eh24
  refine V_aload_n 1 d_Land_copyFrom_77 rfl rfl ?_
  refine V_getR fa_Land_21 sk_35 rfl d_Land_copyFrom_78 ?_
  refine V_iconst 0 d_Land_copyFrom_81 (by decide) ?_
  refine V_aload_n 0 d_Land_copyFrom_82 rfl rfl ?_
  refine V_getR fa_Land_21 sk_1 rfl d_Land_copyFrom_83 ?_
  refine V_iconst 0 d_Land_copyFrom_86 (by decide) ?_
  refine V_bipush 16 d_Land_copyFrom_87 (by decide) ?_
  refine N_acopy sk_39 sk_5 tc_0 tc_0 tc_16 (by omega) wa_Land_46 wA1 wA2 wA3 d_Land_copyFrom_89 (by decide) (Nat.le_of_ble_eq_true rfl) (fun h30 eh30 => ?_)
  have hI31 : Inv h30 := inv_cpy (n := 16) hI25 eh30 (fun _ => rfl)
  have f32 : fr S_Land_copyX_0_2 h h30 := fr_row f26 eh30 (fun _ => rfl)
  have C33 : rcp h h30 2 36 16 := rcp_row C27 eh30 (by decide)
  have C34 : rcp h h30 3 37 16 := rcp_row C28 eh30 (by decide)
  have C35 : rcp h h30 4 38 16 := rcp_row C29 eh30 (by decide)
  have C36 : rcp h h30 5 39 16 := rcp_now f26 (fun _ => rfl) eh30
  refine V_aload_n 1 d_Land_copyFrom_92 rfl rfl ?_
  refine V_getR fa_Land_24 sk_35 rfl d_Land_copyFrom_93 ?_
  refine V_iconst 0 d_Land_copyFrom_96 (by decide) ?_
  refine V_aload_n 0 d_Land_copyFrom_97 rfl rfl ?_
  refine V_getR fa_Land_24 sk_1 rfl d_Land_copyFrom_98 ?_
  refine V_iconst 0 d_Land_copyFrom_101 (by decide) ?_
  refine V_bipush 16 d_Land_copyFrom_102 (by decide) ?_
  refine N_acopy sk_40 sk_6 tc_0 tc_0 tc_16 (by omega) wa_Land_46 wA1 wA2 wA3 d_Land_copyFrom_104 (by decide) (Nat.le_of_ble_eq_true rfl) (fun h37 eh37 => ?_)
  have hI38 : Inv h37 := inv_cpy (n := 16) hI31 eh37 (fun _ => rfl)
  have f39 : fr S_Land_copyX_0_2 h h37 := fr_row f32 eh37 (fun _ => rfl)
  have C40 : rcp h h37 2 36 16 := rcp_row C33 eh37 (by decide)
  have C41 : rcp h h37 3 37 16 := rcp_row C34 eh37 (by decide)
  have C42 : rcp h h37 4 38 16 := rcp_row C35 eh37 (by decide)
  have C43 : rcp h h37 5 39 16 := rcp_row C36 eh37 (by decide)
  have C44 : rcp h h37 6 40 16 := rcp_now f32 (fun _ => rfl) eh37
  exact V_vret rfl d_Land_copyFrom_107 ⟨rfl, ⟨hI38, f39, ⟨((kn_row eh37 (kn_row eh30 (kn_row eh24 (kn_row eh19 (kn_row eh15 (kn_nei eh12 (kn_nei eh9 (kn_nei eh6 (kn_put eh3) (by decide)) (by decide)) (by decide)) (by decide)) (by decide)) (by decide)) (by decide)) (by decide)).trans wK.symm), ((kn_row eh37 (kn_row eh30 (kn_row eh24 (kn_row eh19 (kn_row eh15 (kn_nei eh12 (kn_nei eh9 (kn_put eh6) (by decide)) (by decide)) (by decide)) (by decide)) (by decide)) (by decide)) (by decide)).trans gK.symm), ((kn_row eh37 (kn_row eh30 (kn_row eh24 (kn_row eh19 (kn_row eh15 (kn_nei eh12 (kn_put eh9) (by decide)) (by decide)) (by decide)) (by decide)) (by decide)) (by decide)).trans xK.symm), ((kn_row eh37 (kn_row eh30 (kn_row eh24 (kn_row eh19 (kn_row eh15 (kn_put eh12) (by decide)) (by decide)) (by decide)) (by decide)) (by decide)).trans yK.symm), C40, C41, C42, C43, C44⟩⟩⟩
def S_Ledger_copyX_0_2 : List (Nat × Option Nat) := [(7, some 4), (8, none), (9, none), (10, none), (11, none)]
abbrev q_Ledger_copyX_0_2 (h : Hp) (t : Int32) (tZ : Int) : Option Value → Hp → Prop := pVd (fun h' => Inv h' ∧ fr S_Ledger_copyX_0_2 h h' ∧ (h'.1 7 4 = h.1 41 4 ∧ rcp h h' 8 42 4 ∧ rcp h h' 9 43 8 ∧ rcp h h' 10 44 8 ∧ rcp h h' 11 45 8))
set_option maxRecDepth 100000 in
theorem c_Ledger_copyX_0_2 (h : Hp) (hI : Inv h) (t : Int32) (tZ : Int) (tE : t.toInt = tZ) (tK : h.1 41 4 = t) : Ct y_Ledger_copyFrom b_Ledger_copyFrom 2 none 1 60 [.ref 7, .ref 41] h (q_Ledger_copyX_0_2 h t tZ) := by
  refine ct_ow R_Ledger [some (.ref 7), some (.ref 41)] rfl (by decide) rfl (Nat.le_of_ble_eq_true rfl) ?_
  have f0 : fr S_Ledger_copyX_0_2 h h := fr_rf
  have g1 : 0 ≤ tZ ∧ tZ ≤ 8 := inv_at hI tE tK.symm rfl
  refine V_aload_n 1 d_Ledger_copyFrom_0 rfl rfl ?_
  refine V_getR fa_Ledger_9 sk_41 rfl d_Ledger_copyFrom_1 ?_
  refine V_iconst 0 d_Ledger_copyFrom_4 (by decide) ?_
  refine V_aload_n 0 d_Ledger_copyFrom_5 rfl rfl ?_
  refine V_getR fa_Ledger_9 sk_7 rfl d_Ledger_copyFrom_6 ?_
  refine V_iconst 0 d_Ledger_copyFrom_9 (by decide) ?_
  refine V_iconst 4 d_Ledger_copyFrom_10 (by decide) ?_
  refine N_acopy sk_42 sk_8 tc_0 tc_0 tc_4 (by omega) wa_Ledger_34 wA1 wA2 wA3 d_Ledger_copyFrom_11 (by decide) (Nat.le_of_ble_eq_true rfl) (fun h2 eh2 => ?_)
  have hI3 : Inv h2 := inv_cpy (n := 4) hI eh2 (fun _ => rfl)
  have f4 : fr S_Ledger_copyX_0_2 h h2 := fr_row f0 eh2 (fun _ => rfl)
  have C5 : rcp h h2 8 42 4 := rcp_now f0 (fun _ => rfl) eh2
  refine V_aload_n 1 d_Ledger_copyFrom_14 rfl rfl ?_
  refine V_getR fa_Ledger_15 sk_41 rfl d_Ledger_copyFrom_15 ?_
  refine V_iconst 0 d_Ledger_copyFrom_18 (by decide) ?_
  refine V_aload_n 0 d_Ledger_copyFrom_19 rfl rfl ?_
  refine V_getR fa_Ledger_15 sk_7 rfl d_Ledger_copyFrom_20 ?_
  refine V_iconst 0 d_Ledger_copyFrom_23 (by decide) ?_
  refine V_bipush 8 d_Ledger_copyFrom_24 (by decide) ?_
  refine N_acopy sk_43 sk_9 tc_0 tc_0 tc_8 (by omega) wa_Ledger_34 wA1 wA2 wA3 d_Ledger_copyFrom_26 (by decide) (Nat.le_of_ble_eq_true rfl) (fun h6 eh6 => ?_)
  have hI7 : Inv h6 := inv_cpy (n := 8) hI3 eh6 (fun _ => rfl)
  have f8 : fr S_Ledger_copyX_0_2 h h6 := fr_row f4 eh6 (fun _ => rfl)
  have C9 : rcp h h6 8 42 4 := rcp_row C5 eh6 (by decide)
  have C10 : rcp h h6 9 43 8 := rcp_now f4 (fun _ => rfl) eh6
  refine V_aload_n 1 d_Ledger_copyFrom_29 rfl rfl ?_
  refine V_getR fa_Ledger_18 sk_41 rfl d_Ledger_copyFrom_30 ?_
  refine V_iconst 0 d_Ledger_copyFrom_33 (by decide) ?_
  refine V_aload_n 0 d_Ledger_copyFrom_34 rfl rfl ?_
  refine V_getR fa_Ledger_18 sk_7 rfl d_Ledger_copyFrom_35 ?_
  refine V_iconst 0 d_Ledger_copyFrom_38 (by decide) ?_
  refine V_bipush 8 d_Ledger_copyFrom_39 (by decide) ?_
  refine N_acopy sk_44 sk_10 tc_0 tc_0 tc_8 (by omega) wa_Ledger_34 wA1 wA2 wA3 d_Ledger_copyFrom_41 (by decide) (Nat.le_of_ble_eq_true rfl) (fun h11 eh11 => ?_)
  have hI12 : Inv h11 := inv_cpy (n := 8) hI7 eh11 (fun _ => rfl)
  have f13 : fr S_Ledger_copyX_0_2 h h11 := fr_row f8 eh11 (fun _ => rfl)
  have C14 : rcp h h11 8 42 4 := rcp_row C9 eh11 (by decide)
  have C15 : rcp h h11 9 43 8 := rcp_row C10 eh11 (by decide)
  have C16 : rcp h h11 10 44 8 := rcp_now f8 (fun _ => rfl) eh11
  refine V_aload_n 1 d_Ledger_copyFrom_44 rfl rfl ?_
  refine V_getR fa_Ledger_21 sk_41 rfl d_Ledger_copyFrom_45 ?_
  refine V_iconst 0 d_Ledger_copyFrom_48 (by decide) ?_
  refine V_aload_n 0 d_Ledger_copyFrom_49 rfl rfl ?_
  refine V_getR fa_Ledger_21 sk_7 rfl d_Ledger_copyFrom_50 ?_
  refine V_iconst 0 d_Ledger_copyFrom_53 (by decide) ?_
  refine V_bipush 8 d_Ledger_copyFrom_54 (by decide) ?_
  refine N_acopy sk_45 sk_11 tc_0 tc_0 tc_8 (by omega) wa_Ledger_34 wA1 wA2 wA3 d_Ledger_copyFrom_56 (by decide) (Nat.le_of_ble_eq_true rfl) (fun h17 eh17 => ?_)
  have hI18 : Inv h17 := inv_cpy (n := 8) hI12 eh17 (fun _ => rfl)
  have f19 : fr S_Ledger_copyX_0_2 h h17 := fr_row f13 eh17 (fun _ => rfl)
  have C20 : rcp h h17 8 42 4 := rcp_row C14 eh17 (by decide)
  have C21 : rcp h h17 9 43 8 := rcp_row C15 eh17 (by decide)
  have C22 : rcp h h17 10 44 8 := rcp_row C16 eh17 (by decide)
  have C23 : rcp h h17 11 45 8 := rcp_now f13 (fun _ => rfl) eh17
  refine V_aload_n 0 d_Ledger_copyFrom_59 rfl rfl ?_
  refine V_aload_n 1 d_Ledger_copyFrom_60 rfl rfl ?_
  refine N_getK fa_Ledger_30 sk_41 rfl d_Ledger_copyFrom_61 (kn_row eh17 (kn_row eh11 (kn_row eh6 (kn_row eh2 tK (by decide)) (by decide)) (by decide)) (by decide)) ?_
  refine N_putI fp_Ledger_30 sk_7 rfl d_Ledger_copyFrom_64 (fun h24 eh24 => ?_)
  have hI25 : Inv h24 := inv_put (lo := 0) (hi := 8) hI18 eh24 rfl tE (by omega)
  have f26 : fr S_Ledger_copyX_0_2 h h24 := fr_put f19 eh24 rfl
  have C27 : rcp h h24 8 42 4 := rcp_put C20 eh24 (by decide)
  have C28 : rcp h h24 9 43 8 := rcp_put C21 eh24 (by decide)
  have C29 : rcp h h24 10 44 8 := rcp_put C22 eh24 (by decide)
  have C30 : rcp h h24 11 45 8 := rcp_put C23 eh24 (by decide)
  exact V_vret rfl d_Ledger_copyFrom_67 ⟨rfl, ⟨hI25, f26, ⟨((kn_put eh24).trans tK.symm), C27, C28, C29, C30⟩⟩⟩
def S_Sights_copyX_0_2 : List (Nat × Option Nat) := [(12, some 4), (13, none), (14, none), (15, none), (16, none)]
abbrev q_Sights_copyX_0_2 (h : Hp) (t : Int32) (tZ : Int) : Option Value → Hp → Prop := pVd (fun h' => Inv h' ∧ fr S_Sights_copyX_0_2 h h' ∧ (h'.1 12 4 = h.1 46 4 ∧ rcp h h' 13 47 8 ∧ rcp h h' 14 48 8 ∧ rcp h h' 15 49 8 ∧ rcp h h' 16 50 8))
set_option maxRecDepth 100000 in
theorem c_Sights_copyX_0_2 (h : Hp) (hI : Inv h) (t : Int32) (tZ : Int) (tE : t.toInt = tZ) (tK : h.1 46 4 = t) : Ct y_Sights_copyFrom b_Sights_copyFrom 2 none 1 60 [.ref 12, .ref 46] h (q_Sights_copyX_0_2 h t tZ) := by
  refine ct_ow R_Sights [some (.ref 12), some (.ref 46)] rfl (by decide) rfl (Nat.le_of_ble_eq_true rfl) ?_
  have f0 : fr S_Sights_copyX_0_2 h h := fr_rf
  have g1 : 0 ≤ tZ ∧ tZ ≤ 8 := inv_at hI tE tK.symm rfl
  refine V_aload_n 1 d_Sights_copyFrom_0 rfl rfl ?_
  refine V_getR fa_Sights_9 sk_46 rfl d_Sights_copyFrom_1 ?_
  refine V_iconst 0 d_Sights_copyFrom_4 (by decide) ?_
  refine V_aload_n 0 d_Sights_copyFrom_5 rfl rfl ?_
  refine V_getR fa_Sights_9 sk_12 rfl d_Sights_copyFrom_6 ?_
  refine V_iconst 0 d_Sights_copyFrom_9 (by decide) ?_
  refine V_bipush 8 d_Sights_copyFrom_10 (by decide) ?_
  refine N_acopy sk_47 sk_13 tc_0 tc_0 tc_8 (by omega) wa_Sights_24 wA1 wA2 wA3 d_Sights_copyFrom_12 (by decide) (Nat.le_of_ble_eq_true rfl) (fun h2 eh2 => ?_)
  have hI3 : Inv h2 := inv_cpy (n := 8) hI eh2 (fun _ => rfl)
  have f4 : fr S_Sights_copyX_0_2 h h2 := fr_row f0 eh2 (fun _ => rfl)
  have C5 : rcp h h2 13 47 8 := rcp_now f0 (fun _ => rfl) eh2
  refine V_aload_n 1 d_Sights_copyFrom_15 rfl rfl ?_
  refine V_getR fa_Sights_15 sk_46 rfl d_Sights_copyFrom_16 ?_
  refine V_iconst 0 d_Sights_copyFrom_19 (by decide) ?_
  refine V_aload_n 0 d_Sights_copyFrom_20 rfl rfl ?_
  refine V_getR fa_Sights_15 sk_12 rfl d_Sights_copyFrom_21 ?_
  refine V_iconst 0 d_Sights_copyFrom_24 (by decide) ?_
  refine V_bipush 8 d_Sights_copyFrom_25 (by decide) ?_
  refine N_acopy sk_48 sk_14 tc_0 tc_0 tc_8 (by omega) wa_Sights_24 wA1 wA2 wA3 d_Sights_copyFrom_27 (by decide) (Nat.le_of_ble_eq_true rfl) (fun h6 eh6 => ?_)
  have hI7 : Inv h6 := inv_cpy (n := 8) hI3 eh6 (fun _ => rfl)
  have f8 : fr S_Sights_copyX_0_2 h h6 := fr_row f4 eh6 (fun _ => rfl)
  have C9 : rcp h h6 13 47 8 := rcp_row C5 eh6 (by decide)
  have C10 : rcp h h6 14 48 8 := rcp_now f4 (fun _ => rfl) eh6
  refine V_aload_n 1 d_Sights_copyFrom_30 rfl rfl ?_
  refine V_getR fa_Sights_18 sk_46 rfl d_Sights_copyFrom_31 ?_
  refine V_iconst 0 d_Sights_copyFrom_34 (by decide) ?_
  refine V_aload_n 0 d_Sights_copyFrom_35 rfl rfl ?_
  refine V_getR fa_Sights_18 sk_12 rfl d_Sights_copyFrom_36 ?_
  refine V_iconst 0 d_Sights_copyFrom_39 (by decide) ?_
  refine V_bipush 8 d_Sights_copyFrom_40 (by decide) ?_
  refine N_acopy sk_49 sk_15 tc_0 tc_0 tc_8 (by omega) wa_Sights_24 wA1 wA2 wA3 d_Sights_copyFrom_42 (by decide) (Nat.le_of_ble_eq_true rfl) (fun h11 eh11 => ?_)
  have hI12 : Inv h11 := inv_cpy (n := 8) hI7 eh11 (fun _ => rfl)
  have f13 : fr S_Sights_copyX_0_2 h h11 := fr_row f8 eh11 (fun _ => rfl)
  have C14 : rcp h h11 13 47 8 := rcp_row C9 eh11 (by decide)
  have C15 : rcp h h11 14 48 8 := rcp_row C10 eh11 (by decide)
  have C16 : rcp h h11 15 49 8 := rcp_now f8 (fun _ => rfl) eh11
  refine V_aload_n 1 d_Sights_copyFrom_45 rfl rfl ?_
  refine V_getR fa_Sights_21 sk_46 rfl d_Sights_copyFrom_46 ?_
  refine V_iconst 0 d_Sights_copyFrom_49 (by decide) ?_
  refine V_aload_n 0 d_Sights_copyFrom_50 rfl rfl ?_
  refine V_getR fa_Sights_21 sk_12 rfl d_Sights_copyFrom_51 ?_
  refine V_iconst 0 d_Sights_copyFrom_54 (by decide) ?_
  refine V_bipush 8 d_Sights_copyFrom_55 (by decide) ?_
  refine N_acopy sk_50 sk_16 tc_0 tc_0 tc_8 (by omega) wa_Sights_24 wA1 wA2 wA3 d_Sights_copyFrom_57 (by decide) (Nat.le_of_ble_eq_true rfl) (fun h17 eh17 => ?_)
  have hI18 : Inv h17 := inv_cpy (n := 8) hI12 eh17 (fun _ => rfl)
  have f19 : fr S_Sights_copyX_0_2 h h17 := fr_row f13 eh17 (fun _ => rfl)
  have C20 : rcp h h17 13 47 8 := rcp_row C14 eh17 (by decide)
  have C21 : rcp h h17 14 48 8 := rcp_row C15 eh17 (by decide)
  have C22 : rcp h h17 15 49 8 := rcp_row C16 eh17 (by decide)
  have C23 : rcp h h17 16 50 8 := rcp_now f13 (fun _ => rfl) eh17
  refine V_aload_n 0 d_Sights_copyFrom_60 rfl rfl ?_
  refine V_aload_n 1 d_Sights_copyFrom_61 rfl rfl ?_
  refine N_getK fa_Sights_30 sk_46 rfl d_Sights_copyFrom_62 (kn_row eh17 (kn_row eh11 (kn_row eh6 (kn_row eh2 tK (by decide)) (by decide)) (by decide)) (by decide)) ?_
  refine N_putI fp_Sights_30 sk_12 rfl d_Sights_copyFrom_65 (fun h24 eh24 => ?_)
  have hI25 : Inv h24 := inv_put (lo := 0) (hi := 8) hI18 eh24 rfl tE (by omega)
  have f26 : fr S_Sights_copyX_0_2 h h24 := fr_put f19 eh24 rfl
  have C27 : rcp h h24 13 47 8 := rcp_put C20 eh24 (by decide)
  have C28 : rcp h h24 14 48 8 := rcp_put C21 eh24 (by decide)
  have C29 : rcp h h24 15 49 8 := rcp_put C22 eh24 (by decide)
  have C30 : rcp h h24 16 50 8 := rcp_put C23 eh24 (by decide)
  exact V_vret rfl d_Sights_copyFrom_68 ⟨rfl, ⟨hI25, f26, ⟨((kn_put eh24).trans tK.symm), C27, C28, C29, C30⟩⟩⟩
def S_County_copyX_0_2 : List (Nat × Option Nat) := [(0, some 3), (0, some 4), (1, none), (2, none), (3, none), (4, none), (5, none), (6, none), (7, some 4), (8, none), (9, none), (10, none), (11, none), (12, some 4), (13, none), (14, none), (15, none), (16, none)]
abbrev q_County_copyX_0_2 (h : Hp) (n : Int32) (nZ : Int) (m : Int32) (mZ : Int) : Option Value → Hp → Prop := pVd (fun h' => Inv h' ∧ fr S_County_copyX_0_2 h h' ∧ (cpy h h' 0 34))
set_option maxRecDepth 100000 in
theorem c_County_copyX_0_2 (h : Hp) (hI : Inv h) (n : Int32) (nZ : Int) (nE : n.toInt = nZ) (nK : h.1 34 3 = n) (m : Int32) (mZ : Int) (mE : m.toInt = mZ) (mK : h.1 34 4 = m) : Ct y_County_copyFrom b_County_copyFrom 2 none 2 81 [.ref 0, .ref 34] h (q_County_copyX_0_2 h n nZ m mZ) := by
  refine ct_ow R_County [some (.ref 0), some (.ref 34)] rfl (by decide) rfl (Nat.le_of_ble_eq_true rfl) ?_
  have f0 : fr S_County_copyX_0_2 h h := fr_rf
  refine V_aload_n 0 d_County_copyFrom_0 rfl rfl ?_
  refine V_getR fa_County_12 sk_0 rfl d_County_copyFrom_1 ?_
  refine V_aload_n 1 d_County_copyFrom_4 rfl rfl ?_
  refine V_getR fa_County_12 sk_34 rfl d_County_copyFrom_5 ?_
  obtain ⟨z1, z1Z, z1E, z1e⟩ : ∃ (y : Int32) (Y : Int), y.toInt = Y ∧ y = h.1 35 0 := ⟨_, _, rfl, rfl⟩
  have g2 : 2 ≤ z1Z ∧ z1Z ≤ 4 := inv_at hI z1E z1e rfl
  obtain ⟨z3, z3Z, z3E, z3e⟩ : ∃ (y : Int32) (Y : Int), y.toInt = Y ∧ y = h.1 35 1 := ⟨_, _, rfl, rfl⟩
  have g4 : 2 ≤ z3Z ∧ z3Z ≤ 4 := inv_at hI z3E z3e rfl
  obtain ⟨z5, z5Z, z5E, z5e⟩ : ∃ (y : Int32) (Y : Int), y.toInt = Y ∧ y = h.1 35 2 := ⟨_, _, rfl, rfl⟩
  obtain ⟨z6, z6Z, z6E, z6e⟩ : ∃ (y : Int32) (Y : Int), y.toInt = Y ∧ y = h.1 35 3 := ⟨_, _, rfl, rfl⟩
  refine N_callVV [.ref 35] [] cv_County_47 sk_1 rfl d_County_copyFrom_8 rfl (Nat.le_of_ble_eq_true rfl) (by decide) (by decide) (c_Land_copyX_0_2 h hI z1 z1Z z1E z1e.symm z3 z3Z z3E z3e.symm z5 z5Z z5E z5e.symm z6 z6Z z6E z6e.symm) (fun h8 p9 => ?_)
  obtain ⟨hI10, fh8, p9⟩ := p9
  have f11 : fr S_County_copyX_0_2 h h8 := fr_call f0 fh8 rfl
  have qL := p9
  refine V_aload_n 0 d_County_copyFrom_11 rfl rfl ?_
  refine V_getR fa_County_21 sk_0 rfl d_County_copyFrom_12 ?_
  refine V_aload_n 1 d_County_copyFrom_15 rfl rfl ?_
  refine V_getR fa_County_21 sk_34 rfl d_County_copyFrom_16 ?_
  obtain ⟨z12, z12Z, z12E, z12e⟩ : ∃ (y : Int32) (Y : Int), y.toInt = Y ∧ y = h8.1 41 4 := ⟨_, _, rfl, rfl⟩
  have g13 : 0 ≤ z12Z ∧ z12Z ≤ 8 := inv_at hI10 z12E z12e rfl
  refine N_callVV [.ref 41] [] cv_County_51 sk_7 rfl d_County_copyFrom_19 rfl (Nat.le_of_ble_eq_true rfl) (by decide) (by decide) (c_Ledger_copyX_0_2 h8 hI10 z12 z12Z z12E z12e.symm) (fun h15 p16 => ?_)
  obtain ⟨hI17, fh15, p16⟩ := p16
  have f18 : fr S_County_copyX_0_2 h h15 := fr_call f11 fh15 rfl
  have qG := p16
  refine V_aload_n 0 d_County_copyFrom_22 rfl rfl ?_
  refine V_getR fa_County_28 sk_0 rfl d_County_copyFrom_23 ?_
  refine V_aload_n 1 d_County_copyFrom_26 rfl rfl ?_
  refine V_getR fa_County_28 sk_34 rfl d_County_copyFrom_27 ?_
  obtain ⟨z19, z19Z, z19E, z19e⟩ : ∃ (y : Int32) (Y : Int), y.toInt = Y ∧ y = h15.1 46 4 := ⟨_, _, rfl, rfl⟩
  have g20 : 0 ≤ z19Z ∧ z19Z ≤ 8 := inv_at hI17 z19E z19e rfl
  refine N_callVV [.ref 46] [] cv_County_54 sk_12 rfl d_County_copyFrom_30 rfl (Nat.le_of_ble_eq_true rfl) (by decide) (by decide) (c_Sights_copyX_0_2 h15 hI17 z19 z19Z z19E z19e.symm) (fun h22 p23 => ?_)
  obtain ⟨hI24, fh22, p23⟩ := p23
  have f25 : fr S_County_copyX_0_2 h h22 := fr_call f18 fh22 rfl
  have qS := p23
  refine V_aload_n 0 d_County_copyFrom_33 rfl rfl ?_
  refine V_aload_n 1 d_County_copyFrom_34 rfl rfl ?_
  refine N_getK fa_County_41 sk_34 rfl d_County_copyFrom_35 (kn_call fh22 (kn_call fh15 (kn_call fh8 nK rfl) rfl) rfl) ?_
  refine N_putI fp_County_41 sk_0 rfl d_County_copyFrom_38 (fun h26 eh26 => ?_)
  have hI27 : Inv h26 := inv_full hI24 eh26 rfl
  have f28 : fr S_County_copyX_0_2 h h26 := fr_put f25 eh26 rfl
  refine V_aload_n 0 d_County_copyFrom_41 rfl rfl ?_
  refine V_aload_n 1 d_County_copyFrom_42 rfl rfl ?_
  refine N_getK fa_County_44 sk_34 rfl d_County_copyFrom_43 (kn_ne eh26 (kn_call fh22 (kn_call fh15 (kn_call fh8 mK rfl) rfl) rfl) (by decide)) ?_
  refine N_putI fp_County_44 sk_0 rfl d_County_copyFrom_46 (fun h29 eh29 => ?_)
  have hI30 : Inv h29 := inv_full hI27 eh29 rfl
  have f31 : fr S_County_copyX_0_2 h h29 := fr_put f28 eh29 rfl
  exact V_vret rfl d_County_copyFrom_49 ⟨rfl, ⟨hI30, f31, (cpy_of (a := 0) (b := 34) qL fh15 qG fh22 qS fh8 eh26 eh29 nK mK rfl rfl rfl rfl)⟩⟩
def S_Land_copyX_0_3 : List (Nat × Option Nat) := [(1, none), (2, none), (3, none), (4, none), (5, none), (6, none)]
abbrev q_Land_copyX_0_3 (h : Hp) (w : Int32) (wZ : Int) (g : Int32) (gZ : Int) (x : Int32) (xZ : Int) (y : Int32) (yZ : Int) : Option Value → Hp → Prop := pVd (fun h' => Inv h' ∧ fr S_Land_copyX_0_3 h h' ∧ (h'.1 1 0 = h.1 52 0 ∧ h'.1 1 1 = h.1 52 1 ∧ h'.1 1 2 = h.1 52 2 ∧ h'.1 1 3 = h.1 52 3 ∧ rcp h h' 2 53 16 ∧ rcp h h' 3 54 16 ∧ rcp h h' 4 55 16 ∧ rcp h h' 5 56 16 ∧ rcp h h' 6 57 16))
set_option maxRecDepth 100000 in
theorem c_Land_copyX_0_3 (h : Hp) (hI : Inv h) (w : Int32) (wZ : Int) (wE : w.toInt = wZ) (wK : h.1 52 0 = w) (g : Int32) (gZ : Int) (gE : g.toInt = gZ) (gK : h.1 52 1 = g) (x : Int32) (xZ : Int) (xE : x.toInt = xZ) (xK : h.1 52 2 = x) (y : Int32) (yZ : Int) (yE : y.toInt = yZ) (yK : h.1 52 3 = y) : Ct y_Land_copyFrom b_Land_copyFrom 2 none 1 60 [.ref 1, .ref 52] h (q_Land_copyX_0_3 h w wZ g gZ x xZ y yZ) := by
  refine ct_ow R_Land [some (.ref 1), some (.ref 52)] rfl (by decide) rfl (Nat.le_of_ble_eq_true rfl) ?_
  have f0 : fr S_Land_copyX_0_3 h h := fr_rf
  have g1 : 2 ≤ wZ ∧ wZ ≤ 4 := inv_at hI wE wK.symm rfl
  have g2 : 2 ≤ gZ ∧ gZ ≤ 4 := inv_at hI gE gK.symm rfl
  refine V_aload_n 0 d_Land_copyFrom_0 rfl rfl ?_
  refine V_aload_n 1 d_Land_copyFrom_1 rfl rfl ?_
  refine N_getK fa_Land_27 sk_52 rfl d_Land_copyFrom_2 wK ?_
  refine N_putI fp_Land_27 sk_1 rfl d_Land_copyFrom_5 (fun h3 eh3 => ?_)
  have hI4 : Inv h3 := inv_put (lo := 2) (hi := 4) hI eh3 rfl wE (by omega)
  have f5 : fr S_Land_copyX_0_3 h h3 := fr_put f0 eh3 rfl
  refine V_aload_n 0 d_Land_copyFrom_8 rfl rfl ?_
  refine V_aload_n 1 d_Land_copyFrom_9 rfl rfl ?_
  refine N_getK fa_Land_31 sk_52 rfl d_Land_copyFrom_10 (kn_ne eh3 gK (by decide)) ?_
  refine N_putI fp_Land_31 sk_1 rfl d_Land_copyFrom_13 (fun h6 eh6 => ?_)
  have hI7 : Inv h6 := inv_put (lo := 2) (hi := 4) hI4 eh6 rfl gE (by omega)
  have f8 : fr S_Land_copyX_0_3 h h6 := fr_put f5 eh6 rfl
  refine V_aload_n 0 d_Land_copyFrom_16 rfl rfl ?_
  refine V_aload_n 1 d_Land_copyFrom_17 rfl rfl ?_
  refine N_getK fa_Land_34 sk_52 rfl d_Land_copyFrom_18 (kn_ne eh6 (kn_ne eh3 xK (by decide)) (by decide)) ?_
  refine N_putI fp_Land_34 sk_1 rfl d_Land_copyFrom_21 (fun h9 eh9 => ?_)
  have hI10 : Inv h9 := inv_full hI7 eh9 rfl
  have f11 : fr S_Land_copyX_0_3 h h9 := fr_put f8 eh9 rfl
  refine V_aload_n 0 d_Land_copyFrom_24 rfl rfl ?_
  refine V_aload_n 1 d_Land_copyFrom_25 rfl rfl ?_
  refine N_getK fa_Land_37 sk_52 rfl d_Land_copyFrom_26 (kn_ne eh9 (kn_ne eh6 (kn_ne eh3 yK (by decide)) (by decide)) (by decide)) ?_
  refine N_putI fp_Land_37 sk_1 rfl d_Land_copyFrom_29 (fun h12 eh12 => ?_)
  have hI13 : Inv h12 := inv_full hI10 eh12 rfl
  have f14 : fr S_Land_copyX_0_3 h h12 := fr_put f11 eh12 rfl
  refine V_aload_n 1 d_Land_copyFrom_32 rfl rfl ?_
  refine V_getR fa_Land_9 sk_52 rfl d_Land_copyFrom_33 ?_
  refine V_iconst 0 d_Land_copyFrom_36 (by decide) ?_
  refine V_aload_n 0 d_Land_copyFrom_37 rfl rfl ?_
  refine V_getR fa_Land_9 sk_1 rfl d_Land_copyFrom_38 ?_
  refine V_iconst 0 d_Land_copyFrom_41 (by decide) ?_
  refine V_bipush 16 d_Land_copyFrom_42 (by decide) ?_
  refine N_acopy sk_53 sk_2 tc_0 tc_0 tc_16 (by omega) wa_Land_46 wA1 wA2 wA3 d_Land_copyFrom_44 (by decide) (Nat.le_of_ble_eq_true rfl) (fun h15 eh15 => ?_)
  have hI16 : Inv h15 := inv_cpy (n := 16) hI13 eh15 (fun _ => rfl)
  have f17 : fr S_Land_copyX_0_3 h h15 := fr_row f14 eh15 (fun _ => rfl)
  have C18 : rcp h h15 2 53 16 := rcp_now f14 (fun _ => rfl) eh15
  refine V_aload_n 1 d_Land_copyFrom_47 rfl rfl ?_
  refine V_getR fa_Land_15 sk_52 rfl d_Land_copyFrom_48 ?_
  refine V_iconst 0 d_Land_copyFrom_51 (by decide) ?_
  refine V_aload_n 0 d_Land_copyFrom_52 rfl rfl ?_
  refine V_getR fa_Land_15 sk_1 rfl d_Land_copyFrom_53 ?_
  refine V_iconst 0 d_Land_copyFrom_56 (by decide) ?_
  refine V_bipush 16 d_Land_copyFrom_57 (by decide) ?_
  refine N_acopy sk_54 sk_3 tc_0 tc_0 tc_16 (by omega) wa_Land_46 wA1 wA2 wA3 d_Land_copyFrom_59 (by decide) (Nat.le_of_ble_eq_true rfl) (fun h19 eh19 => ?_)
  have hI20 : Inv h19 := inv_cpy (n := 16) hI16 eh19 (fun _ => rfl)
  have f21 : fr S_Land_copyX_0_3 h h19 := fr_row f17 eh19 (fun _ => rfl)
  have C22 : rcp h h19 2 53 16 := rcp_row C18 eh19 (by decide)
  have C23 : rcp h h19 3 54 16 := rcp_now f17 (fun _ => rfl) eh19
  refine V_aload_n 1 d_Land_copyFrom_62 rfl rfl ?_
  refine V_getR fa_Land_18 sk_52 rfl d_Land_copyFrom_63 ?_
  refine V_iconst 0 d_Land_copyFrom_66 (by decide) ?_
  refine V_aload_n 0 d_Land_copyFrom_67 rfl rfl ?_
  refine V_getR fa_Land_18 sk_1 rfl d_Land_copyFrom_68 ?_
  refine V_iconst 0 d_Land_copyFrom_71 (by decide) ?_
  refine V_bipush 16 d_Land_copyFrom_72 (by decide) ?_
  refine N_acopy sk_55 sk_4 tc_0 tc_0 tc_16 (by omega) wa_Land_46 wA1 wA2 wA3 d_Land_copyFrom_74 (by decide) (Nat.le_of_ble_eq_true rfl) (fun h24 eh24 => ?_)
  have hI25 : Inv h24 := inv_cpy (n := 16) hI20 eh24 (fun _ => rfl)
  have f26 : fr S_Land_copyX_0_3 h h24 := fr_row f21 eh24 (fun _ => rfl)
  have C27 : rcp h h24 2 53 16 := rcp_row C22 eh24 (by decide)
  have C28 : rcp h h24 3 54 16 := rcp_row C23 eh24 (by decide)
  have C29 : rcp h h24 4 55 16 := rcp_now f21 (fun _ => rfl) eh24
  refine V_aload_n 1 d_Land_copyFrom_77 rfl rfl ?_
  refine V_getR fa_Land_21 sk_52 rfl d_Land_copyFrom_78 ?_
  refine V_iconst 0 d_Land_copyFrom_81 (by decide) ?_
  refine V_aload_n 0 d_Land_copyFrom_82 rfl rfl ?_
  refine V_getR fa_Land_21 sk_1 rfl d_Land_copyFrom_83 ?_
  refine V_iconst 0 d_Land_copyFrom_86 (by decide) ?_
  refine V_bipush 16 d_Land_copyFrom_87 (by decide) ?_
  refine N_acopy sk_56 sk_5 tc_0 tc_0 tc_16 (by omega) wa_Land_46 wA1 wA2 wA3 d_Land_copyFrom_89 (by decide) (Nat.le_of_ble_eq_true rfl) (fun h30 eh30 => ?_)
  have hI31 : Inv h30 := inv_cpy (n := 16) hI25 eh30 (fun _ => rfl)
  have f32 : fr S_Land_copyX_0_3 h h30 := fr_row f26 eh30 (fun _ => rfl)
  have C33 : rcp h h30 2 53 16 := rcp_row C27 eh30 (by decide)
  have C34 : rcp h h30 3 54 16 := rcp_row C28 eh30 (by decide)
  have C35 : rcp h h30 4 55 16 := rcp_row C29 eh30 (by decide)
  have C36 : rcp h h30 5 56 16 := rcp_now f26 (fun _ => rfl) eh30
  refine V_aload_n 1 d_Land_copyFrom_92 rfl rfl ?_
  refine V_getR fa_Land_24 sk_52 rfl d_Land_copyFrom_93 ?_
  refine V_iconst 0 d_Land_copyFrom_96 (by decide) ?_
  refine V_aload_n 0 d_Land_copyFrom_97 rfl rfl ?_
  refine V_getR fa_Land_24 sk_1 rfl d_Land_copyFrom_98 ?_
  refine V_iconst 0 d_Land_copyFrom_101 (by decide) ?_
  refine V_bipush 16 d_Land_copyFrom_102 (by decide) ?_
  refine N_acopy sk_57 sk_6 tc_0 tc_0 tc_16 (by omega) wa_Land_46 wA1 wA2 wA3 d_Land_copyFrom_104 (by decide) (Nat.le_of_ble_eq_true rfl) (fun h37 eh37 => ?_)
  have hI38 : Inv h37 := inv_cpy (n := 16) hI31 eh37 (fun _ => rfl)
  have f39 : fr S_Land_copyX_0_3 h h37 := fr_row f32 eh37 (fun _ => rfl)
  have C40 : rcp h h37 2 53 16 := rcp_row C33 eh37 (by decide)
  have C41 : rcp h h37 3 54 16 := rcp_row C34 eh37 (by decide)
  have C42 : rcp h h37 4 55 16 := rcp_row C35 eh37 (by decide)
  have C43 : rcp h h37 5 56 16 := rcp_row C36 eh37 (by decide)
  have C44 : rcp h h37 6 57 16 := rcp_now f32 (fun _ => rfl) eh37
  exact V_vret rfl d_Land_copyFrom_107 ⟨rfl, ⟨hI38, f39, ⟨((kn_row eh37 (kn_row eh30 (kn_row eh24 (kn_row eh19 (kn_row eh15 (kn_nei eh12 (kn_nei eh9 (kn_nei eh6 (kn_put eh3) (by decide)) (by decide)) (by decide)) (by decide)) (by decide)) (by decide)) (by decide)) (by decide)).trans wK.symm), ((kn_row eh37 (kn_row eh30 (kn_row eh24 (kn_row eh19 (kn_row eh15 (kn_nei eh12 (kn_nei eh9 (kn_put eh6) (by decide)) (by decide)) (by decide)) (by decide)) (by decide)) (by decide)) (by decide)).trans gK.symm), ((kn_row eh37 (kn_row eh30 (kn_row eh24 (kn_row eh19 (kn_row eh15 (kn_nei eh12 (kn_put eh9) (by decide)) (by decide)) (by decide)) (by decide)) (by decide)) (by decide)).trans xK.symm), ((kn_row eh37 (kn_row eh30 (kn_row eh24 (kn_row eh19 (kn_row eh15 (kn_put eh12) (by decide)) (by decide)) (by decide)) (by decide)) (by decide)).trans yK.symm), C40, C41, C42, C43, C44⟩⟩⟩
def S_Ledger_copyX_0_3 : List (Nat × Option Nat) := [(7, some 4), (8, none), (9, none), (10, none), (11, none)]
abbrev q_Ledger_copyX_0_3 (h : Hp) (t : Int32) (tZ : Int) : Option Value → Hp → Prop := pVd (fun h' => Inv h' ∧ fr S_Ledger_copyX_0_3 h h' ∧ (h'.1 7 4 = h.1 58 4 ∧ rcp h h' 8 59 4 ∧ rcp h h' 9 60 8 ∧ rcp h h' 10 61 8 ∧ rcp h h' 11 62 8))
set_option maxRecDepth 100000 in
theorem c_Ledger_copyX_0_3 (h : Hp) (hI : Inv h) (t : Int32) (tZ : Int) (tE : t.toInt = tZ) (tK : h.1 58 4 = t) : Ct y_Ledger_copyFrom b_Ledger_copyFrom 2 none 1 60 [.ref 7, .ref 58] h (q_Ledger_copyX_0_3 h t tZ) := by
  refine ct_ow R_Ledger [some (.ref 7), some (.ref 58)] rfl (by decide) rfl (Nat.le_of_ble_eq_true rfl) ?_
  have f0 : fr S_Ledger_copyX_0_3 h h := fr_rf
  have g1 : 0 ≤ tZ ∧ tZ ≤ 8 := inv_at hI tE tK.symm rfl
  refine V_aload_n 1 d_Ledger_copyFrom_0 rfl rfl ?_
  refine V_getR fa_Ledger_9 sk_58 rfl d_Ledger_copyFrom_1 ?_
  refine V_iconst 0 d_Ledger_copyFrom_4 (by decide) ?_
  refine V_aload_n 0 d_Ledger_copyFrom_5 rfl rfl ?_
  refine V_getR fa_Ledger_9 sk_7 rfl d_Ledger_copyFrom_6 ?_
  refine V_iconst 0 d_Ledger_copyFrom_9 (by decide) ?_
  refine V_iconst 4 d_Ledger_copyFrom_10 (by decide) ?_
  refine N_acopy sk_59 sk_8 tc_0 tc_0 tc_4 (by omega) wa_Ledger_34 wA1 wA2 wA3 d_Ledger_copyFrom_11 (by decide) (Nat.le_of_ble_eq_true rfl) (fun h2 eh2 => ?_)
  have hI3 : Inv h2 := inv_cpy (n := 4) hI eh2 (fun _ => rfl)
  have f4 : fr S_Ledger_copyX_0_3 h h2 := fr_row f0 eh2 (fun _ => rfl)
  have C5 : rcp h h2 8 59 4 := rcp_now f0 (fun _ => rfl) eh2
  refine V_aload_n 1 d_Ledger_copyFrom_14 rfl rfl ?_
  refine V_getR fa_Ledger_15 sk_58 rfl d_Ledger_copyFrom_15 ?_
  refine V_iconst 0 d_Ledger_copyFrom_18 (by decide) ?_
  refine V_aload_n 0 d_Ledger_copyFrom_19 rfl rfl ?_
  refine V_getR fa_Ledger_15 sk_7 rfl d_Ledger_copyFrom_20 ?_
  refine V_iconst 0 d_Ledger_copyFrom_23 (by decide) ?_
  refine V_bipush 8 d_Ledger_copyFrom_24 (by decide) ?_
  refine N_acopy sk_60 sk_9 tc_0 tc_0 tc_8 (by omega) wa_Ledger_34 wA1 wA2 wA3 d_Ledger_copyFrom_26 (by decide) (Nat.le_of_ble_eq_true rfl) (fun h6 eh6 => ?_)
  have hI7 : Inv h6 := inv_cpy (n := 8) hI3 eh6 (fun _ => rfl)
  have f8 : fr S_Ledger_copyX_0_3 h h6 := fr_row f4 eh6 (fun _ => rfl)
  have C9 : rcp h h6 8 59 4 := rcp_row C5 eh6 (by decide)
  have C10 : rcp h h6 9 60 8 := rcp_now f4 (fun _ => rfl) eh6
  refine V_aload_n 1 d_Ledger_copyFrom_29 rfl rfl ?_
  refine V_getR fa_Ledger_18 sk_58 rfl d_Ledger_copyFrom_30 ?_
  refine V_iconst 0 d_Ledger_copyFrom_33 (by decide) ?_
  refine V_aload_n 0 d_Ledger_copyFrom_34 rfl rfl ?_
  refine V_getR fa_Ledger_18 sk_7 rfl d_Ledger_copyFrom_35 ?_
  refine V_iconst 0 d_Ledger_copyFrom_38 (by decide) ?_
  refine V_bipush 8 d_Ledger_copyFrom_39 (by decide) ?_
  refine N_acopy sk_61 sk_10 tc_0 tc_0 tc_8 (by omega) wa_Ledger_34 wA1 wA2 wA3 d_Ledger_copyFrom_41 (by decide) (Nat.le_of_ble_eq_true rfl) (fun h11 eh11 => ?_)
  have hI12 : Inv h11 := inv_cpy (n := 8) hI7 eh11 (fun _ => rfl)
  have f13 : fr S_Ledger_copyX_0_3 h h11 := fr_row f8 eh11 (fun _ => rfl)
  have C14 : rcp h h11 8 59 4 := rcp_row C9 eh11 (by decide)
  have C15 : rcp h h11 9 60 8 := rcp_row C10 eh11 (by decide)
  have C16 : rcp h h11 10 61 8 := rcp_now f8 (fun _ => rfl) eh11
  refine V_aload_n 1 d_Ledger_copyFrom_44 rfl rfl ?_
  refine V_getR fa_Ledger_21 sk_58 rfl d_Ledger_copyFrom_45 ?_
  refine V_iconst 0 d_Ledger_copyFrom_48 (by decide) ?_
  refine V_aload_n 0 d_Ledger_copyFrom_49 rfl rfl ?_
  refine V_getR fa_Ledger_21 sk_7 rfl d_Ledger_copyFrom_50 ?_
  refine V_iconst 0 d_Ledger_copyFrom_53 (by decide) ?_
  refine V_bipush 8 d_Ledger_copyFrom_54 (by decide) ?_
  refine N_acopy sk_62 sk_11 tc_0 tc_0 tc_8 (by omega) wa_Ledger_34 wA1 wA2 wA3 d_Ledger_copyFrom_56 (by decide) (Nat.le_of_ble_eq_true rfl) (fun h17 eh17 => ?_)
  have hI18 : Inv h17 := inv_cpy (n := 8) hI12 eh17 (fun _ => rfl)
  have f19 : fr S_Ledger_copyX_0_3 h h17 := fr_row f13 eh17 (fun _ => rfl)
  have C20 : rcp h h17 8 59 4 := rcp_row C14 eh17 (by decide)
  have C21 : rcp h h17 9 60 8 := rcp_row C15 eh17 (by decide)
  have C22 : rcp h h17 10 61 8 := rcp_row C16 eh17 (by decide)
  have C23 : rcp h h17 11 62 8 := rcp_now f13 (fun _ => rfl) eh17
  refine V_aload_n 0 d_Ledger_copyFrom_59 rfl rfl ?_
  refine V_aload_n 1 d_Ledger_copyFrom_60 rfl rfl ?_
  refine N_getK fa_Ledger_30 sk_58 rfl d_Ledger_copyFrom_61 (kn_row eh17 (kn_row eh11 (kn_row eh6 (kn_row eh2 tK (by decide)) (by decide)) (by decide)) (by decide)) ?_
  refine N_putI fp_Ledger_30 sk_7 rfl d_Ledger_copyFrom_64 (fun h24 eh24 => ?_)
  have hI25 : Inv h24 := inv_put (lo := 0) (hi := 8) hI18 eh24 rfl tE (by omega)
  have f26 : fr S_Ledger_copyX_0_3 h h24 := fr_put f19 eh24 rfl
  have C27 : rcp h h24 8 59 4 := rcp_put C20 eh24 (by decide)
  have C28 : rcp h h24 9 60 8 := rcp_put C21 eh24 (by decide)
  have C29 : rcp h h24 10 61 8 := rcp_put C22 eh24 (by decide)
  have C30 : rcp h h24 11 62 8 := rcp_put C23 eh24 (by decide)
  exact V_vret rfl d_Ledger_copyFrom_67 ⟨rfl, ⟨hI25, f26, ⟨((kn_put eh24).trans tK.symm), C27, C28, C29, C30⟩⟩⟩
def S_Sights_copyX_0_3 : List (Nat × Option Nat) := [(12, some 4), (13, none), (14, none), (15, none), (16, none)]
abbrev q_Sights_copyX_0_3 (h : Hp) (t : Int32) (tZ : Int) : Option Value → Hp → Prop := pVd (fun h' => Inv h' ∧ fr S_Sights_copyX_0_3 h h' ∧ (h'.1 12 4 = h.1 63 4 ∧ rcp h h' 13 64 8 ∧ rcp h h' 14 65 8 ∧ rcp h h' 15 66 8 ∧ rcp h h' 16 67 8))
set_option maxRecDepth 100000 in
theorem c_Sights_copyX_0_3 (h : Hp) (hI : Inv h) (t : Int32) (tZ : Int) (tE : t.toInt = tZ) (tK : h.1 63 4 = t) : Ct y_Sights_copyFrom b_Sights_copyFrom 2 none 1 60 [.ref 12, .ref 63] h (q_Sights_copyX_0_3 h t tZ) := by
  refine ct_ow R_Sights [some (.ref 12), some (.ref 63)] rfl (by decide) rfl (Nat.le_of_ble_eq_true rfl) ?_
  have f0 : fr S_Sights_copyX_0_3 h h := fr_rf
  have g1 : 0 ≤ tZ ∧ tZ ≤ 8 := inv_at hI tE tK.symm rfl
  refine V_aload_n 1 d_Sights_copyFrom_0 rfl rfl ?_
  refine V_getR fa_Sights_9 sk_63 rfl d_Sights_copyFrom_1 ?_
  refine V_iconst 0 d_Sights_copyFrom_4 (by decide) ?_
  refine V_aload_n 0 d_Sights_copyFrom_5 rfl rfl ?_
  refine V_getR fa_Sights_9 sk_12 rfl d_Sights_copyFrom_6 ?_
  refine V_iconst 0 d_Sights_copyFrom_9 (by decide) ?_
  refine V_bipush 8 d_Sights_copyFrom_10 (by decide) ?_
  refine N_acopy sk_64 sk_13 tc_0 tc_0 tc_8 (by omega) wa_Sights_24 wA1 wA2 wA3 d_Sights_copyFrom_12 (by decide) (Nat.le_of_ble_eq_true rfl) (fun h2 eh2 => ?_)
  have hI3 : Inv h2 := inv_cpy (n := 8) hI eh2 (fun _ => rfl)
  have f4 : fr S_Sights_copyX_0_3 h h2 := fr_row f0 eh2 (fun _ => rfl)
  have C5 : rcp h h2 13 64 8 := rcp_now f0 (fun _ => rfl) eh2
  refine V_aload_n 1 d_Sights_copyFrom_15 rfl rfl ?_
  refine V_getR fa_Sights_15 sk_63 rfl d_Sights_copyFrom_16 ?_
  refine V_iconst 0 d_Sights_copyFrom_19 (by decide) ?_
  refine V_aload_n 0 d_Sights_copyFrom_20 rfl rfl ?_
  refine V_getR fa_Sights_15 sk_12 rfl d_Sights_copyFrom_21 ?_
  refine V_iconst 0 d_Sights_copyFrom_24 (by decide) ?_
  refine V_bipush 8 d_Sights_copyFrom_25 (by decide) ?_
  refine N_acopy sk_65 sk_14 tc_0 tc_0 tc_8 (by omega) wa_Sights_24 wA1 wA2 wA3 d_Sights_copyFrom_27 (by decide) (Nat.le_of_ble_eq_true rfl) (fun h6 eh6 => ?_)
  have hI7 : Inv h6 := inv_cpy (n := 8) hI3 eh6 (fun _ => rfl)
  have f8 : fr S_Sights_copyX_0_3 h h6 := fr_row f4 eh6 (fun _ => rfl)
  have C9 : rcp h h6 13 64 8 := rcp_row C5 eh6 (by decide)
  have C10 : rcp h h6 14 65 8 := rcp_now f4 (fun _ => rfl) eh6
  refine V_aload_n 1 d_Sights_copyFrom_30 rfl rfl ?_
  refine V_getR fa_Sights_18 sk_63 rfl d_Sights_copyFrom_31 ?_
  refine V_iconst 0 d_Sights_copyFrom_34 (by decide) ?_
  refine V_aload_n 0 d_Sights_copyFrom_35 rfl rfl ?_
  refine V_getR fa_Sights_18 sk_12 rfl d_Sights_copyFrom_36 ?_
  refine V_iconst 0 d_Sights_copyFrom_39 (by decide) ?_
  refine V_bipush 8 d_Sights_copyFrom_40 (by decide) ?_
  refine N_acopy sk_66 sk_15 tc_0 tc_0 tc_8 (by omega) wa_Sights_24 wA1 wA2 wA3 d_Sights_copyFrom_42 (by decide) (Nat.le_of_ble_eq_true rfl) (fun h11 eh11 => ?_)
  have hI12 : Inv h11 := inv_cpy (n := 8) hI7 eh11 (fun _ => rfl)
  have f13 : fr S_Sights_copyX_0_3 h h11 := fr_row f8 eh11 (fun _ => rfl)
  have C14 : rcp h h11 13 64 8 := rcp_row C9 eh11 (by decide)
  have C15 : rcp h h11 14 65 8 := rcp_row C10 eh11 (by decide)
  have C16 : rcp h h11 15 66 8 := rcp_now f8 (fun _ => rfl) eh11
  refine V_aload_n 1 d_Sights_copyFrom_45 rfl rfl ?_
  refine V_getR fa_Sights_21 sk_63 rfl d_Sights_copyFrom_46 ?_
  refine V_iconst 0 d_Sights_copyFrom_49 (by decide) ?_
  refine V_aload_n 0 d_Sights_copyFrom_50 rfl rfl ?_
  refine V_getR fa_Sights_21 sk_12 rfl d_Sights_copyFrom_51 ?_
  refine V_iconst 0 d_Sights_copyFrom_54 (by decide) ?_
  refine V_bipush 8 d_Sights_copyFrom_55 (by decide) ?_
  refine N_acopy sk_67 sk_16 tc_0 tc_0 tc_8 (by omega) wa_Sights_24 wA1 wA2 wA3 d_Sights_copyFrom_57 (by decide) (Nat.le_of_ble_eq_true rfl) (fun h17 eh17 => ?_)
  have hI18 : Inv h17 := inv_cpy (n := 8) hI12 eh17 (fun _ => rfl)
  have f19 : fr S_Sights_copyX_0_3 h h17 := fr_row f13 eh17 (fun _ => rfl)
  have C20 : rcp h h17 13 64 8 := rcp_row C14 eh17 (by decide)
  have C21 : rcp h h17 14 65 8 := rcp_row C15 eh17 (by decide)
  have C22 : rcp h h17 15 66 8 := rcp_row C16 eh17 (by decide)
  have C23 : rcp h h17 16 67 8 := rcp_now f13 (fun _ => rfl) eh17
  refine V_aload_n 0 d_Sights_copyFrom_60 rfl rfl ?_
  refine V_aload_n 1 d_Sights_copyFrom_61 rfl rfl ?_
  refine N_getK fa_Sights_30 sk_63 rfl d_Sights_copyFrom_62 (kn_row eh17 (kn_row eh11 (kn_row eh6 (kn_row eh2 tK (by decide)) (by decide)) (by decide)) (by decide)) ?_
  refine N_putI fp_Sights_30 sk_12 rfl d_Sights_copyFrom_65 (fun h24 eh24 => ?_)
  have hI25 : Inv h24 := inv_put (lo := 0) (hi := 8) hI18 eh24 rfl tE (by omega)
  have f26 : fr S_Sights_copyX_0_3 h h24 := fr_put f19 eh24 rfl
  have C27 : rcp h h24 13 64 8 := rcp_put C20 eh24 (by decide)
  have C28 : rcp h h24 14 65 8 := rcp_put C21 eh24 (by decide)
  have C29 : rcp h h24 15 66 8 := rcp_put C22 eh24 (by decide)
  have C30 : rcp h h24 16 67 8 := rcp_put C23 eh24 (by decide)
  exact V_vret rfl d_Sights_copyFrom_68 ⟨rfl, ⟨hI25, f26, ⟨((kn_put eh24).trans tK.symm), C27, C28, C29, C30⟩⟩⟩
def S_County_copyX_0_3 : List (Nat × Option Nat) := [(0, some 3), (0, some 4), (1, none), (2, none), (3, none), (4, none), (5, none), (6, none), (7, some 4), (8, none), (9, none), (10, none), (11, none), (12, some 4), (13, none), (14, none), (15, none), (16, none)]
abbrev q_County_copyX_0_3 (h : Hp) (n : Int32) (nZ : Int) (m : Int32) (mZ : Int) : Option Value → Hp → Prop := pVd (fun h' => Inv h' ∧ fr S_County_copyX_0_3 h h' ∧ (cpy h h' 0 51))
set_option maxRecDepth 100000 in
theorem c_County_copyX_0_3 (h : Hp) (hI : Inv h) (n : Int32) (nZ : Int) (nE : n.toInt = nZ) (nK : h.1 51 3 = n) (m : Int32) (mZ : Int) (mE : m.toInt = mZ) (mK : h.1 51 4 = m) : Ct y_County_copyFrom b_County_copyFrom 2 none 2 81 [.ref 0, .ref 51] h (q_County_copyX_0_3 h n nZ m mZ) := by
  refine ct_ow R_County [some (.ref 0), some (.ref 51)] rfl (by decide) rfl (Nat.le_of_ble_eq_true rfl) ?_
  have f0 : fr S_County_copyX_0_3 h h := fr_rf
  refine V_aload_n 0 d_County_copyFrom_0 rfl rfl ?_
  refine V_getR fa_County_12 sk_0 rfl d_County_copyFrom_1 ?_
  refine V_aload_n 1 d_County_copyFrom_4 rfl rfl ?_
  refine V_getR fa_County_12 sk_51 rfl d_County_copyFrom_5 ?_
  obtain ⟨z1, z1Z, z1E, z1e⟩ : ∃ (y : Int32) (Y : Int), y.toInt = Y ∧ y = h.1 52 0 := ⟨_, _, rfl, rfl⟩
  have g2 : 2 ≤ z1Z ∧ z1Z ≤ 4 := inv_at hI z1E z1e rfl
  obtain ⟨z3, z3Z, z3E, z3e⟩ : ∃ (y : Int32) (Y : Int), y.toInt = Y ∧ y = h.1 52 1 := ⟨_, _, rfl, rfl⟩
  have g4 : 2 ≤ z3Z ∧ z3Z ≤ 4 := inv_at hI z3E z3e rfl
  obtain ⟨z5, z5Z, z5E, z5e⟩ : ∃ (y : Int32) (Y : Int), y.toInt = Y ∧ y = h.1 52 2 := ⟨_, _, rfl, rfl⟩
  obtain ⟨z6, z6Z, z6E, z6e⟩ : ∃ (y : Int32) (Y : Int), y.toInt = Y ∧ y = h.1 52 3 := ⟨_, _, rfl, rfl⟩
  refine N_callVV [.ref 52] [] cv_County_47 sk_1 rfl d_County_copyFrom_8 rfl (Nat.le_of_ble_eq_true rfl) (by decide) (by decide) (c_Land_copyX_0_3 h hI z1 z1Z z1E z1e.symm z3 z3Z z3E z3e.symm z5 z5Z z5E z5e.symm z6 z6Z z6E z6e.symm) (fun h8 p9 => ?_)
  obtain ⟨hI10, fh8, p9⟩ := p9
  have f11 : fr S_County_copyX_0_3 h h8 := fr_call f0 fh8 rfl
  have qL := p9
  refine V_aload_n 0 d_County_copyFrom_11 rfl rfl ?_
  refine V_getR fa_County_21 sk_0 rfl d_County_copyFrom_12 ?_
  refine V_aload_n 1 d_County_copyFrom_15 rfl rfl ?_
  refine V_getR fa_County_21 sk_51 rfl d_County_copyFrom_16 ?_
  obtain ⟨z12, z12Z, z12E, z12e⟩ : ∃ (y : Int32) (Y : Int), y.toInt = Y ∧ y = h8.1 58 4 := ⟨_, _, rfl, rfl⟩
  have g13 : 0 ≤ z12Z ∧ z12Z ≤ 8 := inv_at hI10 z12E z12e rfl
  refine N_callVV [.ref 58] [] cv_County_51 sk_7 rfl d_County_copyFrom_19 rfl (Nat.le_of_ble_eq_true rfl) (by decide) (by decide) (c_Ledger_copyX_0_3 h8 hI10 z12 z12Z z12E z12e.symm) (fun h15 p16 => ?_)
  obtain ⟨hI17, fh15, p16⟩ := p16
  have f18 : fr S_County_copyX_0_3 h h15 := fr_call f11 fh15 rfl
  have qG := p16
  refine V_aload_n 0 d_County_copyFrom_22 rfl rfl ?_
  refine V_getR fa_County_28 sk_0 rfl d_County_copyFrom_23 ?_
  refine V_aload_n 1 d_County_copyFrom_26 rfl rfl ?_
  refine V_getR fa_County_28 sk_51 rfl d_County_copyFrom_27 ?_
  obtain ⟨z19, z19Z, z19E, z19e⟩ : ∃ (y : Int32) (Y : Int), y.toInt = Y ∧ y = h15.1 63 4 := ⟨_, _, rfl, rfl⟩
  have g20 : 0 ≤ z19Z ∧ z19Z ≤ 8 := inv_at hI17 z19E z19e rfl
  refine N_callVV [.ref 63] [] cv_County_54 sk_12 rfl d_County_copyFrom_30 rfl (Nat.le_of_ble_eq_true rfl) (by decide) (by decide) (c_Sights_copyX_0_3 h15 hI17 z19 z19Z z19E z19e.symm) (fun h22 p23 => ?_)
  obtain ⟨hI24, fh22, p23⟩ := p23
  have f25 : fr S_County_copyX_0_3 h h22 := fr_call f18 fh22 rfl
  have qS := p23
  refine V_aload_n 0 d_County_copyFrom_33 rfl rfl ?_
  refine V_aload_n 1 d_County_copyFrom_34 rfl rfl ?_
  refine N_getK fa_County_41 sk_51 rfl d_County_copyFrom_35 (kn_call fh22 (kn_call fh15 (kn_call fh8 nK rfl) rfl) rfl) ?_
  refine N_putI fp_County_41 sk_0 rfl d_County_copyFrom_38 (fun h26 eh26 => ?_)
  have hI27 : Inv h26 := inv_full hI24 eh26 rfl
  have f28 : fr S_County_copyX_0_3 h h26 := fr_put f25 eh26 rfl
  refine V_aload_n 0 d_County_copyFrom_41 rfl rfl ?_
  refine V_aload_n 1 d_County_copyFrom_42 rfl rfl ?_
  refine N_getK fa_County_44 sk_51 rfl d_County_copyFrom_43 (kn_ne eh26 (kn_call fh22 (kn_call fh15 (kn_call fh8 mK rfl) rfl) rfl) (by decide)) ?_
  refine N_putI fp_County_44 sk_0 rfl d_County_copyFrom_46 (fun h29 eh29 => ?_)
  have hI30 : Inv h29 := inv_full hI27 eh29 rfl
  have f31 : fr S_County_copyX_0_3 h h29 := fr_put f28 eh29 rfl
  exact V_vret rfl d_County_copyFrom_49 ⟨rfl, ⟨hI30, f31, (cpy_of (a := 0) (b := 51) qL fh15 qG fh22 qS fh8 eh26 eh29 nK mK rfl rfl rfl rfl)⟩⟩
def S_Land_copyX_0_4 : List (Nat × Option Nat) := [(1, none), (2, none), (3, none), (4, none), (5, none), (6, none)]
abbrev q_Land_copyX_0_4 (h : Hp) (w : Int32) (wZ : Int) (g : Int32) (gZ : Int) (x : Int32) (xZ : Int) (y : Int32) (yZ : Int) : Option Value → Hp → Prop := pVd (fun h' => Inv h' ∧ fr S_Land_copyX_0_4 h h' ∧ (h'.1 1 0 = h.1 69 0 ∧ h'.1 1 1 = h.1 69 1 ∧ h'.1 1 2 = h.1 69 2 ∧ h'.1 1 3 = h.1 69 3 ∧ rcp h h' 2 70 16 ∧ rcp h h' 3 71 16 ∧ rcp h h' 4 72 16 ∧ rcp h h' 5 73 16 ∧ rcp h h' 6 74 16))
set_option maxRecDepth 100000 in
theorem c_Land_copyX_0_4 (h : Hp) (hI : Inv h) (w : Int32) (wZ : Int) (wE : w.toInt = wZ) (wK : h.1 69 0 = w) (g : Int32) (gZ : Int) (gE : g.toInt = gZ) (gK : h.1 69 1 = g) (x : Int32) (xZ : Int) (xE : x.toInt = xZ) (xK : h.1 69 2 = x) (y : Int32) (yZ : Int) (yE : y.toInt = yZ) (yK : h.1 69 3 = y) : Ct y_Land_copyFrom b_Land_copyFrom 2 none 1 60 [.ref 1, .ref 69] h (q_Land_copyX_0_4 h w wZ g gZ x xZ y yZ) := by
  refine ct_ow R_Land [some (.ref 1), some (.ref 69)] rfl (by decide) rfl (Nat.le_of_ble_eq_true rfl) ?_
  have f0 : fr S_Land_copyX_0_4 h h := fr_rf
  have g1 : 2 ≤ wZ ∧ wZ ≤ 4 := inv_at hI wE wK.symm rfl
  have g2 : 2 ≤ gZ ∧ gZ ≤ 4 := inv_at hI gE gK.symm rfl
  refine V_aload_n 0 d_Land_copyFrom_0 rfl rfl ?_
  refine V_aload_n 1 d_Land_copyFrom_1 rfl rfl ?_
  refine N_getK fa_Land_27 sk_69 rfl d_Land_copyFrom_2 wK ?_
  refine N_putI fp_Land_27 sk_1 rfl d_Land_copyFrom_5 (fun h3 eh3 => ?_)
  have hI4 : Inv h3 := inv_put (lo := 2) (hi := 4) hI eh3 rfl wE (by omega)
  have f5 : fr S_Land_copyX_0_4 h h3 := fr_put f0 eh3 rfl
  refine V_aload_n 0 d_Land_copyFrom_8 rfl rfl ?_
  refine V_aload_n 1 d_Land_copyFrom_9 rfl rfl ?_
  refine N_getK fa_Land_31 sk_69 rfl d_Land_copyFrom_10 (kn_ne eh3 gK (by decide)) ?_
  refine N_putI fp_Land_31 sk_1 rfl d_Land_copyFrom_13 (fun h6 eh6 => ?_)
  have hI7 : Inv h6 := inv_put (lo := 2) (hi := 4) hI4 eh6 rfl gE (by omega)
  have f8 : fr S_Land_copyX_0_4 h h6 := fr_put f5 eh6 rfl
  refine V_aload_n 0 d_Land_copyFrom_16 rfl rfl ?_
  refine V_aload_n 1 d_Land_copyFrom_17 rfl rfl ?_
  refine N_getK fa_Land_34 sk_69 rfl d_Land_copyFrom_18 (kn_ne eh6 (kn_ne eh3 xK (by decide)) (by decide)) ?_
  refine N_putI fp_Land_34 sk_1 rfl d_Land_copyFrom_21 (fun h9 eh9 => ?_)
  have hI10 : Inv h9 := inv_full hI7 eh9 rfl
  have f11 : fr S_Land_copyX_0_4 h h9 := fr_put f8 eh9 rfl
  refine V_aload_n 0 d_Land_copyFrom_24 rfl rfl ?_
  refine V_aload_n 1 d_Land_copyFrom_25 rfl rfl ?_
  refine N_getK fa_Land_37 sk_69 rfl d_Land_copyFrom_26 (kn_ne eh9 (kn_ne eh6 (kn_ne eh3 yK (by decide)) (by decide)) (by decide)) ?_
  refine N_putI fp_Land_37 sk_1 rfl d_Land_copyFrom_29 (fun h12 eh12 => ?_)
  have hI13 : Inv h12 := inv_full hI10 eh12 rfl
  have f14 : fr S_Land_copyX_0_4 h h12 := fr_put f11 eh12 rfl
  refine V_aload_n 1 d_Land_copyFrom_32 rfl rfl ?_
  refine V_getR fa_Land_9 sk_69 rfl d_Land_copyFrom_33 ?_
  refine V_iconst 0 d_Land_copyFrom_36 (by decide) ?_
  refine V_aload_n 0 d_Land_copyFrom_37 rfl rfl ?_
  refine V_getR fa_Land_9 sk_1 rfl d_Land_copyFrom_38 ?_
  refine V_iconst 0 d_Land_copyFrom_41 (by decide) ?_
  refine V_bipush 16 d_Land_copyFrom_42 (by decide) ?_
  refine N_acopy sk_70 sk_2 tc_0 tc_0 tc_16 (by omega) wa_Land_46 wA1 wA2 wA3 d_Land_copyFrom_44 (by decide) (Nat.le_of_ble_eq_true rfl) (fun h15 eh15 => ?_)
  have hI16 : Inv h15 := inv_cpy (n := 16) hI13 eh15 (fun _ => rfl)
  have f17 : fr S_Land_copyX_0_4 h h15 := fr_row f14 eh15 (fun _ => rfl)
  have C18 : rcp h h15 2 70 16 := rcp_now f14 (fun _ => rfl) eh15
  refine V_aload_n 1 d_Land_copyFrom_47 rfl rfl ?_
  refine V_getR fa_Land_15 sk_69 rfl d_Land_copyFrom_48 ?_
  refine V_iconst 0 d_Land_copyFrom_51 (by decide) ?_
  refine V_aload_n 0 d_Land_copyFrom_52 rfl rfl ?_
  refine V_getR fa_Land_15 sk_1 rfl d_Land_copyFrom_53 ?_
  refine V_iconst 0 d_Land_copyFrom_56 (by decide) ?_
  refine V_bipush 16 d_Land_copyFrom_57 (by decide) ?_
  refine N_acopy sk_71 sk_3 tc_0 tc_0 tc_16 (by omega) wa_Land_46 wA1 wA2 wA3 d_Land_copyFrom_59 (by decide) (Nat.le_of_ble_eq_true rfl) (fun h19 eh19 => ?_)
  have hI20 : Inv h19 := inv_cpy (n := 16) hI16 eh19 (fun _ => rfl)
  have f21 : fr S_Land_copyX_0_4 h h19 := fr_row f17 eh19 (fun _ => rfl)
  have C22 : rcp h h19 2 70 16 := rcp_row C18 eh19 (by decide)
  have C23 : rcp h h19 3 71 16 := rcp_now f17 (fun _ => rfl) eh19
  refine V_aload_n 1 d_Land_copyFrom_62 rfl rfl ?_
  refine V_getR fa_Land_18 sk_69 rfl d_Land_copyFrom_63 ?_
  refine V_iconst 0 d_Land_copyFrom_66 (by decide) ?_
  refine V_aload_n 0 d_Land_copyFrom_67 rfl rfl ?_
  refine V_getR fa_Land_18 sk_1 rfl d_Land_copyFrom_68 ?_
  refine V_iconst 0 d_Land_copyFrom_71 (by decide) ?_
  refine V_bipush 16 d_Land_copyFrom_72 (by decide) ?_
  refine N_acopy sk_72 sk_4 tc_0 tc_0 tc_16 (by omega) wa_Land_46 wA1 wA2 wA3 d_Land_copyFrom_74 (by decide) (Nat.le_of_ble_eq_true rfl) (fun h24 eh24 => ?_)
  have hI25 : Inv h24 := inv_cpy (n := 16) hI20 eh24 (fun _ => rfl)
  have f26 : fr S_Land_copyX_0_4 h h24 := fr_row f21 eh24 (fun _ => rfl)
  have C27 : rcp h h24 2 70 16 := rcp_row C22 eh24 (by decide)
  have C28 : rcp h h24 3 71 16 := rcp_row C23 eh24 (by decide)
  have C29 : rcp h h24 4 72 16 := rcp_now f21 (fun _ => rfl) eh24
  refine V_aload_n 1 d_Land_copyFrom_77 rfl rfl ?_
  refine V_getR fa_Land_21 sk_69 rfl d_Land_copyFrom_78 ?_
  refine V_iconst 0 d_Land_copyFrom_81 (by decide) ?_
  refine V_aload_n 0 d_Land_copyFrom_82 rfl rfl ?_
  refine V_getR fa_Land_21 sk_1 rfl d_Land_copyFrom_83 ?_
  refine V_iconst 0 d_Land_copyFrom_86 (by decide) ?_
  refine V_bipush 16 d_Land_copyFrom_87 (by decide) ?_
  refine N_acopy sk_73 sk_5 tc_0 tc_0 tc_16 (by omega) wa_Land_46 wA1 wA2 wA3 d_Land_copyFrom_89 (by decide) (Nat.le_of_ble_eq_true rfl) (fun h30 eh30 => ?_)
  have hI31 : Inv h30 := inv_cpy (n := 16) hI25 eh30 (fun _ => rfl)
  have f32 : fr S_Land_copyX_0_4 h h30 := fr_row f26 eh30 (fun _ => rfl)
  have C33 : rcp h h30 2 70 16 := rcp_row C27 eh30 (by decide)
  have C34 : rcp h h30 3 71 16 := rcp_row C28 eh30 (by decide)
  have C35 : rcp h h30 4 72 16 := rcp_row C29 eh30 (by decide)
  have C36 : rcp h h30 5 73 16 := rcp_now f26 (fun _ => rfl) eh30
  refine V_aload_n 1 d_Land_copyFrom_92 rfl rfl ?_
  refine V_getR fa_Land_24 sk_69 rfl d_Land_copyFrom_93 ?_
  refine V_iconst 0 d_Land_copyFrom_96 (by decide) ?_
  refine V_aload_n 0 d_Land_copyFrom_97 rfl rfl ?_
  refine V_getR fa_Land_24 sk_1 rfl d_Land_copyFrom_98 ?_
  refine V_iconst 0 d_Land_copyFrom_101 (by decide) ?_
  refine V_bipush 16 d_Land_copyFrom_102 (by decide) ?_
  refine N_acopy sk_74 sk_6 tc_0 tc_0 tc_16 (by omega) wa_Land_46 wA1 wA2 wA3 d_Land_copyFrom_104 (by decide) (Nat.le_of_ble_eq_true rfl) (fun h37 eh37 => ?_)
  have hI38 : Inv h37 := inv_cpy (n := 16) hI31 eh37 (fun _ => rfl)
  have f39 : fr S_Land_copyX_0_4 h h37 := fr_row f32 eh37 (fun _ => rfl)
  have C40 : rcp h h37 2 70 16 := rcp_row C33 eh37 (by decide)
  have C41 : rcp h h37 3 71 16 := rcp_row C34 eh37 (by decide)
  have C42 : rcp h h37 4 72 16 := rcp_row C35 eh37 (by decide)
  have C43 : rcp h h37 5 73 16 := rcp_row C36 eh37 (by decide)
  have C44 : rcp h h37 6 74 16 := rcp_now f32 (fun _ => rfl) eh37
  exact V_vret rfl d_Land_copyFrom_107 ⟨rfl, ⟨hI38, f39, ⟨((kn_row eh37 (kn_row eh30 (kn_row eh24 (kn_row eh19 (kn_row eh15 (kn_nei eh12 (kn_nei eh9 (kn_nei eh6 (kn_put eh3) (by decide)) (by decide)) (by decide)) (by decide)) (by decide)) (by decide)) (by decide)) (by decide)).trans wK.symm), ((kn_row eh37 (kn_row eh30 (kn_row eh24 (kn_row eh19 (kn_row eh15 (kn_nei eh12 (kn_nei eh9 (kn_put eh6) (by decide)) (by decide)) (by decide)) (by decide)) (by decide)) (by decide)) (by decide)).trans gK.symm), ((kn_row eh37 (kn_row eh30 (kn_row eh24 (kn_row eh19 (kn_row eh15 (kn_nei eh12 (kn_put eh9) (by decide)) (by decide)) (by decide)) (by decide)) (by decide)) (by decide)).trans xK.symm), ((kn_row eh37 (kn_row eh30 (kn_row eh24 (kn_row eh19 (kn_row eh15 (kn_put eh12) (by decide)) (by decide)) (by decide)) (by decide)) (by decide)).trans yK.symm), C40, C41, C42, C43, C44⟩⟩⟩
def S_Ledger_copyX_0_4 : List (Nat × Option Nat) := [(7, some 4), (8, none), (9, none), (10, none), (11, none)]
abbrev q_Ledger_copyX_0_4 (h : Hp) (t : Int32) (tZ : Int) : Option Value → Hp → Prop := pVd (fun h' => Inv h' ∧ fr S_Ledger_copyX_0_4 h h' ∧ (h'.1 7 4 = h.1 75 4 ∧ rcp h h' 8 76 4 ∧ rcp h h' 9 77 8 ∧ rcp h h' 10 78 8 ∧ rcp h h' 11 79 8))
set_option maxRecDepth 100000 in
theorem c_Ledger_copyX_0_4 (h : Hp) (hI : Inv h) (t : Int32) (tZ : Int) (tE : t.toInt = tZ) (tK : h.1 75 4 = t) : Ct y_Ledger_copyFrom b_Ledger_copyFrom 2 none 1 60 [.ref 7, .ref 75] h (q_Ledger_copyX_0_4 h t tZ) := by
  refine ct_ow R_Ledger [some (.ref 7), some (.ref 75)] rfl (by decide) rfl (Nat.le_of_ble_eq_true rfl) ?_
  have f0 : fr S_Ledger_copyX_0_4 h h := fr_rf
  have g1 : 0 ≤ tZ ∧ tZ ≤ 8 := inv_at hI tE tK.symm rfl
  refine V_aload_n 1 d_Ledger_copyFrom_0 rfl rfl ?_
  refine V_getR fa_Ledger_9 sk_75 rfl d_Ledger_copyFrom_1 ?_
  refine V_iconst 0 d_Ledger_copyFrom_4 (by decide) ?_
  refine V_aload_n 0 d_Ledger_copyFrom_5 rfl rfl ?_
  refine V_getR fa_Ledger_9 sk_7 rfl d_Ledger_copyFrom_6 ?_
  refine V_iconst 0 d_Ledger_copyFrom_9 (by decide) ?_
  refine V_iconst 4 d_Ledger_copyFrom_10 (by decide) ?_
  refine N_acopy sk_76 sk_8 tc_0 tc_0 tc_4 (by omega) wa_Ledger_34 wA1 wA2 wA3 d_Ledger_copyFrom_11 (by decide) (Nat.le_of_ble_eq_true rfl) (fun h2 eh2 => ?_)
  have hI3 : Inv h2 := inv_cpy (n := 4) hI eh2 (fun _ => rfl)
  have f4 : fr S_Ledger_copyX_0_4 h h2 := fr_row f0 eh2 (fun _ => rfl)
  have C5 : rcp h h2 8 76 4 := rcp_now f0 (fun _ => rfl) eh2
  refine V_aload_n 1 d_Ledger_copyFrom_14 rfl rfl ?_
  refine V_getR fa_Ledger_15 sk_75 rfl d_Ledger_copyFrom_15 ?_
  refine V_iconst 0 d_Ledger_copyFrom_18 (by decide) ?_
  refine V_aload_n 0 d_Ledger_copyFrom_19 rfl rfl ?_
  refine V_getR fa_Ledger_15 sk_7 rfl d_Ledger_copyFrom_20 ?_
  refine V_iconst 0 d_Ledger_copyFrom_23 (by decide) ?_
  refine V_bipush 8 d_Ledger_copyFrom_24 (by decide) ?_
  refine N_acopy sk_77 sk_9 tc_0 tc_0 tc_8 (by omega) wa_Ledger_34 wA1 wA2 wA3 d_Ledger_copyFrom_26 (by decide) (Nat.le_of_ble_eq_true rfl) (fun h6 eh6 => ?_)
  have hI7 : Inv h6 := inv_cpy (n := 8) hI3 eh6 (fun _ => rfl)
  have f8 : fr S_Ledger_copyX_0_4 h h6 := fr_row f4 eh6 (fun _ => rfl)
  have C9 : rcp h h6 8 76 4 := rcp_row C5 eh6 (by decide)
  have C10 : rcp h h6 9 77 8 := rcp_now f4 (fun _ => rfl) eh6
  refine V_aload_n 1 d_Ledger_copyFrom_29 rfl rfl ?_
  refine V_getR fa_Ledger_18 sk_75 rfl d_Ledger_copyFrom_30 ?_
  refine V_iconst 0 d_Ledger_copyFrom_33 (by decide) ?_
  refine V_aload_n 0 d_Ledger_copyFrom_34 rfl rfl ?_
  refine V_getR fa_Ledger_18 sk_7 rfl d_Ledger_copyFrom_35 ?_
  refine V_iconst 0 d_Ledger_copyFrom_38 (by decide) ?_
  refine V_bipush 8 d_Ledger_copyFrom_39 (by decide) ?_
  refine N_acopy sk_78 sk_10 tc_0 tc_0 tc_8 (by omega) wa_Ledger_34 wA1 wA2 wA3 d_Ledger_copyFrom_41 (by decide) (Nat.le_of_ble_eq_true rfl) (fun h11 eh11 => ?_)
  have hI12 : Inv h11 := inv_cpy (n := 8) hI7 eh11 (fun _ => rfl)
  have f13 : fr S_Ledger_copyX_0_4 h h11 := fr_row f8 eh11 (fun _ => rfl)
  have C14 : rcp h h11 8 76 4 := rcp_row C9 eh11 (by decide)
  have C15 : rcp h h11 9 77 8 := rcp_row C10 eh11 (by decide)
  have C16 : rcp h h11 10 78 8 := rcp_now f8 (fun _ => rfl) eh11
  refine V_aload_n 1 d_Ledger_copyFrom_44 rfl rfl ?_
  refine V_getR fa_Ledger_21 sk_75 rfl d_Ledger_copyFrom_45 ?_
  refine V_iconst 0 d_Ledger_copyFrom_48 (by decide) ?_
  refine V_aload_n 0 d_Ledger_copyFrom_49 rfl rfl ?_
  refine V_getR fa_Ledger_21 sk_7 rfl d_Ledger_copyFrom_50 ?_
  refine V_iconst 0 d_Ledger_copyFrom_53 (by decide) ?_
  refine V_bipush 8 d_Ledger_copyFrom_54 (by decide) ?_
  refine N_acopy sk_79 sk_11 tc_0 tc_0 tc_8 (by omega) wa_Ledger_34 wA1 wA2 wA3 d_Ledger_copyFrom_56 (by decide) (Nat.le_of_ble_eq_true rfl) (fun h17 eh17 => ?_)
  have hI18 : Inv h17 := inv_cpy (n := 8) hI12 eh17 (fun _ => rfl)
  have f19 : fr S_Ledger_copyX_0_4 h h17 := fr_row f13 eh17 (fun _ => rfl)
  have C20 : rcp h h17 8 76 4 := rcp_row C14 eh17 (by decide)
  have C21 : rcp h h17 9 77 8 := rcp_row C15 eh17 (by decide)
  have C22 : rcp h h17 10 78 8 := rcp_row C16 eh17 (by decide)
  have C23 : rcp h h17 11 79 8 := rcp_now f13 (fun _ => rfl) eh17
  refine V_aload_n 0 d_Ledger_copyFrom_59 rfl rfl ?_
  refine V_aload_n 1 d_Ledger_copyFrom_60 rfl rfl ?_
  refine N_getK fa_Ledger_30 sk_75 rfl d_Ledger_copyFrom_61 (kn_row eh17 (kn_row eh11 (kn_row eh6 (kn_row eh2 tK (by decide)) (by decide)) (by decide)) (by decide)) ?_
  refine N_putI fp_Ledger_30 sk_7 rfl d_Ledger_copyFrom_64 (fun h24 eh24 => ?_)
  have hI25 : Inv h24 := inv_put (lo := 0) (hi := 8) hI18 eh24 rfl tE (by omega)
  have f26 : fr S_Ledger_copyX_0_4 h h24 := fr_put f19 eh24 rfl
  have C27 : rcp h h24 8 76 4 := rcp_put C20 eh24 (by decide)
  have C28 : rcp h h24 9 77 8 := rcp_put C21 eh24 (by decide)
  have C29 : rcp h h24 10 78 8 := rcp_put C22 eh24 (by decide)
  have C30 : rcp h h24 11 79 8 := rcp_put C23 eh24 (by decide)
  exact V_vret rfl d_Ledger_copyFrom_67 ⟨rfl, ⟨hI25, f26, ⟨((kn_put eh24).trans tK.symm), C27, C28, C29, C30⟩⟩⟩
def S_Sights_copyX_0_4 : List (Nat × Option Nat) := [(12, some 4), (13, none), (14, none), (15, none), (16, none)]
abbrev q_Sights_copyX_0_4 (h : Hp) (t : Int32) (tZ : Int) : Option Value → Hp → Prop := pVd (fun h' => Inv h' ∧ fr S_Sights_copyX_0_4 h h' ∧ (h'.1 12 4 = h.1 80 4 ∧ rcp h h' 13 81 8 ∧ rcp h h' 14 82 8 ∧ rcp h h' 15 83 8 ∧ rcp h h' 16 84 8))
set_option maxRecDepth 100000 in
theorem c_Sights_copyX_0_4 (h : Hp) (hI : Inv h) (t : Int32) (tZ : Int) (tE : t.toInt = tZ) (tK : h.1 80 4 = t) : Ct y_Sights_copyFrom b_Sights_copyFrom 2 none 1 60 [.ref 12, .ref 80] h (q_Sights_copyX_0_4 h t tZ) := by
  refine ct_ow R_Sights [some (.ref 12), some (.ref 80)] rfl (by decide) rfl (Nat.le_of_ble_eq_true rfl) ?_
  have f0 : fr S_Sights_copyX_0_4 h h := fr_rf
  have g1 : 0 ≤ tZ ∧ tZ ≤ 8 := inv_at hI tE tK.symm rfl
  refine V_aload_n 1 d_Sights_copyFrom_0 rfl rfl ?_
  refine V_getR fa_Sights_9 sk_80 rfl d_Sights_copyFrom_1 ?_
  refine V_iconst 0 d_Sights_copyFrom_4 (by decide) ?_
  refine V_aload_n 0 d_Sights_copyFrom_5 rfl rfl ?_
  refine V_getR fa_Sights_9 sk_12 rfl d_Sights_copyFrom_6 ?_
  refine V_iconst 0 d_Sights_copyFrom_9 (by decide) ?_
  refine V_bipush 8 d_Sights_copyFrom_10 (by decide) ?_
  refine N_acopy sk_81 sk_13 tc_0 tc_0 tc_8 (by omega) wa_Sights_24 wA1 wA2 wA3 d_Sights_copyFrom_12 (by decide) (Nat.le_of_ble_eq_true rfl) (fun h2 eh2 => ?_)
  have hI3 : Inv h2 := inv_cpy (n := 8) hI eh2 (fun _ => rfl)
  have f4 : fr S_Sights_copyX_0_4 h h2 := fr_row f0 eh2 (fun _ => rfl)
  have C5 : rcp h h2 13 81 8 := rcp_now f0 (fun _ => rfl) eh2
  refine V_aload_n 1 d_Sights_copyFrom_15 rfl rfl ?_
  refine V_getR fa_Sights_15 sk_80 rfl d_Sights_copyFrom_16 ?_
  refine V_iconst 0 d_Sights_copyFrom_19 (by decide) ?_
  refine V_aload_n 0 d_Sights_copyFrom_20 rfl rfl ?_
  refine V_getR fa_Sights_15 sk_12 rfl d_Sights_copyFrom_21 ?_
  refine V_iconst 0 d_Sights_copyFrom_24 (by decide) ?_
  refine V_bipush 8 d_Sights_copyFrom_25 (by decide) ?_
  refine N_acopy sk_82 sk_14 tc_0 tc_0 tc_8 (by omega) wa_Sights_24 wA1 wA2 wA3 d_Sights_copyFrom_27 (by decide) (Nat.le_of_ble_eq_true rfl) (fun h6 eh6 => ?_)
  have hI7 : Inv h6 := inv_cpy (n := 8) hI3 eh6 (fun _ => rfl)
  have f8 : fr S_Sights_copyX_0_4 h h6 := fr_row f4 eh6 (fun _ => rfl)
  have C9 : rcp h h6 13 81 8 := rcp_row C5 eh6 (by decide)
  have C10 : rcp h h6 14 82 8 := rcp_now f4 (fun _ => rfl) eh6
  refine V_aload_n 1 d_Sights_copyFrom_30 rfl rfl ?_
  refine V_getR fa_Sights_18 sk_80 rfl d_Sights_copyFrom_31 ?_
  refine V_iconst 0 d_Sights_copyFrom_34 (by decide) ?_
  refine V_aload_n 0 d_Sights_copyFrom_35 rfl rfl ?_
  refine V_getR fa_Sights_18 sk_12 rfl d_Sights_copyFrom_36 ?_
  refine V_iconst 0 d_Sights_copyFrom_39 (by decide) ?_
  refine V_bipush 8 d_Sights_copyFrom_40 (by decide) ?_
  refine N_acopy sk_83 sk_15 tc_0 tc_0 tc_8 (by omega) wa_Sights_24 wA1 wA2 wA3 d_Sights_copyFrom_42 (by decide) (Nat.le_of_ble_eq_true rfl) (fun h11 eh11 => ?_)
  have hI12 : Inv h11 := inv_cpy (n := 8) hI7 eh11 (fun _ => rfl)
  have f13 : fr S_Sights_copyX_0_4 h h11 := fr_row f8 eh11 (fun _ => rfl)
  have C14 : rcp h h11 13 81 8 := rcp_row C9 eh11 (by decide)
  have C15 : rcp h h11 14 82 8 := rcp_row C10 eh11 (by decide)
  have C16 : rcp h h11 15 83 8 := rcp_now f8 (fun _ => rfl) eh11
  refine V_aload_n 1 d_Sights_copyFrom_45 rfl rfl ?_
  refine V_getR fa_Sights_21 sk_80 rfl d_Sights_copyFrom_46 ?_
  refine V_iconst 0 d_Sights_copyFrom_49 (by decide) ?_
  refine V_aload_n 0 d_Sights_copyFrom_50 rfl rfl ?_
  refine V_getR fa_Sights_21 sk_12 rfl d_Sights_copyFrom_51 ?_
  refine V_iconst 0 d_Sights_copyFrom_54 (by decide) ?_
  refine V_bipush 8 d_Sights_copyFrom_55 (by decide) ?_
  refine N_acopy sk_84 sk_16 tc_0 tc_0 tc_8 (by omega) wa_Sights_24 wA1 wA2 wA3 d_Sights_copyFrom_57 (by decide) (Nat.le_of_ble_eq_true rfl) (fun h17 eh17 => ?_)
  have hI18 : Inv h17 := inv_cpy (n := 8) hI12 eh17 (fun _ => rfl)
  have f19 : fr S_Sights_copyX_0_4 h h17 := fr_row f13 eh17 (fun _ => rfl)
  have C20 : rcp h h17 13 81 8 := rcp_row C14 eh17 (by decide)
  have C21 : rcp h h17 14 82 8 := rcp_row C15 eh17 (by decide)
  have C22 : rcp h h17 15 83 8 := rcp_row C16 eh17 (by decide)
  have C23 : rcp h h17 16 84 8 := rcp_now f13 (fun _ => rfl) eh17
  refine V_aload_n 0 d_Sights_copyFrom_60 rfl rfl ?_
  refine V_aload_n 1 d_Sights_copyFrom_61 rfl rfl ?_
  refine N_getK fa_Sights_30 sk_80 rfl d_Sights_copyFrom_62 (kn_row eh17 (kn_row eh11 (kn_row eh6 (kn_row eh2 tK (by decide)) (by decide)) (by decide)) (by decide)) ?_
  refine N_putI fp_Sights_30 sk_12 rfl d_Sights_copyFrom_65 (fun h24 eh24 => ?_)
  have hI25 : Inv h24 := inv_put (lo := 0) (hi := 8) hI18 eh24 rfl tE (by omega)
  have f26 : fr S_Sights_copyX_0_4 h h24 := fr_put f19 eh24 rfl
  have C27 : rcp h h24 13 81 8 := rcp_put C20 eh24 (by decide)
  have C28 : rcp h h24 14 82 8 := rcp_put C21 eh24 (by decide)
  have C29 : rcp h h24 15 83 8 := rcp_put C22 eh24 (by decide)
  have C30 : rcp h h24 16 84 8 := rcp_put C23 eh24 (by decide)
  exact V_vret rfl d_Sights_copyFrom_68 ⟨rfl, ⟨hI25, f26, ⟨((kn_put eh24).trans tK.symm), C27, C28, C29, C30⟩⟩⟩
def S_County_copyX_0_4 : List (Nat × Option Nat) := [(0, some 3), (0, some 4), (1, none), (2, none), (3, none), (4, none), (5, none), (6, none), (7, some 4), (8, none), (9, none), (10, none), (11, none), (12, some 4), (13, none), (14, none), (15, none), (16, none)]
abbrev q_County_copyX_0_4 (h : Hp) (n : Int32) (nZ : Int) (m : Int32) (mZ : Int) : Option Value → Hp → Prop := pVd (fun h' => Inv h' ∧ fr S_County_copyX_0_4 h h' ∧ (cpy h h' 0 68))
set_option maxRecDepth 100000 in
theorem c_County_copyX_0_4 (h : Hp) (hI : Inv h) (n : Int32) (nZ : Int) (nE : n.toInt = nZ) (nK : h.1 68 3 = n) (m : Int32) (mZ : Int) (mE : m.toInt = mZ) (mK : h.1 68 4 = m) : Ct y_County_copyFrom b_County_copyFrom 2 none 2 81 [.ref 0, .ref 68] h (q_County_copyX_0_4 h n nZ m mZ) := by
  refine ct_ow R_County [some (.ref 0), some (.ref 68)] rfl (by decide) rfl (Nat.le_of_ble_eq_true rfl) ?_
  have f0 : fr S_County_copyX_0_4 h h := fr_rf
  refine V_aload_n 0 d_County_copyFrom_0 rfl rfl ?_
  refine V_getR fa_County_12 sk_0 rfl d_County_copyFrom_1 ?_
  refine V_aload_n 1 d_County_copyFrom_4 rfl rfl ?_
  refine V_getR fa_County_12 sk_68 rfl d_County_copyFrom_5 ?_
  obtain ⟨z1, z1Z, z1E, z1e⟩ : ∃ (y : Int32) (Y : Int), y.toInt = Y ∧ y = h.1 69 0 := ⟨_, _, rfl, rfl⟩
  have g2 : 2 ≤ z1Z ∧ z1Z ≤ 4 := inv_at hI z1E z1e rfl
  obtain ⟨z3, z3Z, z3E, z3e⟩ : ∃ (y : Int32) (Y : Int), y.toInt = Y ∧ y = h.1 69 1 := ⟨_, _, rfl, rfl⟩
  have g4 : 2 ≤ z3Z ∧ z3Z ≤ 4 := inv_at hI z3E z3e rfl
  obtain ⟨z5, z5Z, z5E, z5e⟩ : ∃ (y : Int32) (Y : Int), y.toInt = Y ∧ y = h.1 69 2 := ⟨_, _, rfl, rfl⟩
  obtain ⟨z6, z6Z, z6E, z6e⟩ : ∃ (y : Int32) (Y : Int), y.toInt = Y ∧ y = h.1 69 3 := ⟨_, _, rfl, rfl⟩
  refine N_callVV [.ref 69] [] cv_County_47 sk_1 rfl d_County_copyFrom_8 rfl (Nat.le_of_ble_eq_true rfl) (by decide) (by decide) (c_Land_copyX_0_4 h hI z1 z1Z z1E z1e.symm z3 z3Z z3E z3e.symm z5 z5Z z5E z5e.symm z6 z6Z z6E z6e.symm) (fun h8 p9 => ?_)
  obtain ⟨hI10, fh8, p9⟩ := p9
  have f11 : fr S_County_copyX_0_4 h h8 := fr_call f0 fh8 rfl
  have qL := p9
  refine V_aload_n 0 d_County_copyFrom_11 rfl rfl ?_
  refine V_getR fa_County_21 sk_0 rfl d_County_copyFrom_12 ?_
  refine V_aload_n 1 d_County_copyFrom_15 rfl rfl ?_
  refine V_getR fa_County_21 sk_68 rfl d_County_copyFrom_16 ?_
  obtain ⟨z12, z12Z, z12E, z12e⟩ : ∃ (y : Int32) (Y : Int), y.toInt = Y ∧ y = h8.1 75 4 := ⟨_, _, rfl, rfl⟩
  have g13 : 0 ≤ z12Z ∧ z12Z ≤ 8 := inv_at hI10 z12E z12e rfl
  refine N_callVV [.ref 75] [] cv_County_51 sk_7 rfl d_County_copyFrom_19 rfl (Nat.le_of_ble_eq_true rfl) (by decide) (by decide) (c_Ledger_copyX_0_4 h8 hI10 z12 z12Z z12E z12e.symm) (fun h15 p16 => ?_)
  obtain ⟨hI17, fh15, p16⟩ := p16
  have f18 : fr S_County_copyX_0_4 h h15 := fr_call f11 fh15 rfl
  have qG := p16
  refine V_aload_n 0 d_County_copyFrom_22 rfl rfl ?_
  refine V_getR fa_County_28 sk_0 rfl d_County_copyFrom_23 ?_
  refine V_aload_n 1 d_County_copyFrom_26 rfl rfl ?_
  refine V_getR fa_County_28 sk_68 rfl d_County_copyFrom_27 ?_
  obtain ⟨z19, z19Z, z19E, z19e⟩ : ∃ (y : Int32) (Y : Int), y.toInt = Y ∧ y = h15.1 80 4 := ⟨_, _, rfl, rfl⟩
  have g20 : 0 ≤ z19Z ∧ z19Z ≤ 8 := inv_at hI17 z19E z19e rfl
  refine N_callVV [.ref 80] [] cv_County_54 sk_12 rfl d_County_copyFrom_30 rfl (Nat.le_of_ble_eq_true rfl) (by decide) (by decide) (c_Sights_copyX_0_4 h15 hI17 z19 z19Z z19E z19e.symm) (fun h22 p23 => ?_)
  obtain ⟨hI24, fh22, p23⟩ := p23
  have f25 : fr S_County_copyX_0_4 h h22 := fr_call f18 fh22 rfl
  have qS := p23
  refine V_aload_n 0 d_County_copyFrom_33 rfl rfl ?_
  refine V_aload_n 1 d_County_copyFrom_34 rfl rfl ?_
  refine N_getK fa_County_41 sk_68 rfl d_County_copyFrom_35 (kn_call fh22 (kn_call fh15 (kn_call fh8 nK rfl) rfl) rfl) ?_
  refine N_putI fp_County_41 sk_0 rfl d_County_copyFrom_38 (fun h26 eh26 => ?_)
  have hI27 : Inv h26 := inv_full hI24 eh26 rfl
  have f28 : fr S_County_copyX_0_4 h h26 := fr_put f25 eh26 rfl
  refine V_aload_n 0 d_County_copyFrom_41 rfl rfl ?_
  refine V_aload_n 1 d_County_copyFrom_42 rfl rfl ?_
  refine N_getK fa_County_44 sk_68 rfl d_County_copyFrom_43 (kn_ne eh26 (kn_call fh22 (kn_call fh15 (kn_call fh8 mK rfl) rfl) rfl) (by decide)) ?_
  refine N_putI fp_County_44 sk_0 rfl d_County_copyFrom_46 (fun h29 eh29 => ?_)
  have hI30 : Inv h29 := inv_full hI27 eh29 rfl
  have f31 : fr S_County_copyX_0_4 h h29 := fr_put f28 eh29 rfl
  exact V_vret rfl d_County_copyFrom_49 ⟨rfl, ⟨hI30, f31, (cpy_of (a := 0) (b := 68) qL fh15 qG fh22 qS fh8 eh26 eh29 nK mK rfl rfl rfl rfl)⟩⟩
end
section
def S_Mod_copiesX : List (Nat × Option Nat) := [(117, none)]
abbrev q_Mod_copiesX (h : Hp) (t : Int32) (tZ : Int) (f : Int32) (fZ : Int) : Option Value → Hp → Prop := pVd (fun h' => Inv h' ∧ fr S_Mod_copiesX h h' ∧ (mcl h h' tZ fZ 144))
set_option maxRecDepth 100000 in
theorem c_Mod_copiesX (h : Hp) (hI : Inv h) (t : Int32) (tZ : Int) (tE : t.toInt = tZ) (f : Int32) (fZ : Int) (fE : f.toInt = fZ) (hy0 : (tZ = 0 ∨ tZ = 144 ∨ tZ = 288) ∧ (fZ = 0 ∨ fZ = 144 ∨ fZ = 288)) (hy1 : tZ ≠ fZ) : Ct y_Mod_copies b_Mod_copies 4 none 0 0 [.ref 116, .int t, .int f] h (q_Mod_copiesX h t tZ f fZ) := by
  refine ct_ow R_Mod [some (.ref 116), some (.int t), some (.int f), none] rfl (by decide) rfl (Nat.le_of_ble_eq_true rfl) ?_
  have f0 : fr S_Mod_copiesX h h := fr_rf
  refine V_iconst 0 d_Mod_copies_0 (by decide) ?_
  refine V_istore_n 3 [some (.ref 116), some (.int t), some (.int f), some (.int 0)] d_Mod_copies_1 rfl (by decide) rfl rfl ?_
  have L1 : ∀ (nn : Nat) (v3 : Int32) (v3Z : Int) (h4 : Hp), v3.toInt = v3Z → Inv h4 → fr S_Mod_copiesX h h4 → 0 ≤ v3Z ∧ v3Z ≤ 144 → mcl h h4 tZ fZ v3Z → 144 - v3Z < (nn : Int) → V R_Mod b_Mod_copies 4 none 0 0 (q_Mod_copiesX h t tZ f fZ) h4 2 [some (.ref 116), some (.int t), some (.int f), some (.int v3)] [] := by
    intro nn
    induction nn with
    | zero => intro v3 v3Z h4 v3E Ih4 Fh4 q5 q6 hm7; exact absurd hm7 (by omega)
    | succ nn ihL1 =>
      intro v3 v3Z h4 v3E Ih4 Fh4 q5 q6 hm7
      refine V_iload_n 3 d_Mod_copies_2 rfl rfl ?_
      refine V_sipush 144 d_Mod_copies_3 (by decide) ?_
      refine V_icmp_ge 31 v3E tc_144 d_Mod_copies_6 (by decide) (fun c8 => ?_) (fun c8 => ?_)
      ·
        exact V_vret rfl d_Mod_copies_31 ⟨rfl, ⟨Ih4, Fh4, (by rw [show (144 : Int) = v3Z by omega]; assumption)⟩⟩
      ·
        refine V_aload_n 0 d_Mod_copies_9 rfl rfl ?_
        refine V_getR fa_Mod_7 sk_116 rfl d_Mod_copies_10 ?_
        refine V_iload_n 1 d_Mod_copies_13 rfl rfl ?_
        refine V_iload_n 3 d_Mod_copies_14 rfl rfl ?_
        refine V_iadd tE v3E (by omega) d_Mod_copies_15 (fun z9 z9e z9E => ?_)
        refine V_aload_n 0 d_Mod_copies_16 rfl rfl ?_
        refine V_getR fa_Mod_7 sk_116 rfl d_Mod_copies_17 ?_
        refine V_iload_n 2 d_Mod_copies_20 rfl rfl ?_
        refine V_iload_n 3 d_Mod_copies_21 rfl rfl ?_
        refine V_iadd fE v3E (by omega) d_Mod_copies_22 (fun z10 z10e z10E => ?_)
        refine N_iald sk_117 z10E (by omega) d_Mod_copies_23 (fun z11 z11Z z11E z11e => ?_)
        refine N_iast sk_117 z9E (by omega) d_Mod_copies_24 (fun h12 eh12 => ?_)
        have hI13 : Inv h12 := inv_st Ih4 eh12 (Or.inl rfl) z11E (stOk_of Ih4 (Or.inl rfl) z11E z11e (by omega))
        have f14 : fr S_Mod_copiesX h h12 := fr_put Fh4 eh12 rfl
        obtain ⟨z15, z15E, z15e⟩ : ∃ y : Int32, y.toInt = v3Z + 1 ∧ y = v3 + Int32.ofInt 1 := ⟨_, ti_add v3E (by decide) (by omega), rfl⟩
        refine V_iinc 3 [some (.ref 116), some (.int t), some (.int f), some (.int z15)] d_Mod_copies_25 rfl z15e.symm (by decide) rfl rfl ?_
        refine V_goto 2 d_Mod_copies_28 (by decide) ?_
        exact ihL1 z15 ((v3Z + 1)) h12 z15E hI13 f14 (by omega) (mcl_s (by assumption) (by omega) hy0 hy1 eh12 (by assumption)) (by omega)
  exact L1 (Int.toNat ((144 - 0 : Int) + 1)) 0 0 h tc_0 hI f0 (by omega) mcl_0 (by omega)
def S_Rod_keepX : List (Nat × Option Nat) := [(34, some 3), (34, some 4), (35, none), (36, none), (37, none), (38, none), (39, none), (40, none), (41, some 4), (42, none), (43, none), (44, none), (45, none), (46, some 4), (47, none), (48, none), (49, none), (50, none), (51, some 3), (51, some 4), (52, none), (53, none), (54, none), (55, none), (56, none), (57, none), (58, some 4), (59, none), (60, none), (61, none), (62, none), (63, some 4), (64, none), (65, none), (66, none), (67, none), (87, none)]
abbrev q_Rod_keepX (h : Hp) (k : Int32) (kZ : Int) : Option Value → Hp → Prop := pInt (fun r h' => Inv h' ∧ fr S_Rod_keepX h h' ∧ (kZ = 0 ∧ KP h h' 34 51 0 ∧ FQ (h.1 87 0) r ∨ kZ = 1 ∧ KP h h' 51 34 1 ∧ FQ (h.1 87 1) r ∨ (kZ < 0 ∨ 1 < kZ) ∧ h' = h ∧ r.toInt = -1))
set_option maxRecDepth 100000 in
theorem c_Rod_keepX (h : Hp) (hI : Inv h) (k : Int32) (kZ : Int) (kE : k.toInt = kZ) : Ct y_Rod_keep b_Rod_keep 3 (some .int) 3 102 [.ref 85, .int k] h (q_Rod_keepX h k kZ) := by
  refine ct_ow R_Rod [some (.ref 85), some (.int k), none] rfl (by decide) rfl (Nat.le_of_ble_eq_true rfl) ?_
  have f0 : fr S_Rod_keepX h h := fr_rf
  refine V_iload_n 1 d_Rod_keep_0 rfl rfl ?_
  refine V_if_lt 9 kE d_Rod_keep_1 (by decide) (fun c1 => ?_) (fun c1 => ?_)
  ·
    refine V_iconst (-1) d_Rod_keep_9 (by decide) ?_
    exact V_iret rfl d_Rod_keep_10 ⟨(-1), rfl, ⟨hI, f0, (Or.inr (Or.inr ⟨by omega, rfl, tc_m1⟩))⟩⟩
  ·
    refine V_iload_n 1 d_Rod_keep_4 rfl rfl ?_
    refine V_iconst 2 d_Rod_keep_5 (by decide) ?_
    refine V_icmp_lt 11 kE tc_2 d_Rod_keep_6 (by decide) (fun c2 => ?_) (fun c2 => ?_)
    ·
      refine V_aload_n 0 d_Rod_keep_11 rfl rfl ?_
      refine V_getR fa_Rod_23 sk_85 rfl d_Rod_keep_12 ?_
      refine V_iload_n 1 d_Rod_keep_15 rfl rfl ?_
      refine N_zald sk_87 kE (by omega) d_Rod_keep_16 (fun z3 z3Z z3E z3e => ?_)
      refine N_callSI [.int z3] [] cs_Rod_147 d_Rod_keep_17 rfl (Nat.le_of_ble_eq_true rfl) (by decide) (by decide) (c_Rod_oneIf h z3 z3Z z3E) (fun z4 h5 z4Z z4E p6 => ?_)
      obtain ⟨eh5, p6⟩ := p6
      subst eh5
      refine V_istore_n 2 [some (.ref 85), some (.int k), some (.int z4)] d_Rod_keep_20 rfl (by decide) rfl rfl ?_
      refine V_aload_n 0 d_Rod_keep_21 rfl rfl ?_
      refine V_getR fa_Rod_19 sk_85 rfl d_Rod_keep_22 ?_
      refine V_iload_n 1 d_Rod_keep_25 rfl rfl ?_
      rcases (by omega : kZ = 0 ∨ kZ = 1) with c7 | c7
      ·
        refine V_aald (r := 34) sk_86 (by decide) kE (by omega) (by rw [c7]; rfl) d_Rod_keep_26 ?_
        refine V_aload_n 0 d_Rod_keep_27 rfl rfl ?_
        refine V_getR fa_Rod_12 sk_85 rfl d_Rod_keep_28 ?_
        obtain ⟨z8, z8Z, z8E, z8e⟩ : ∃ (y : Int32) (Y : Int), y.toInt = Y ∧ y = h.1 0 3 := ⟨_, _, rfl, rfl⟩
        obtain ⟨z9, z9Z, z9E, z9e⟩ : ∃ (y : Int32) (Y : Int), y.toInt = Y ∧ y = h.1 0 4 := ⟨_, _, rfl, rfl⟩
        refine N_callVV [.ref 0] [] cv_Rod_84 sk_34 rfl d_Rod_keep_31 rfl (Nat.le_of_ble_eq_true rfl) (by decide) (by decide) (c_County_copyX_2_0 h hI z8 z8Z z8E z8e.symm z9 z9Z z9E z9e.symm) (fun h11 p12 => ?_)
        obtain ⟨hI13, fh11, p12⟩ := p12
        have f14 : fr S_Rod_keepX h h11 := fr_call f0 fh11 rfl
        refine V_aload_n 0 d_Rod_keep_34 rfl rfl ?_
        refine V_getR fa_Rod_23 sk_85 rfl d_Rod_keep_35 ?_
        refine V_iload_n 1 d_Rod_keep_38 rfl rfl ?_
        refine V_iconst 1 d_Rod_keep_39 (by decide) ?_
        refine N_zast sk_87 kE (by omega) d_Rod_keep_40 (fun h15 eh15 => ?_)
        have hI16 : Inv h15 := inv_full hI13 eh15 rfl
        have f17 : fr S_Rod_keepX h h15 := fr_put f14 eh15 rfl
        refine V_iload_n 2 d_Rod_keep_41 rfl rfl ?_
        exact V_iret rfl d_Rod_keep_42 ⟨z4, rfl, ⟨hI16, f17, (Or.inl ⟨by omega, KP_of p12 fh11 rfl rfl (by decide) eh15 (by decide) (by omega), FQ_of z3e (by omega) z3E p6⟩)⟩⟩
      ·
        refine V_aald (r := 51) sk_86 (by decide) kE (by omega) (by rw [c7]; rfl) d_Rod_keep_26 ?_
        refine V_aload_n 0 d_Rod_keep_27 rfl rfl ?_
        refine V_getR fa_Rod_12 sk_85 rfl d_Rod_keep_28 ?_
        obtain ⟨z18, z18Z, z18E, z18e⟩ : ∃ (y : Int32) (Y : Int), y.toInt = Y ∧ y = h.1 0 3 := ⟨_, _, rfl, rfl⟩
        obtain ⟨z19, z19Z, z19E, z19e⟩ : ∃ (y : Int32) (Y : Int), y.toInt = Y ∧ y = h.1 0 4 := ⟨_, _, rfl, rfl⟩
        refine N_callVV [.ref 0] [] cv_Rod_84 sk_51 rfl d_Rod_keep_31 rfl (Nat.le_of_ble_eq_true rfl) (by decide) (by decide) (c_County_copyX_3_0 h hI z18 z18Z z18E z18e.symm z19 z19Z z19E z19e.symm) (fun h21 p22 => ?_)
        obtain ⟨hI23, fh21, p22⟩ := p22
        have f24 : fr S_Rod_keepX h h21 := fr_call f0 fh21 rfl
        refine V_aload_n 0 d_Rod_keep_34 rfl rfl ?_
        refine V_getR fa_Rod_23 sk_85 rfl d_Rod_keep_35 ?_
        refine V_iload_n 1 d_Rod_keep_38 rfl rfl ?_
        refine V_iconst 1 d_Rod_keep_39 (by decide) ?_
        refine N_zast sk_87 kE (by omega) d_Rod_keep_40 (fun h25 eh25 => ?_)
        have hI26 : Inv h25 := inv_full hI23 eh25 rfl
        have f27 : fr S_Rod_keepX h h25 := fr_put f24 eh25 rfl
        refine V_iload_n 2 d_Rod_keep_41 rfl rfl ?_
        exact V_iret rfl d_Rod_keep_42 ⟨z4, rfl, ⟨hI26, f27, (Or.inr (Or.inl ⟨by omega, KP_of p22 fh21 rfl rfl (by decide) eh25 (by decide) (by omega), FQ_of z3e (by omega) z3E p6⟩))⟩⟩
    ·
      refine V_iconst (-1) d_Rod_keep_9 (by decide) ?_
      exact V_iret rfl d_Rod_keep_10 ⟨(-1), rfl, ⟨hI, f0, (Or.inr (Or.inr ⟨by omega, rfl, tc_m1⟩))⟩⟩
def S_Mod_keepX : List (Nat × Option Nat) := [(117, none), (118, none)]
abbrev q_Mod_keepX (h : Hp) (k : Int32) (kZ : Int) : Option Value → Hp → Prop := pInt (fun r h' => Inv h' ∧ fr S_Mod_keepX h h' ∧ (kZ = 0 ∧ MKP h h' 144 0 ∧ FQ (h.1 118 0) r ∨ kZ = 1 ∧ MKP h h' 288 1 ∧ FQ (h.1 118 1) r ∨ (kZ < 0 ∨ 1 < kZ) ∧ h' = h ∧ r.toInt = -1))
set_option maxRecDepth 100000 in
theorem c_Mod_keepX (h : Hp) (hI : Inv h) (k : Int32) (kZ : Int) (kE : k.toInt = kZ) : Ct y_Mod_keep b_Mod_keep 3 (some .int) 1 25 [.ref 116, .int k] h (q_Mod_keepX h k kZ) := by
  refine ct_ow R_Mod [some (.ref 116), some (.int k), none] rfl (by decide) rfl (Nat.le_of_ble_eq_true rfl) ?_
  have f0 : fr S_Mod_keepX h h := fr_rf
  refine V_iload_n 1 d_Mod_keep_0 rfl rfl ?_
  refine V_i2l d_Mod_keep_1 (fun z1 z1e z1E => ?_)
  have z1F : z1.toInt = kZ := z1E.trans kE
  refine V_lconst 0 d_Mod_keep_2 (by decide) ?_
  refine V_lconst 1 d_Mod_keep_3 (by decide) ?_
  refine N_callSI [.long z1, .long 0, .long 1] [] cs_Mod_95 d_Mod_keep_4 rfl (Nat.le_of_ble_eq_true rfl) (by decide) (by decide) (c_Mod_in h z1 kZ z1F 0 0 tl_0 1 1 tl_1) (fun z2 h3 z2Z z2E p4 => ?_)
  obtain ⟨eh3, p4⟩ := p4
  subst eh3
  refine V_if_ne 12 z2E d_Mod_keep_7 (by decide) (fun c5 => ?_) (fun c5 => ?_)
  ·
    rcases (by omega : kZ = 0 ∨ kZ = 1) with c6 | c6
    ·
      refine V_aload_n 0 d_Mod_keep_12 rfl rfl ?_
      refine V_getR fa_Mod_13 sk_116 rfl d_Mod_keep_13 ?_
      refine V_iload_n 1 d_Mod_keep_16 rfl rfl ?_
      refine N_zald sk_118 kE (by omega) d_Mod_keep_17 (fun z7 z7Z z7E z7e => ?_)
      refine N_callSI [.int z7] [] cs_Mod_196 d_Mod_keep_18 rfl (Nat.le_of_ble_eq_true rfl) (by decide) (by decide) (c_Mod_flag h z7 z7Z z7E) (fun z8 h9 z8Z z8E p10 => ?_)
      obtain ⟨eh9, p10⟩ := p10
      subst eh9
      refine V_istore_n 2 [some (.ref 116), some (.int k), some (.int z8)] d_Mod_keep_21 rfl (by decide) rfl rfl ?_
      refine V_aload_n 0 d_Mod_keep_22 rfl rfl ?_
      refine V_getR fa_Mod_13 sk_116 rfl d_Mod_keep_23 ?_
      refine V_iload_n 1 d_Mod_keep_26 rfl rfl ?_
      refine V_iconst 1 d_Mod_keep_27 (by decide) ?_
      refine N_zast sk_118 kE (by omega) d_Mod_keep_28 (fun h11 eh11 => ?_)
      have hI12 : Inv h11 := inv_full hI eh11 rfl
      have f13 : fr S_Mod_keepX h h11 := fr_put f0 eh11 rfl
      refine V_aload_n 0 d_Mod_keep_29 rfl rfl ?_
      refine V_sipush 144 d_Mod_keep_30 (by decide) ?_
      refine V_iload_n 1 d_Mod_keep_33 rfl rfl ?_
      refine V_iconst 1 d_Mod_keep_34 (by decide) ?_
      refine V_iadd kE tc_1 (by omega) d_Mod_keep_35 (fun z14 z14e z14E => ?_)
      refine V_imul tc_144 z14E (by omega) d_Mod_keep_36 (fun z15 z15e z15E => ?_)
      refine V_iconst 0 d_Mod_keep_37 (by decide) ?_
      refine N_callVV [.int z15, .int 0] [] cv_Mod_317 sk_116 rfl d_Mod_keep_38 rfl (Nat.le_of_ble_eq_true rfl) (by decide) (by decide) (c_Mod_copiesX h11 hI12 z15 ((144 * (kZ + 1))) z15E 0 0 tc_0 (by omega) (by omega)) (fun h17 p18 => ?_)
      obtain ⟨hI19, fh17, p18⟩ := p18
      have f20 : fr S_Mod_keepX h h17 := fr_call f13 fh17 rfl
      refine V_iload_n 2 d_Mod_keep_41 rfl rfl ?_
      exact V_iret rfl d_Mod_keep_42 ⟨z8, rfl, ⟨hI19, f20, (Or.inl ⟨by omega, MKP_of eh11 (by decide) (by omega) p18 (by omega) fh17 rfl, FQ_of z7e (by omega) z7E p10⟩)⟩⟩
    ·
      refine V_aload_n 0 d_Mod_keep_12 rfl rfl ?_
      refine V_getR fa_Mod_13 sk_116 rfl d_Mod_keep_13 ?_
      refine V_iload_n 1 d_Mod_keep_16 rfl rfl ?_
      refine N_zald sk_118 kE (by omega) d_Mod_keep_17 (fun z21 z21Z z21E z21e => ?_)
      refine N_callSI [.int z21] [] cs_Mod_196 d_Mod_keep_18 rfl (Nat.le_of_ble_eq_true rfl) (by decide) (by decide) (c_Mod_flag h z21 z21Z z21E) (fun z22 h23 z22Z z22E p24 => ?_)
      obtain ⟨eh23, p24⟩ := p24
      subst eh23
      refine V_istore_n 2 [some (.ref 116), some (.int k), some (.int z22)] d_Mod_keep_21 rfl (by decide) rfl rfl ?_
      refine V_aload_n 0 d_Mod_keep_22 rfl rfl ?_
      refine V_getR fa_Mod_13 sk_116 rfl d_Mod_keep_23 ?_
      refine V_iload_n 1 d_Mod_keep_26 rfl rfl ?_
      refine V_iconst 1 d_Mod_keep_27 (by decide) ?_
      refine N_zast sk_118 kE (by omega) d_Mod_keep_28 (fun h25 eh25 => ?_)
      have hI26 : Inv h25 := inv_full hI eh25 rfl
      have f27 : fr S_Mod_keepX h h25 := fr_put f0 eh25 rfl
      refine V_aload_n 0 d_Mod_keep_29 rfl rfl ?_
      refine V_sipush 144 d_Mod_keep_30 (by decide) ?_
      refine V_iload_n 1 d_Mod_keep_33 rfl rfl ?_
      refine V_iconst 1 d_Mod_keep_34 (by decide) ?_
      refine V_iadd kE tc_1 (by omega) d_Mod_keep_35 (fun z28 z28e z28E => ?_)
      refine V_imul tc_144 z28E (by omega) d_Mod_keep_36 (fun z29 z29e z29E => ?_)
      refine V_iconst 0 d_Mod_keep_37 (by decide) ?_
      refine N_callVV [.int z29, .int 0] [] cv_Mod_317 sk_116 rfl d_Mod_keep_38 rfl (Nat.le_of_ble_eq_true rfl) (by decide) (by decide) (c_Mod_copiesX h25 hI26 z29 ((144 * (kZ + 1))) z29E 0 0 tc_0 (by omega) (by omega)) (fun h31 p32 => ?_)
      obtain ⟨hI33, fh31, p32⟩ := p32
      have f34 : fr S_Mod_keepX h h31 := fr_call f27 fh31 rfl
      refine V_iload_n 2 d_Mod_keep_41 rfl rfl ?_
      exact V_iret rfl d_Mod_keep_42 ⟨z22, rfl, ⟨hI33, f34, (Or.inr (Or.inl ⟨by omega, MKP_of eh25 (by decide) (by omega) p32 (by omega) fh31 rfl, FQ_of z21e (by omega) z21E p24⟩))⟩⟩
  ·
    refine V_iconst (-1) d_Mod_keep_10 (by decide) ?_
    exact V_iret rfl d_Mod_keep_11 ⟨(-1), rfl, ⟨hI, f0, (Or.inr (Or.inr ⟨by omega, rfl, tc_m1⟩))⟩⟩
def S_Rod_backX : List (Nat × Option Nat) := [(0, some 3), (0, some 4), (1, none), (2, none), (3, none), (4, none), (5, none), (6, none), (7, some 4), (8, none), (9, none), (10, none), (11, none), (12, some 4), (13, none), (14, none), (15, none), (16, none)]
abbrev q_Rod_backX (h : Hp) (k : Int32) (kZ : Int) : Option Value → Hp → Prop := pInt (fun r h' => Inv h' ∧ fr S_Rod_backX h h' ∧ (kZ = 0 ∧ (h.1 87 0).toInt ≠ 0 ∧ cpy h h' 0 34 ∨ kZ = 1 ∧ (h.1 87 1).toInt ≠ 0 ∧ cpy h h' 0 51 ∨ (kZ = 0 ∧ (h.1 87 0).toInt = 0 ∨ kZ = 1 ∧ (h.1 87 1).toInt = 0 ∨ kZ < 0 ∨ 1 < kZ) ∧ h' = h))
set_option maxRecDepth 100000 in
theorem c_Rod_backX (h : Hp) (hI : Inv h) (k : Int32) (kZ : Int) (kE : k.toInt = kZ) : Ct y_Rod_back b_Rod_back 2 (some .int) 3 102 [.ref 85, .int k] h (q_Rod_backX h k kZ) := by
  refine ct_ow R_Rod [some (.ref 85), some (.int k)] rfl (by decide) rfl (Nat.le_of_ble_eq_true rfl) ?_
  have f0 : fr S_Rod_backX h h := fr_rf
  refine V_iload_n 1 d_Rod_back_0 rfl rfl ?_
  refine V_if_lt 9 kE d_Rod_back_1 (by decide) (fun c1 => ?_) (fun c1 => ?_)
  ·
    refine V_iconst (-1) d_Rod_back_9 (by decide) ?_
    exact V_iret rfl d_Rod_back_10 ⟨(-1), rfl, ⟨hI, f0, (Or.inr (Or.inr ⟨by omega, rfl⟩))⟩⟩
  ·
    refine V_iload_n 1 d_Rod_back_4 rfl rfl ?_
    refine V_iconst 2 d_Rod_back_5 (by decide) ?_
    refine V_icmp_lt 11 kE tc_2 d_Rod_back_6 (by decide) (fun c2 => ?_) (fun c2 => ?_)
    ·
      rcases (by omega : kZ = 0 ∨ kZ = 1) with c3 | c3
      ·
        refine V_aload_n 0 d_Rod_back_11 rfl rfl ?_
        refine V_getR fa_Rod_23 sk_85 rfl d_Rod_back_12 ?_
        refine V_iload_n 1 d_Rod_back_15 rfl rfl ?_
        refine N_zald sk_87 kE (by omega) d_Rod_back_16 (fun z4 z4Z z4E z4e => ?_)
        refine V_if_ne 23 z4E d_Rod_back_17 (by decide) (fun c5 => ?_) (fun c5 => ?_)
        ·
          refine V_aload_n 0 d_Rod_back_23 rfl rfl ?_
          refine V_getR fa_Rod_12 sk_85 rfl d_Rod_back_24 ?_
          refine V_aload_n 0 d_Rod_back_27 rfl rfl ?_
          refine V_getR fa_Rod_19 sk_85 rfl d_Rod_back_28 ?_
          refine V_iload_n 1 d_Rod_back_31 rfl rfl ?_
          rcases (by omega : kZ = 0 ∨ kZ = 1) with c6 | c6
          ·
            refine V_aald (r := 34) sk_86 (by decide) kE (by omega) (by rw [c6]; rfl) d_Rod_back_32 ?_
            obtain ⟨z7, z7Z, z7E, z7e⟩ : ∃ (y : Int32) (Y : Int), y.toInt = Y ∧ y = h.1 34 3 := ⟨_, _, rfl, rfl⟩
            obtain ⟨z8, z8Z, z8E, z8e⟩ : ∃ (y : Int32) (Y : Int), y.toInt = Y ∧ y = h.1 34 4 := ⟨_, _, rfl, rfl⟩
            refine N_callVV [.ref 34] [] cv_Rod_84 sk_0 rfl d_Rod_back_33 rfl (Nat.le_of_ble_eq_true rfl) (by decide) (by decide) (c_County_copyX_0_2 h hI z7 z7Z z7E z7e.symm z8 z8Z z8E z8e.symm) (fun h10 p11 => ?_)
            obtain ⟨hI12, fh10, p11⟩ := p11
            have f13 : fr S_Rod_backX h h10 := fr_call f0 fh10 rfl
            refine V_aload_n 0 d_Rod_back_36 rfl rfl ?_
            refine V_getR fa_Rod_12 sk_85 rfl d_Rod_back_37 ?_
            refine V_getR fa_Rod_91 sk_0 rfl d_Rod_back_40 ?_
            obtain ⟨z14, z14Z, z14E, z14e⟩ : ∃ (y : Int32) (Y : Int), y.toInt = Y ∧ y = h10.1 1 0 := ⟨_, _, rfl, rfl⟩
            have g15 : 2 ≤ z14Z ∧ z14Z ≤ 4 := inv_at hI12 z14E z14e rfl
            obtain ⟨z16, z16Z, z16E, z16e⟩ : ∃ (y : Int32) (Y : Int), y.toInt = Y ∧ y = h10.1 1 1 := ⟨_, _, rfl, rfl⟩
            have g17 : 2 ≤ z16Z ∧ z16Z ≤ 4 := inv_at hI12 z16E z16e rfl
            refine N_callVI [] [] cv_Rod_168 sk_1 rfl d_Rod_back_43 rfl (Nat.le_of_ble_eq_true rfl) (by decide) (by decide) (c_Land_wells_0 h10 hI12 z14 z14Z z14E z14e.symm z16 z16Z z16E z16e.symm) (fun z18 h19 z18Z z18E p20 => ?_)
            subst p20
            exact V_iret rfl d_Rod_back_46 ⟨z18, rfl, ⟨hI12, f13, (Or.inl ⟨by omega, (by rw [show h.1 87 0 = z4 from by rw [z4e]; exact congrArg (h.1 87) (by omega), z4E]; omega), p11⟩)⟩⟩
          ·
            refine V_aald (r := 51) sk_86 (by decide) kE (by omega) (by rw [c6]; rfl) d_Rod_back_32 ?_
            obtain ⟨z21, z21Z, z21E, z21e⟩ : ∃ (y : Int32) (Y : Int), y.toInt = Y ∧ y = h.1 51 3 := ⟨_, _, rfl, rfl⟩
            obtain ⟨z22, z22Z, z22E, z22e⟩ : ∃ (y : Int32) (Y : Int), y.toInt = Y ∧ y = h.1 51 4 := ⟨_, _, rfl, rfl⟩
            refine N_callVV [.ref 51] [] cv_Rod_84 sk_0 rfl d_Rod_back_33 rfl (Nat.le_of_ble_eq_true rfl) (by decide) (by decide) (c_County_copyX_0_3 h hI z21 z21Z z21E z21e.symm z22 z22Z z22E z22e.symm) (fun h24 p25 => ?_)
            obtain ⟨hI26, fh24, p25⟩ := p25
            have f27 : fr S_Rod_backX h h24 := fr_call f0 fh24 rfl
            refine V_aload_n 0 d_Rod_back_36 rfl rfl ?_
            refine V_getR fa_Rod_12 sk_85 rfl d_Rod_back_37 ?_
            refine V_getR fa_Rod_91 sk_0 rfl d_Rod_back_40 ?_
            obtain ⟨z28, z28Z, z28E, z28e⟩ : ∃ (y : Int32) (Y : Int), y.toInt = Y ∧ y = h24.1 1 0 := ⟨_, _, rfl, rfl⟩
            have g29 : 2 ≤ z28Z ∧ z28Z ≤ 4 := inv_at hI26 z28E z28e rfl
            obtain ⟨z30, z30Z, z30E, z30e⟩ : ∃ (y : Int32) (Y : Int), y.toInt = Y ∧ y = h24.1 1 1 := ⟨_, _, rfl, rfl⟩
            have g31 : 2 ≤ z30Z ∧ z30Z ≤ 4 := inv_at hI26 z30E z30e rfl
            refine N_callVI [] [] cv_Rod_168 sk_1 rfl d_Rod_back_43 rfl (Nat.le_of_ble_eq_true rfl) (by decide) (by decide) (c_Land_wells_0 h24 hI26 z28 z28Z z28E z28e.symm z30 z30Z z30E z30e.symm) (fun z32 h33 z32Z z32E p34 => ?_)
            subst p34
            exact V_iret rfl d_Rod_back_46 ⟨z32, rfl, ⟨hI26, f27, (by exfalso; omega)⟩⟩
        ·
          refine V_bipush (-2) d_Rod_back_20 (by decide) ?_
          exact V_iret rfl d_Rod_back_22 ⟨(-2), rfl, ⟨hI, f0, (Or.inr (Or.inr ⟨Or.inl ⟨by omega, (by rw [show h.1 87 0 = z4 from by rw [z4e]; exact congrArg (h.1 87) (by omega), z4E]; omega)⟩, rfl⟩))⟩⟩
      ·
        refine V_aload_n 0 d_Rod_back_11 rfl rfl ?_
        refine V_getR fa_Rod_23 sk_85 rfl d_Rod_back_12 ?_
        refine V_iload_n 1 d_Rod_back_15 rfl rfl ?_
        refine N_zald sk_87 kE (by omega) d_Rod_back_16 (fun z35 z35Z z35E z35e => ?_)
        refine V_if_ne 23 z35E d_Rod_back_17 (by decide) (fun c36 => ?_) (fun c36 => ?_)
        ·
          refine V_aload_n 0 d_Rod_back_23 rfl rfl ?_
          refine V_getR fa_Rod_12 sk_85 rfl d_Rod_back_24 ?_
          refine V_aload_n 0 d_Rod_back_27 rfl rfl ?_
          refine V_getR fa_Rod_19 sk_85 rfl d_Rod_back_28 ?_
          refine V_iload_n 1 d_Rod_back_31 rfl rfl ?_
          rcases (by omega : kZ = 0 ∨ kZ = 1) with c37 | c37
          ·
            refine V_aald (r := 34) sk_86 (by decide) kE (by omega) (by rw [c37]; rfl) d_Rod_back_32 ?_
            obtain ⟨z38, z38Z, z38E, z38e⟩ : ∃ (y : Int32) (Y : Int), y.toInt = Y ∧ y = h.1 34 3 := ⟨_, _, rfl, rfl⟩
            obtain ⟨z39, z39Z, z39E, z39e⟩ : ∃ (y : Int32) (Y : Int), y.toInt = Y ∧ y = h.1 34 4 := ⟨_, _, rfl, rfl⟩
            refine N_callVV [.ref 34] [] cv_Rod_84 sk_0 rfl d_Rod_back_33 rfl (Nat.le_of_ble_eq_true rfl) (by decide) (by decide) (c_County_copyX_0_2 h hI z38 z38Z z38E z38e.symm z39 z39Z z39E z39e.symm) (fun h41 p42 => ?_)
            obtain ⟨hI43, fh41, p42⟩ := p42
            have f44 : fr S_Rod_backX h h41 := fr_call f0 fh41 rfl
            refine V_aload_n 0 d_Rod_back_36 rfl rfl ?_
            refine V_getR fa_Rod_12 sk_85 rfl d_Rod_back_37 ?_
            refine V_getR fa_Rod_91 sk_0 rfl d_Rod_back_40 ?_
            obtain ⟨z45, z45Z, z45E, z45e⟩ : ∃ (y : Int32) (Y : Int), y.toInt = Y ∧ y = h41.1 1 0 := ⟨_, _, rfl, rfl⟩
            have g46 : 2 ≤ z45Z ∧ z45Z ≤ 4 := inv_at hI43 z45E z45e rfl
            obtain ⟨z47, z47Z, z47E, z47e⟩ : ∃ (y : Int32) (Y : Int), y.toInt = Y ∧ y = h41.1 1 1 := ⟨_, _, rfl, rfl⟩
            have g48 : 2 ≤ z47Z ∧ z47Z ≤ 4 := inv_at hI43 z47E z47e rfl
            refine N_callVI [] [] cv_Rod_168 sk_1 rfl d_Rod_back_43 rfl (Nat.le_of_ble_eq_true rfl) (by decide) (by decide) (c_Land_wells_0 h41 hI43 z45 z45Z z45E z45e.symm z47 z47Z z47E z47e.symm) (fun z49 h50 z49Z z49E p51 => ?_)
            subst p51
            exact V_iret rfl d_Rod_back_46 ⟨z49, rfl, ⟨hI43, f44, (by exfalso; omega)⟩⟩
          ·
            refine V_aald (r := 51) sk_86 (by decide) kE (by omega) (by rw [c37]; rfl) d_Rod_back_32 ?_
            obtain ⟨z52, z52Z, z52E, z52e⟩ : ∃ (y : Int32) (Y : Int), y.toInt = Y ∧ y = h.1 51 3 := ⟨_, _, rfl, rfl⟩
            obtain ⟨z53, z53Z, z53E, z53e⟩ : ∃ (y : Int32) (Y : Int), y.toInt = Y ∧ y = h.1 51 4 := ⟨_, _, rfl, rfl⟩
            refine N_callVV [.ref 51] [] cv_Rod_84 sk_0 rfl d_Rod_back_33 rfl (Nat.le_of_ble_eq_true rfl) (by decide) (by decide) (c_County_copyX_0_3 h hI z52 z52Z z52E z52e.symm z53 z53Z z53E z53e.symm) (fun h55 p56 => ?_)
            obtain ⟨hI57, fh55, p56⟩ := p56
            have f58 : fr S_Rod_backX h h55 := fr_call f0 fh55 rfl
            refine V_aload_n 0 d_Rod_back_36 rfl rfl ?_
            refine V_getR fa_Rod_12 sk_85 rfl d_Rod_back_37 ?_
            refine V_getR fa_Rod_91 sk_0 rfl d_Rod_back_40 ?_
            obtain ⟨z59, z59Z, z59E, z59e⟩ : ∃ (y : Int32) (Y : Int), y.toInt = Y ∧ y = h55.1 1 0 := ⟨_, _, rfl, rfl⟩
            have g60 : 2 ≤ z59Z ∧ z59Z ≤ 4 := inv_at hI57 z59E z59e rfl
            obtain ⟨z61, z61Z, z61E, z61e⟩ : ∃ (y : Int32) (Y : Int), y.toInt = Y ∧ y = h55.1 1 1 := ⟨_, _, rfl, rfl⟩
            have g62 : 2 ≤ z61Z ∧ z61Z ≤ 4 := inv_at hI57 z61E z61e rfl
            refine N_callVI [] [] cv_Rod_168 sk_1 rfl d_Rod_back_43 rfl (Nat.le_of_ble_eq_true rfl) (by decide) (by decide) (c_Land_wells_0 h55 hI57 z59 z59Z z59E z59e.symm z61 z61Z z61E z61e.symm) (fun z63 h64 z63Z z63E p65 => ?_)
            subst p65
            exact V_iret rfl d_Rod_back_46 ⟨z63, rfl, ⟨hI57, f58, (Or.inr (Or.inl ⟨by omega, (by rw [show h.1 87 1 = z35 from by rw [z35e]; exact congrArg (h.1 87) (by omega), z35E]; omega), p56⟩))⟩⟩
        ·
          refine V_bipush (-2) d_Rod_back_20 (by decide) ?_
          exact V_iret rfl d_Rod_back_22 ⟨(-2), rfl, ⟨hI, f0, (Or.inr (Or.inr ⟨Or.inr (Or.inl ⟨by omega, (by rw [show h.1 87 1 = z35 from by rw [z35e]; exact congrArg (h.1 87) (by omega), z35E]; omega)⟩), rfl⟩))⟩⟩
    ·
      refine V_iconst (-1) d_Rod_back_9 (by decide) ?_
      exact V_iret rfl d_Rod_back_10 ⟨(-1), rfl, ⟨hI, f0, (Or.inr (Or.inr ⟨by omega, rfl⟩))⟩⟩
def S_Mod_backX : List (Nat × Option Nat) := [(117, none)]
abbrev q_Mod_backX (h : Hp) (k : Int32) (kZ : Int) (w : Int32) (wZ : Int) (g : Int32) (gZ : Int) : Option Value → Hp → Prop := pInt (fun r h' => Inv h' ∧ fr S_Mod_backX h h' ∧ (kZ = 0 ∧ (h.1 118 0).toInt ≠ 0 ∧ mcl h h' 0 144 144 ∨ kZ = 1 ∧ (h.1 118 1).toInt ≠ 0 ∧ mcl h h' 0 288 144 ∨ (kZ = 0 ∧ (h.1 118 0).toInt = 0 ∨ kZ = 1 ∧ (h.1 118 1).toInt = 0 ∨ kZ < 0 ∨ 1 < kZ) ∧ h' = h))
set_option maxRecDepth 100000 in
theorem c_Mod_backX (h : Hp) (hI : Inv h) (k : Int32) (kZ : Int) (kE : k.toInt = kZ) (w : Int32) (wZ : Int) (wE : w.toInt = wZ) (wK : h.1 116 2 = w) (g : Int32) (gZ : Int) (gE : g.toInt = gZ) (gK : h.1 116 3 = g) : Ct y_Mod_back b_Mod_back 2 (some .int) 3 64 [.ref 116, .int k] h (q_Mod_backX h k kZ w wZ g gZ) := by
  refine ct_ow R_Mod [some (.ref 116), some (.int k)] rfl (by decide) rfl (Nat.le_of_ble_eq_true rfl) ?_
  have f0 : fr S_Mod_backX h h := fr_rf
  have g1 : 2 ≤ wZ ∧ wZ ≤ 4 := inv_at hI wE wK.symm rfl
  have g2 : 2 ≤ gZ ∧ gZ ≤ 4 := inv_at hI gE gK.symm rfl
  refine V_iload_n 1 d_Mod_back_0 rfl rfl ?_
  refine V_i2l d_Mod_back_1 (fun z3 z3e z3E => ?_)
  have z3F : z3.toInt = kZ := z3E.trans kE
  refine V_lconst 0 d_Mod_back_2 (by decide) ?_
  refine V_lconst 1 d_Mod_back_3 (by decide) ?_
  refine N_callSI [.long z3, .long 0, .long 1] [] cs_Mod_95 d_Mod_back_4 rfl (Nat.le_of_ble_eq_true rfl) (by decide) (by decide) (c_Mod_in h z3 kZ z3F 0 0 tl_0 1 1 tl_1) (fun z4 h5 z4Z z4E p6 => ?_)
  obtain ⟨eh5, p6⟩ := p6
  subst eh5
  refine V_if_ne 12 z4E d_Mod_back_7 (by decide) (fun c7 => ?_) (fun c7 => ?_)
  ·
    rcases (by omega : kZ = 0 ∨ kZ = 1) with c8 | c8
    ·
      refine V_aload_n 0 d_Mod_back_12 rfl rfl ?_
      refine V_getR fa_Mod_13 sk_116 rfl d_Mod_back_13 ?_
      refine V_iload_n 1 d_Mod_back_16 rfl rfl ?_
      refine N_zald sk_118 kE (by omega) d_Mod_back_17 (fun z9 z9Z z9E z9e => ?_)
      refine V_if_ne 24 z9E d_Mod_back_18 (by decide) (fun c10 => ?_) (fun c10 => ?_)
      ·
        refine V_aload_n 0 d_Mod_back_24 rfl rfl ?_
        refine V_iconst 0 d_Mod_back_25 (by decide) ?_
        refine V_sipush 144 d_Mod_back_26 (by decide) ?_
        refine V_iload_n 1 d_Mod_back_29 rfl rfl ?_
        refine V_iconst 1 d_Mod_back_30 (by decide) ?_
        refine V_iadd kE tc_1 (by omega) d_Mod_back_31 (fun z11 z11e z11E => ?_)
        refine V_imul tc_144 z11E (by omega) d_Mod_back_32 (fun z12 z12e z12E => ?_)
        refine N_callVV [.int 0, .int z12] [] cv_Mod_317 sk_116 rfl d_Mod_back_33 rfl (Nat.le_of_ble_eq_true rfl) (by decide) (by decide) (c_Mod_copiesX h hI 0 0 tc_0 z12 ((144 * (kZ + 1))) z12E (by omega) (by omega)) (fun h14 p15 => ?_)
        obtain ⟨hI16, fh14, p15⟩ := p15
        have f17 : fr S_Mod_backX h h14 := fr_call f0 fh14 rfl
        refine V_aload_n 0 d_Mod_back_36 rfl rfl ?_
        refine N_callVI [] [] cv_Mod_223 sk_116 rfl d_Mod_back_37 rfl (Nat.le_of_ble_eq_true rfl) (by decide) (by decide) (c_Mod_wells h14 hI16 w wZ wE (kn_call fh14 wK rfl) g gZ gE (kn_call fh14 gK rfl)) (fun z18 h19 z18Z z18E p20 => ?_)
        subst p20
        exact V_iret rfl d_Mod_back_40 ⟨z18, rfl, ⟨hI16, f17, (Or.inl ⟨by omega, (by rw [show h.1 118 0 = z9 from by rw [z9e]; exact congrArg (h.1 118) (by omega), z9E]; omega), (mcl_T (by omega) p15)⟩)⟩⟩
      ·
        refine V_bipush (-2) d_Mod_back_21 (by decide) ?_
        exact V_iret rfl d_Mod_back_23 ⟨(-2), rfl, ⟨hI, f0, (Or.inr (Or.inr ⟨Or.inl ⟨by omega, (by rw [show h.1 118 0 = z9 from by rw [z9e]; exact congrArg (h.1 118) (by omega), z9E]; omega)⟩, rfl⟩))⟩⟩
    ·
      refine V_aload_n 0 d_Mod_back_12 rfl rfl ?_
      refine V_getR fa_Mod_13 sk_116 rfl d_Mod_back_13 ?_
      refine V_iload_n 1 d_Mod_back_16 rfl rfl ?_
      refine N_zald sk_118 kE (by omega) d_Mod_back_17 (fun z21 z21Z z21E z21e => ?_)
      refine V_if_ne 24 z21E d_Mod_back_18 (by decide) (fun c22 => ?_) (fun c22 => ?_)
      ·
        refine V_aload_n 0 d_Mod_back_24 rfl rfl ?_
        refine V_iconst 0 d_Mod_back_25 (by decide) ?_
        refine V_sipush 144 d_Mod_back_26 (by decide) ?_
        refine V_iload_n 1 d_Mod_back_29 rfl rfl ?_
        refine V_iconst 1 d_Mod_back_30 (by decide) ?_
        refine V_iadd kE tc_1 (by omega) d_Mod_back_31 (fun z23 z23e z23E => ?_)
        refine V_imul tc_144 z23E (by omega) d_Mod_back_32 (fun z24 z24e z24E => ?_)
        refine N_callVV [.int 0, .int z24] [] cv_Mod_317 sk_116 rfl d_Mod_back_33 rfl (Nat.le_of_ble_eq_true rfl) (by decide) (by decide) (c_Mod_copiesX h hI 0 0 tc_0 z24 ((144 * (kZ + 1))) z24E (by omega) (by omega)) (fun h26 p27 => ?_)
        obtain ⟨hI28, fh26, p27⟩ := p27
        have f29 : fr S_Mod_backX h h26 := fr_call f0 fh26 rfl
        refine V_aload_n 0 d_Mod_back_36 rfl rfl ?_
        refine N_callVI [] [] cv_Mod_223 sk_116 rfl d_Mod_back_37 rfl (Nat.le_of_ble_eq_true rfl) (by decide) (by decide) (c_Mod_wells h26 hI28 w wZ wE (kn_call fh26 wK rfl) g gZ gE (kn_call fh26 gK rfl)) (fun z30 h31 z30Z z30E p32 => ?_)
        subst p32
        exact V_iret rfl d_Mod_back_40 ⟨z30, rfl, ⟨hI28, f29, (Or.inr (Or.inl ⟨by omega, (by rw [show h.1 118 1 = z21 from by rw [z21e]; exact congrArg (h.1 118) (by omega), z21E]; omega), (mcl_T (by omega) p27)⟩))⟩⟩
      ·
        refine V_bipush (-2) d_Mod_back_21 (by decide) ?_
        exact V_iret rfl d_Mod_back_23 ⟨(-2), rfl, ⟨hI, f0, (Or.inr (Or.inr ⟨Or.inr (Or.inl ⟨by omega, (by rw [show h.1 118 1 = z21 from by rw [z21e]; exact congrArg (h.1 118) (by omega), z21E]; omega)⟩), rfl⟩))⟩⟩
  ·
    refine V_iconst (-1) d_Mod_back_10 (by decide) ?_
    exact V_iret rfl d_Mod_back_11 ⟨(-1), rfl, ⟨hI, f0, (Or.inr (Or.inr ⟨by omega, rfl⟩))⟩⟩
end
