section
def h0l : List (Nat × (Nat → Int32)) := [(0, (fun i => ([0, 0, 0, 0, 9] : List Int32).getD i 0)), (1, (fun i => ([3, 3, 1, 10, 0, 0, 0, 0, 0] : List Int32).getD i 0)), (4, (fun _ => 5)), (5, (fun _ => (-4))), (17, (fun i => ([0, 0, 0, 0, 9] : List Int32).getD i 0)), (18, (fun i => ([3, 3, 1, 10, 0, 0, 0, 0, 0] : List Int32).getD i 0)), (21, (fun _ => 5)), (22, (fun _ => (-4))), (34, (fun i => ([0, 0, 0, 0, 9] : List Int32).getD i 0)), (35, (fun i => ([3, 3, 1, 10, 0, 0, 0, 0, 0] : List Int32).getD i 0)), (38, (fun _ => 5)), (39, (fun _ => (-4))), (51, (fun i => ([0, 0, 0, 0, 9] : List Int32).getD i 0)), (52, (fun i => ([3, 3, 1, 10, 0, 0, 0, 0, 0] : List Int32).getD i 0)), (55, (fun _ => 5)), (56, (fun _ => (-4))), (68, (fun i => ([0, 0, 0, 0, 9] : List Int32).getD i 0)), (69, (fun i => ([3, 3, 1, 10, 0, 0, 0, 0, 0] : List Int32).getD i 0)), (72, (fun _ => 5)), (73, (fun _ => (-4))), (108, (fun i => ([0, (-1), 0] : List Int32).getD i 0)), (110, (fun i => ([0, (-1), 0] : List Int32).getD i 0)), (112, (fun i => ([0, (-1), 0] : List Int32).getD i 0)), (114, (fun i => ([0, (-1), 0] : List Int32).getD i 0)), (116, (fun i => ([0, 0, 3, 3, 1, 10, 0, 3, 3, 1, 10, 0, 0, (-4), 0, 0, 0, 0, 0, 0, 0, 0, 0, 0, 0, 0, 0, 0, 0, 0, 0, 0, 0, 0, 0, 0, 0] : List Int32).getD i 0)), (117, (fun i => if i < 144 then dr0 i else 0)), (119, dr0), (128, (fun _ => -4))]
def h0 : Hp := (fun k => (h0l.lookup k).getD (fun _ => 0), 0)
def adOf (l : List Nat) (ro : Nat → Nat) (b : Nat) : Nat → Nat := fun k => if k < 132 then l.getD k 0 else if k = 200 then b else ro k
theorem rg_zero (k i : Nat) : ((rg k i).1 ≤ 0 ∧ 0 ≤ (rg k i).2) ∨ (k < 85 ∧ k % 17 = 1 ∧ i < 2) ∨ (k = 116 ∧ (i = 2 ∨ i = 3)) := by
  unfold rg
  split
  · unfold rgC
    split <;> first | (left; decide) | (right; left; omega)
  · unfold rgX
    split <;> first | (left; decide) | (right; right; omega) | (left; unfold rgSt; split <;> first | decide | (split <;> first | decide | (split <;> decide)))
theorem lookup_in {α : Type} (k : Nat) (f : α) : ∀ l : List (Nat × α), l.lookup k = some f → (k, f) ∈ l := by
  intro l
  induction l with
  | nil => intro h; cases h
  | cons x l ih =>
    intro h
    obtain ⟨a, g⟩ := x
    by_cases hk : k = a
    · subst hk
      simp [List.lookup] at h
      rw [h]
      exact List.mem_cons_self
    · rw [List.lookup_cons] at h
      rw [show (k == a) = false from beq_eq_false_iff_ne.mpr hk] at h
      exact List.mem_cons_of_mem _ (ih h)
def okR (q : Nat × (Nat → Int32)) : Prop := ∀ i : Nat, (rg q.1 i).1 ≤ (q.2 i).toInt ∧ (q.2 i).toInt ≤ (rg q.1 i).2
theorem okR_st (i : Nat) : (rgSt i).1 ≤ (dr0 i).toInt ∧ (dr0 i).toInt ≤ (rgSt i).2 := by
  by_cases h : i = 85 ∨ (32 ≤ i ∧ i < 64)
  · have e : rgSt i = vv_full := by
      unfold rgSt
      rw [if_neg (by (first | decide +kernel | with_reducible assumption | omega)), if_neg (by (first | decide +kernel | with_reducible assumption | omega)), if_neg (by (first | decide +kernel | with_reducible assumption | omega))]
    rw [e]
    exact ⟨ti_lo _, ti_hi _⟩
  · have e : dr0 i = 0 := by
      unfold dr0
      rw [if_neg (by (first | decide +kernel | with_reducible assumption | omega)), if_neg (by (first | decide +kernel | with_reducible assumption | omega)), if_neg (by (first | decide +kernel | with_reducible assumption | omega))]
    rw [e]
    rcases rg_zero 117 i with h | h | h
    · exact h
    · omega
    · omega
theorem okR_0 : okR (0, (fun i => ([0, 0, 0, 0, 9] : List Int32).getD i 0)) := by
  intro i
  match i with
  | 0 => exact ⟨by decide, by decide⟩
  | 1 => exact ⟨by decide, by decide⟩
  | 2 => exact ⟨by decide, by decide⟩
  | 3 => exact ⟨by decide, by decide⟩
  | 4 => exact ⟨by decide, by decide⟩
  | j + 5 =>
    rcases rg_zero 0 (j + 5) with g | g | g
    · exact g
    · omega
    · omega
theorem okR_1 : okR (1, (fun i => ([3, 3, 1, 10, 0, 0, 0, 0, 0] : List Int32).getD i 0)) := by
  intro i
  match i with
  | 0 => exact ⟨by decide, by decide⟩
  | 1 => exact ⟨by decide, by decide⟩
  | 2 => exact ⟨by decide, by decide⟩
  | 3 => exact ⟨by decide, by decide⟩
  | 4 => exact ⟨by decide, by decide⟩
  | 5 => exact ⟨by decide, by decide⟩
  | 6 => exact ⟨by decide, by decide⟩
  | 7 => exact ⟨by decide, by decide⟩
  | 8 => exact ⟨by decide, by decide⟩
  | j + 9 =>
    rcases rg_zero 1 (j + 9) with g | g | g
    · exact g
    · omega
    · omega
theorem okR_2 : okR (4, (fun _ => 5)) := by
  intro i
  exact ⟨ti_lo _, ti_hi _⟩
theorem okR_3 : okR (5, (fun _ => (-4))) := by
  intro i
  exact ⟨ti_lo _, ti_hi _⟩
theorem okR_4 : okR (17, (fun i => ([0, 0, 0, 0, 9] : List Int32).getD i 0)) := by
  intro i
  match i with
  | 0 => exact ⟨by decide, by decide⟩
  | 1 => exact ⟨by decide, by decide⟩
  | 2 => exact ⟨by decide, by decide⟩
  | 3 => exact ⟨by decide, by decide⟩
  | 4 => exact ⟨by decide, by decide⟩
  | j + 5 =>
    rcases rg_zero 17 (j + 5) with g | g | g
    · exact g
    · omega
    · omega
theorem okR_5 : okR (18, (fun i => ([3, 3, 1, 10, 0, 0, 0, 0, 0] : List Int32).getD i 0)) := by
  intro i
  match i with
  | 0 => exact ⟨by decide, by decide⟩
  | 1 => exact ⟨by decide, by decide⟩
  | 2 => exact ⟨by decide, by decide⟩
  | 3 => exact ⟨by decide, by decide⟩
  | 4 => exact ⟨by decide, by decide⟩
  | 5 => exact ⟨by decide, by decide⟩
  | 6 => exact ⟨by decide, by decide⟩
  | 7 => exact ⟨by decide, by decide⟩
  | 8 => exact ⟨by decide, by decide⟩
  | j + 9 =>
    rcases rg_zero 18 (j + 9) with g | g | g
    · exact g
    · omega
    · omega
theorem okR_6 : okR (21, (fun _ => 5)) := by
  intro i
  exact ⟨ti_lo _, ti_hi _⟩
theorem okR_7 : okR (22, (fun _ => (-4))) := by
  intro i
  exact ⟨ti_lo _, ti_hi _⟩
theorem okR_8 : okR (34, (fun i => ([0, 0, 0, 0, 9] : List Int32).getD i 0)) := by
  intro i
  match i with
  | 0 => exact ⟨by decide, by decide⟩
  | 1 => exact ⟨by decide, by decide⟩
  | 2 => exact ⟨by decide, by decide⟩
  | 3 => exact ⟨by decide, by decide⟩
  | 4 => exact ⟨by decide, by decide⟩
  | j + 5 =>
    rcases rg_zero 34 (j + 5) with g | g | g
    · exact g
    · omega
    · omega
theorem okR_9 : okR (35, (fun i => ([3, 3, 1, 10, 0, 0, 0, 0, 0] : List Int32).getD i 0)) := by
  intro i
  match i with
  | 0 => exact ⟨by decide, by decide⟩
  | 1 => exact ⟨by decide, by decide⟩
  | 2 => exact ⟨by decide, by decide⟩
  | 3 => exact ⟨by decide, by decide⟩
  | 4 => exact ⟨by decide, by decide⟩
  | 5 => exact ⟨by decide, by decide⟩
  | 6 => exact ⟨by decide, by decide⟩
  | 7 => exact ⟨by decide, by decide⟩
  | 8 => exact ⟨by decide, by decide⟩
  | j + 9 =>
    rcases rg_zero 35 (j + 9) with g | g | g
    · exact g
    · omega
    · omega
theorem okR_10 : okR (38, (fun _ => 5)) := by
  intro i
  exact ⟨ti_lo _, ti_hi _⟩
theorem okR_11 : okR (39, (fun _ => (-4))) := by
  intro i
  exact ⟨ti_lo _, ti_hi _⟩
theorem okR_12 : okR (51, (fun i => ([0, 0, 0, 0, 9] : List Int32).getD i 0)) := by
  intro i
  match i with
  | 0 => exact ⟨by decide, by decide⟩
  | 1 => exact ⟨by decide, by decide⟩
  | 2 => exact ⟨by decide, by decide⟩
  | 3 => exact ⟨by decide, by decide⟩
  | 4 => exact ⟨by decide, by decide⟩
  | j + 5 =>
    rcases rg_zero 51 (j + 5) with g | g | g
    · exact g
    · omega
    · omega
theorem okR_13 : okR (52, (fun i => ([3, 3, 1, 10, 0, 0, 0, 0, 0] : List Int32).getD i 0)) := by
  intro i
  match i with
  | 0 => exact ⟨by decide, by decide⟩
  | 1 => exact ⟨by decide, by decide⟩
  | 2 => exact ⟨by decide, by decide⟩
  | 3 => exact ⟨by decide, by decide⟩
  | 4 => exact ⟨by decide, by decide⟩
  | 5 => exact ⟨by decide, by decide⟩
  | 6 => exact ⟨by decide, by decide⟩
  | 7 => exact ⟨by decide, by decide⟩
  | 8 => exact ⟨by decide, by decide⟩
  | j + 9 =>
    rcases rg_zero 52 (j + 9) with g | g | g
    · exact g
    · omega
    · omega
theorem okR_14 : okR (55, (fun _ => 5)) := by
  intro i
  exact ⟨ti_lo _, ti_hi _⟩
theorem okR_15 : okR (56, (fun _ => (-4))) := by
  intro i
  exact ⟨ti_lo _, ti_hi _⟩
theorem okR_16 : okR (68, (fun i => ([0, 0, 0, 0, 9] : List Int32).getD i 0)) := by
  intro i
  match i with
  | 0 => exact ⟨by decide, by decide⟩
  | 1 => exact ⟨by decide, by decide⟩
  | 2 => exact ⟨by decide, by decide⟩
  | 3 => exact ⟨by decide, by decide⟩
  | 4 => exact ⟨by decide, by decide⟩
  | j + 5 =>
    rcases rg_zero 68 (j + 5) with g | g | g
    · exact g
    · omega
    · omega
theorem okR_17 : okR (69, (fun i => ([3, 3, 1, 10, 0, 0, 0, 0, 0] : List Int32).getD i 0)) := by
  intro i
  match i with
  | 0 => exact ⟨by decide, by decide⟩
  | 1 => exact ⟨by decide, by decide⟩
  | 2 => exact ⟨by decide, by decide⟩
  | 3 => exact ⟨by decide, by decide⟩
  | 4 => exact ⟨by decide, by decide⟩
  | 5 => exact ⟨by decide, by decide⟩
  | 6 => exact ⟨by decide, by decide⟩
  | 7 => exact ⟨by decide, by decide⟩
  | 8 => exact ⟨by decide, by decide⟩
  | j + 9 =>
    rcases rg_zero 69 (j + 9) with g | g | g
    · exact g
    · omega
    · omega
theorem okR_18 : okR (72, (fun _ => 5)) := by
  intro i
  exact ⟨ti_lo _, ti_hi _⟩
theorem okR_19 : okR (73, (fun _ => (-4))) := by
  intro i
  exact ⟨ti_lo _, ti_hi _⟩
theorem okR_20 : okR (108, (fun i => ([0, (-1), 0] : List Int32).getD i 0)) := by
  intro i
  match i with
  | 0 => exact ⟨by decide, by decide⟩
  | 1 => exact ⟨by decide, by decide⟩
  | 2 => exact ⟨by decide, by decide⟩
  | j + 3 =>
    rcases rg_zero 108 (j + 3) with g | g | g
    · exact g
    · omega
    · omega
theorem okR_21 : okR (110, (fun i => ([0, (-1), 0] : List Int32).getD i 0)) := by
  intro i
  match i with
  | 0 => exact ⟨by decide, by decide⟩
  | 1 => exact ⟨by decide, by decide⟩
  | 2 => exact ⟨by decide, by decide⟩
  | j + 3 =>
    rcases rg_zero 110 (j + 3) with g | g | g
    · exact g
    · omega
    · omega
theorem okR_22 : okR (112, (fun i => ([0, (-1), 0] : List Int32).getD i 0)) := by
  intro i
  match i with
  | 0 => exact ⟨by decide, by decide⟩
  | 1 => exact ⟨by decide, by decide⟩
  | 2 => exact ⟨by decide, by decide⟩
  | j + 3 =>
    rcases rg_zero 112 (j + 3) with g | g | g
    · exact g
    · omega
    · omega
theorem okR_23 : okR (114, (fun i => ([0, (-1), 0] : List Int32).getD i 0)) := by
  intro i
  match i with
  | 0 => exact ⟨by decide, by decide⟩
  | 1 => exact ⟨by decide, by decide⟩
  | 2 => exact ⟨by decide, by decide⟩
  | j + 3 =>
    rcases rg_zero 114 (j + 3) with g | g | g
    · exact g
    · omega
    · omega
theorem okR_24 : okR (116, (fun i => ([0, 0, 3, 3, 1, 10, 0, 3, 3, 1, 10, 0, 0, (-4), 0, 0, 0, 0, 0, 0, 0, 0, 0, 0, 0, 0, 0, 0, 0, 0, 0, 0, 0, 0, 0, 0, 0] : List Int32).getD i 0)) := by
  intro i
  match i with
  | 0 => exact ⟨by decide, by decide⟩
  | 1 => exact ⟨by decide, by decide⟩
  | 2 => exact ⟨by decide, by decide⟩
  | 3 => exact ⟨by decide, by decide⟩
  | 4 => exact ⟨by decide, by decide⟩
  | 5 => exact ⟨by decide, by decide⟩
  | 6 => exact ⟨by decide, by decide⟩
  | 7 => exact ⟨by decide, by decide⟩
  | 8 => exact ⟨by decide, by decide⟩
  | 9 => exact ⟨by decide, by decide⟩
  | 10 => exact ⟨by decide, by decide⟩
  | 11 => exact ⟨by decide, by decide⟩
  | 12 => exact ⟨by decide, by decide⟩
  | 13 => exact ⟨by decide, by decide⟩
  | 14 => exact ⟨by decide, by decide⟩
  | 15 => exact ⟨by decide, by decide⟩
  | 16 => exact ⟨by decide, by decide⟩
  | 17 => exact ⟨by decide, by decide⟩
  | 18 => exact ⟨by decide, by decide⟩
  | 19 => exact ⟨by decide, by decide⟩
  | 20 => exact ⟨by decide, by decide⟩
  | 21 => exact ⟨by decide, by decide⟩
  | 22 => exact ⟨by decide, by decide⟩
  | 23 => exact ⟨by decide, by decide⟩
  | 24 => exact ⟨by decide, by decide⟩
  | 25 => exact ⟨by decide, by decide⟩
  | 26 => exact ⟨by decide, by decide⟩
  | 27 => exact ⟨by decide, by decide⟩
  | 28 => exact ⟨by decide, by decide⟩
  | 29 => exact ⟨by decide, by decide⟩
  | 30 => exact ⟨by decide, by decide⟩
  | 31 => exact ⟨by decide, by decide⟩
  | 32 => exact ⟨by decide, by decide⟩
  | 33 => exact ⟨by decide, by decide⟩
  | 34 => exact ⟨by decide, by decide⟩
  | 35 => exact ⟨by decide, by decide⟩
  | 36 => exact ⟨by decide, by decide⟩
  | j + 37 =>
    rcases rg_zero 116 (j + 37) with g | g | g
    · exact g
    · omega
    · omega
theorem okR_25 : okR (117, (fun i => if i < 144 then dr0 i else 0)) := by
  intro i
  show (rgSt i).1 ≤ ((if i < 144 then dr0 i else 0 : Int32)).toInt ∧ _
  by_cases h : i < 144
  · rw [if_pos h]
    have := okR_st i
    exact ⟨this.1, by show ((if i < 144 then dr0 i else 0 : Int32)).toInt ≤ _; rw [if_pos h]; exact this.2⟩
  · rw [if_neg h]
    rcases rg_zero 117 i with g | g | g
    · exact ⟨g.1, by show ((if i < 144 then dr0 i else 0 : Int32)).toInt ≤ _; rw [if_neg h]; exact g.2⟩
    · omega
    · omega
theorem okR_26 : okR (119, dr0) := by
  intro i
  exact okR_st i
theorem okR_27 : okR (128, (fun _ => -4)) := by
  intro i
  exact ⟨ti_lo _, ti_hi _⟩
theorem okR_all : ∀ q ∈ h0l, okR q := List.forall_mem_cons.mpr ⟨okR_0, List.forall_mem_cons.mpr ⟨okR_1, List.forall_mem_cons.mpr ⟨okR_2, List.forall_mem_cons.mpr ⟨okR_3, List.forall_mem_cons.mpr ⟨okR_4, List.forall_mem_cons.mpr ⟨okR_5, List.forall_mem_cons.mpr ⟨okR_6, List.forall_mem_cons.mpr ⟨okR_7, List.forall_mem_cons.mpr ⟨okR_8, List.forall_mem_cons.mpr ⟨okR_9, List.forall_mem_cons.mpr ⟨okR_10, List.forall_mem_cons.mpr ⟨okR_11, List.forall_mem_cons.mpr ⟨okR_12, List.forall_mem_cons.mpr ⟨okR_13, List.forall_mem_cons.mpr ⟨okR_14, List.forall_mem_cons.mpr ⟨okR_15, List.forall_mem_cons.mpr ⟨okR_16, List.forall_mem_cons.mpr ⟨okR_17, List.forall_mem_cons.mpr ⟨okR_18, List.forall_mem_cons.mpr ⟨okR_19, List.forall_mem_cons.mpr ⟨okR_20, List.forall_mem_cons.mpr ⟨okR_21, List.forall_mem_cons.mpr ⟨okR_22, List.forall_mem_cons.mpr ⟨okR_23, List.forall_mem_cons.mpr ⟨okR_24, List.forall_mem_cons.mpr ⟨okR_25, List.forall_mem_cons.mpr ⟨okR_26, List.forall_mem_cons.mpr ⟨okR_27, fun _ h => absurd h List.not_mem_nil⟩⟩⟩⟩⟩⟩⟩⟩⟩⟩⟩⟩⟩⟩⟩⟩⟩⟩⟩⟩⟩⟩⟩⟩⟩⟩⟩⟩
theorem inv_h0 : Inv h0 := by
  intro k i
  cases hl : h0l.lookup k with
  | some f =>
    have e : h0.1 k i = f i := by show ((h0l.lookup k).getD (fun _ => 0)) i = _; rw [hl]; rfl
    rw [e]
    exact okR_all _ (lookup_in k f h0l hl) i
  | none =>
    have e : h0.1 k i = 0 := by show ((h0l.lookup k).getD (fun _ => 0)) i = _; rw [hl]; rfl
    rw [e]
    rcases rg_zero k i with h | h | h
    · exact h
    · exfalso
      rcases (by (first | decide +kernel | with_reducible assumption | omega) : k = 1 ∨ k = 18 ∨ k = 35 ∨ k = 52 ∨ k = 69) with rfl | rfl | rfl | rfl | rfl
      · have := show (h0l.lookup 1).isSome = true from rfl
        rw [hl] at this
        cases this
      · have := show (h0l.lookup 18).isSome = true from rfl
        rw [hl] at this
        cases this
      · have := show (h0l.lookup 35).isSome = true from rfl
        rw [hl] at this
        cases this
      · have := show (h0l.lookup 52).isSome = true from rfl
        rw [hl] at this
        cases this
      · have := show (h0l.lookup 69).isSome = true from rfl
        rw [hl] at this
        cases this
    · exfalso
      have hk := h.1
      subst hk
      have := show (h0l.lookup 116).isSome = true from rfl
      rw [hl] at this
      cases this
theorem fx2 (ad : Nat → Nat) (k0 k1 : Nat) : va_up (va_up (fun _ => none) 0 (some (ad k0))) 1 (some (ad k1)) = fun j => (([k0, k1] : List Nat)[j]?).map ad := by
  funext j
  match j with
  | 0 => rfl
  | 1 => rfl
  | j + 2 =>
    show (if j + 2 = 1 then _ else if j + 2 = 0 then _ else none) = _
    rw [if_neg (by (first | decide +kernel | with_reducible assumption | omega)), if_neg (by (first | decide +kernel | with_reducible assumption | omega))]
    rfl
theorem fx4 (ad : Nat → Nat) (k0 k1 k2 k3 : Nat) : va_up (va_up (va_up (va_up (fun _ => none) 0 (some (ad k0))) 1 (some (ad k1))) 2 (some (ad k2))) 3 (some (ad k3)) = fun j => (([k0, k1, k2, k3] : List Nat)[j]?).map ad := by
  funext j
  match j with
  | 0 => rfl
  | 1 => rfl
  | 2 => rfl
  | 3 => rfl
  | j + 4 =>
    show (if j + 4 = 3 then _ else if j + 4 = 2 then _ else if j + 4 = 1 then _ else if j + 4 = 0 then _ else none) = _
    rw [if_neg (by (first | decide +kernel | with_reducible assumption | omega)), if_neg (by (first | decide +kernel | with_reducible assumption | omega)), if_neg (by (first | decide +kernel | with_reducible assumption | omega)), if_neg (by (first | decide +kernel | with_reducible assumption | omega))]
    rfl
theorem fx6 (ad r : Nat → Nat) (h0 : ad 95 = r 0) (h1 : ad 96 = r 1) (h2 : ad 97 = r 2) (h3 : ad 98 = r 3) (h4 : ad 99 = r 4) (h5 : ad 100 = r 5) : (fun i => if i < 6 then some (r i) else none) = fun j => (([95, 96, 97, 98, 99, 100] : List Nat)[j]?).map ad := by
  funext j
  match j with
  | 0 => rw [if_pos (by decide), ← h0]; rfl
  | 1 => rw [if_pos (by decide), ← h1]; rfl
  | 2 => rw [if_pos (by decide), ← h2]; rfl
  | 3 => rw [if_pos (by decide), ← h3]; rfl
  | 4 => rw [if_pos (by decide), ← h4]; rfl
  | 5 => rw [if_pos (by decide), ← h5]; rfl
  | j + 6 => rw [if_neg (by (first | decide +kernel | with_reducible assumption | omega))]; rfl
theorem st_rodw (ca : Nat → ClassId) (ro : Nat → Nat) (b a0 m0 : Nat) (q1 : Nat) (q18 : Nat) (q35 : Nat) (q36 : Nat) (q37 : Nat) (q38 : Nat) (q59 : Nat) (q63 : Nat) (q65 : Nat) (q68 : Nat) (q2 : Nat) (q3 : Nat) (q4 : Nat) (q5 : Nat) (q6 : Nat) (q7 : Nat) (q8 : Nat) (q9 : Nat) (q10 : Nat) (q11 : Nat) (q12 : Nat) (q13 : Nat) (q14 : Nat) (q15 : Nat) (q16 : Nat) (q17 : Nat) (q19 : Nat) (q20 : Nat) (q21 : Nat) (q22 : Nat) (q23 : Nat) (q24 : Nat) (q25 : Nat) (q26 : Nat) (q27 : Nat) (q28 : Nat) (q29 : Nat) (q30 : Nat) (q31 : Nat) (q32 : Nat) (q33 : Nat) (q34 : Nat) (q69 : Nat) (q86 : Nat) (q39 : Nat) (q40 : Nat) (q41 : Nat) (q42 : Nat) (q43 : Nat) (q44 : Nat) (q45 : Nat) (q46 : Nat) (q47 : Nat) (q48 : Nat) (q49 : Nat) (q50 : Nat) (q51 : Nat) (q52 : Nat) (q53 : Nat) (q54 : Nat) (q55 : Nat) (q56 : Nat) (q57 : Nat) (q58 : Nat) (q60 : Nat) (q61 : Nat) (r62 : Nat → Nat) (q64 : Nat) (q66 : Nat) (q67 : Nat) (q103 : Nat) (q105 : Nat) (q107 : Nat) (q109 : Nat) (q70 : Nat) (q71 : Nat) (q72 : Nat) (q73 : Nat) (q74 : Nat) (q75 : Nat) (q76 : Nat) (q77 : Nat) (q78 : Nat) (q79 : Nat) (q80 : Nat) (q81 : Nat) (q82 : Nat) (q83 : Nat) (q84 : Nat) (q85 : Nat) (q87 : Nat) (q88 : Nat) (q89 : Nat) (q90 : Nat) (q91 : Nat) (q92 : Nat) (q93 : Nat) (q94 : Nat) (q95 : Nat) (q96 : Nat) (q97 : Nat) (q98 : Nat) (q99 : Nat) (q100 : Nat) (q101 : Nat) (q102 : Nat) (q104 : Nat) (q106 : Nat) (q108 : Nat) (q110 : Nat) (n1 : Nat) (n2 : Nat) (n3 : Nat) (n4 : Nat) (n5 : Nat) (n6 : Nat) (n7 : Nat) (n8 : Nat) (n9 : Nat) (n10 : Nat) (n11 : Nat) (n12 : Nat) (n13 : Nat) (n14 : Nat) (n15 : Nat) : ([(a0, .inr (10, [.ref q1, .ref q18, .ref q35, .ref q36, .ref q37, .ref q38, .ref q59, .ref q63, .ref q65, .ref q68, .int 0])), (q1, .inr (1, [.ref q2, .ref q3, .ref q4, .int 0, .int 9])), (q4, .inr (7, [.ref q5, .ref q6, .ref q7, .ref q8, .int 0])), (q5, .inl (ca 0, 8, .inl (fun _ => 0))), (q6, .inl (ca 0, 8, .inl (fun _ => 0))), (q7, .inl (ca 0, 8, .inl (fun _ => 0))), (q8, .inl (ca 0, 8, .inl (fun _ => 0))), (q2, .inr (2, [.int 3, .int 3, .int 1, .int 10, .ref q9, .ref q10, .ref q11, .ref q12, .ref q13])), (q9, .inl (ca 0, 16, .inl (fun _ => 0))), (q10, .inl (ca 0, 16, .inl (fun _ => 0))), (q11, .inl (ca 0, 16, .inl (fun _ => 5))), (q12, .inl (ca 0, 16, .inl (fun _ => (-4)))), (q13, .inl (ca 0, 16, .inl (fun _ => 0))), (q3, .inr (3, [.ref q14, .ref q15, .ref q16, .ref q17, .int 0])), (q15, .inl (ca 0, 8, .inl (fun _ => 0))), (q16, .inl (ca 0, 8, .inl (fun _ => 0))), (q17, .inl (ca 0, 8, .inl (fun _ => 0))), (q14, .inl (ca 0, 4, .inl (fun _ => 0))), (q18, .inr (1, [.ref q19, .ref q20, .ref q21, .int 0, .int 9])), (q21, .inr (7, [.ref q22, .ref q23, .ref q24, .ref q25, .int 0])), (q22, .inl (ca 0, 8, .inl (fun _ => 0))), (q23, .inl (ca 0, 8, .inl (fun _ => 0))), (q24, .inl (ca 0, 8, .inl (fun _ => 0))), (q25, .inl (ca 0, 8, .inl (fun _ => 0))), (q19, .inr (2, [.int 3, .int 3, .int 1, .int 10, .ref q26, .ref q27, .ref q28, .ref q29, .ref q30])), (q26, .inl (ca 0, 16, .inl (fun _ => 0))), (q27, .inl (ca 0, 16, .inl (fun _ => 0))), (q28, .inl (ca 0, 16, .inl (fun _ => 5))), (q29, .inl (ca 0, 16, .inl (fun _ => (-4)))), (q30, .inl (ca 0, 16, .inl (fun _ => 0))), (q20, .inr (3, [.ref q31, .ref q32, .ref q33, .ref q34, .int 0])), (q32, .inl (ca 0, 8, .inl (fun _ => 0))), (q33, .inl (ca 0, 8, .inl (fun _ => 0))), (q34, .inl (ca 0, 8, .inl (fun _ => 0))), (q31, .inl (ca 0, 4, .inl (fun _ => 0))), (q35, .inl (ca 3, 2, .inr (.inr (.inr (.inr (va_up (va_up (fun _ => none) 0 (some q69)) 1 (some q86))))))), (q36, .inl (ca 2, 2, .inl (fun _ => 0))), (q37, .inr (5, [.ref q38, .ref q39, .ref q40, .ref q41, .int 0, .int 0, .int 0])), (q38, .inr (8, [.ref q42, .int 0, .int 0, .int 0, .int 0, .int 0])), (q42, .inl (ca 1, 160, .inl (fun _ => 0))), (q39, .inr (1, [.ref q43, .ref q44, .ref q45, .int 0, .int 9])), (q45, .inr (7, [.ref q46, .ref q47, .ref q48, .ref q49, .int 0])), (q46, .inl (ca 0, 8, .inl (fun _ => 0))), (q47, .inl (ca 0, 8, .inl (fun _ => 0))), (q48, .inl (ca 0, 8, .inl (fun _ => 0))), (q49, .inl (ca 0, 8, .inl (fun _ => 0))), (q43, .inr (2, [.int 3, .int 3, .int 1, .int 10, .ref q50, .ref q51, .ref q52, .ref q53, .ref q54])), (q50, .inl (ca 0, 16, .inl (fun _ => 0))), (q51, .inl (ca 0, 16, .inl (fun _ => 0))), (q52, .inl (ca 0, 16, .inl (fun _ => 5))), (q53, .inl (ca 0, 16, .inl (fun _ => (-4)))), (q54, .inl (ca 0, 16, .inl (fun _ => 0))), (q44, .inr (3, [.ref q55, .ref q56, .ref q57, .ref q58, .int 0])), (q56, .inl (ca 0, 8, .inl (fun _ => 0))), (q57, .inl (ca 0, 8, .inl (fun _ => 0))), (q58, .inl (ca 0, 8, .inl (fun _ => 0))), (q55, .inl (ca 0, 4, .inl (fun _ => 0))), (q40, .inl (ca 0, 3, .inl (fun _ => 0))), (q41, .inl (ca 0, 10, .inl (fun _ => 0))), (q59, .inr (9, [.ref q60, .ref q61])), (q60, .inl (ca 5, 6, .inr (.inr (.inr (.inr (fun i => if i < 6 then some (r62 i) else none)))))), ((r62 0), .inl (ca 0, 16, .inl (fun _ => 0))), ((r62 1), .inl (ca 0, 16, .inl (fun _ => 0))), ((r62 2), .inl (ca 0, 16, .inl (fun _ => 0))), ((r62 3), .inl (ca 0, 16, .inl (fun _ => 0))), ((r62 4), .inl (ca 0, 16, .inl (fun _ => 0))), ((r62 5), .inl (ca 0, 16, .inl (fun _ => 0))), (q61, .inl (ca 0, 6, .inl (fun _ => 0))), (q63, .inr (4, [.ref q64, .int 0, .int 0])), (q64, .inl (ca 0, 4, .inl (fun _ => 0))), (q65, .inr (0, [.ref q66, .int 0, .ref q67, .int 0, .int 0, .int 0, .int 0, .int 0])), (q66, .inl (ca 0, 48, .inl (fun _ => 0))), (q67, .inl (ca 0, 10, .inl (fun _ => 0))), (q68, .inl (ca 4, 4, .inr (.inr (.inr (.inr (va_up (va_up (va_up (va_up (fun _ => none) 0 (some q103)) 1 (some q105)) 2 (some q107)) 3 (some q109))))))), (q69, .inr (1, [.ref q70, .ref q71, .ref q72, .int 0, .int 9])), (q72, .inr (7, [.ref q73, .ref q74, .ref q75, .ref q76, .int 0])), (q73, .inl (ca 0, 8, .inl (fun _ => 0))), (q74, .inl (ca 0, 8, .inl (fun _ => 0))), (q75, .inl (ca 0, 8, .inl (fun _ => 0))), (q76, .inl (ca 0, 8, .inl (fun _ => 0))), (q70, .inr (2, [.int 3, .int 3, .int 1, .int 10, .ref q77, .ref q78, .ref q79, .ref q80, .ref q81])), (q77, .inl (ca 0, 16, .inl (fun _ => 0))), (q78, .inl (ca 0, 16, .inl (fun _ => 0))), (q79, .inl (ca 0, 16, .inl (fun _ => 5))), (q80, .inl (ca 0, 16, .inl (fun _ => (-4)))), (q81, .inl (ca 0, 16, .inl (fun _ => 0))), (q71, .inr (3, [.ref q82, .ref q83, .ref q84, .ref q85, .int 0])), (q83, .inl (ca 0, 8, .inl (fun _ => 0))), (q84, .inl (ca 0, 8, .inl (fun _ => 0))), (q85, .inl (ca 0, 8, .inl (fun _ => 0))), (q82, .inl (ca 0, 4, .inl (fun _ => 0))), (q86, .inr (1, [.ref q87, .ref q88, .ref q89, .int 0, .int 9])), (q89, .inr (7, [.ref q90, .ref q91, .ref q92, .ref q93, .int 0])), (q90, .inl (ca 0, 8, .inl (fun _ => 0))), (q91, .inl (ca 0, 8, .inl (fun _ => 0))), (q92, .inl (ca 0, 8, .inl (fun _ => 0))), (q93, .inl (ca 0, 8, .inl (fun _ => 0))), (q87, .inr (2, [.int 3, .int 3, .int 1, .int 10, .ref q94, .ref q95, .ref q96, .ref q97, .ref q98])), (q94, .inl (ca 0, 16, .inl (fun _ => 0))), (q95, .inl (ca 0, 16, .inl (fun _ => 0))), (q96, .inl (ca 0, 16, .inl (fun _ => 5))), (q97, .inl (ca 0, 16, .inl (fun _ => (-4)))), (q98, .inl (ca 0, 16, .inl (fun _ => 0))), (q88, .inr (3, [.ref q99, .ref q100, .ref q101, .ref q102, .int 0])), (q100, .inl (ca 0, 8, .inl (fun _ => 0))), (q101, .inl (ca 0, 8, .inl (fun _ => 0))), (q102, .inl (ca 0, 8, .inl (fun _ => 0))), (q99, .inl (ca 0, 4, .inl (fun _ => 0))), (q103, .inr (6, [.ref q104, .int (-1), .int 0])), (q104, .inl (ca 0, 40, .inl (fun _ => 0))), (q105, .inr (6, [.ref q106, .int (-1), .int 0])), (q106, .inl (ca 0, 40, .inl (fun _ => 0))), (q107, .inr (6, [.ref q108, .int (-1), .int 0])), (q108, .inl (ca 0, 40, .inl (fun _ => 0))), (q109, .inr (6, [.ref q110, .int (-1), .int 0])), (q110, .inl (ca 0, 40, .inl (fun _ => 0)))] : va_W) = [(a0, .inr (10, [.ref q1, .ref q18, .ref q35, .ref q36, .ref q37, .ref q38, .ref q59, .ref q63, .ref q65, .ref q68, .int 0])), (q1, .inr (1, [.ref q2, .ref q3, .ref q4, .int 0, .int 9])), (q4, .inr (7, [.ref q5, .ref q6, .ref q7, .ref q8, .int 0])), (q5, .inl (ca 0, 8, .inl (fun _ => 0))), (q6, .inl (ca 0, 8, .inl (fun _ => 0))), (q7, .inl (ca 0, 8, .inl (fun _ => 0))), (q8, .inl (ca 0, 8, .inl (fun _ => 0))), (q2, .inr (2, [.int 3, .int 3, .int 1, .int 10, .ref q9, .ref q10, .ref q11, .ref q12, .ref q13])), (q9, .inl (ca 0, 16, .inl (fun _ => 0))), (q10, .inl (ca 0, 16, .inl (fun _ => 0))), (q11, .inl (ca 0, 16, .inl (fun _ => 5))), (q12, .inl (ca 0, 16, .inl (fun _ => (-4)))), (q13, .inl (ca 0, 16, .inl (fun _ => 0))), (q3, .inr (3, [.ref q14, .ref q15, .ref q16, .ref q17, .int 0])), (q15, .inl (ca 0, 8, .inl (fun _ => 0))), (q16, .inl (ca 0, 8, .inl (fun _ => 0))), (q17, .inl (ca 0, 8, .inl (fun _ => 0))), (q14, .inl (ca 0, 4, .inl (fun _ => 0))), (q18, .inr (1, [.ref q19, .ref q20, .ref q21, .int 0, .int 9])), (q21, .inr (7, [.ref q22, .ref q23, .ref q24, .ref q25, .int 0])), (q22, .inl (ca 0, 8, .inl (fun _ => 0))), (q23, .inl (ca 0, 8, .inl (fun _ => 0))), (q24, .inl (ca 0, 8, .inl (fun _ => 0))), (q25, .inl (ca 0, 8, .inl (fun _ => 0))), (q19, .inr (2, [.int 3, .int 3, .int 1, .int 10, .ref q26, .ref q27, .ref q28, .ref q29, .ref q30])), (q26, .inl (ca 0, 16, .inl (fun _ => 0))), (q27, .inl (ca 0, 16, .inl (fun _ => 0))), (q28, .inl (ca 0, 16, .inl (fun _ => 5))), (q29, .inl (ca 0, 16, .inl (fun _ => (-4)))), (q30, .inl (ca 0, 16, .inl (fun _ => 0))), (q20, .inr (3, [.ref q31, .ref q32, .ref q33, .ref q34, .int 0])), (q32, .inl (ca 0, 8, .inl (fun _ => 0))), (q33, .inl (ca 0, 8, .inl (fun _ => 0))), (q34, .inl (ca 0, 8, .inl (fun _ => 0))), (q31, .inl (ca 0, 4, .inl (fun _ => 0))), (q35, .inl (ca 3, 2, .inr (.inr (.inr (.inr (fun j => (([34, 51] : List Nat)[j]?).map (adOf [q1, q2, q9, q10, q11, q12, q13, q3, q14, q15, q16, q17, q4, q5, q6, q7, q8, q18, q19, q26, q27, q28, q29, q30, q20, q31, q32, q33, q34, q21, q22, q23, q24, q25, q69, q70, q77, q78, q79, q80, q81, q71, q82, q83, q84, q85, q72, q73, q74, q75, q76, q86, q87, q94, q95, q96, q97, q98, q88, q99, q100, q101, q102, q89, q90, q91, q92, q93, q39, q43, q50, q51, q52, q53, q54, q44, q55, q56, q57, q58, q45, q46, q47, q48, q49, a0, q35, q36, q37, q38, q42, q40, q41, q59, q60, (r62 0), (r62 1), (r62 2), (r62 3), (r62 4), (r62 5), q61, q63, q64, q65, q66, q67, q68, q103, q104, q105, q106, q107, q108, q109, q110, m0, n1, n2, n3, n4, n5, n6, n7, n8, n9, n10, n11, n12, n13, n14, n15] ro b))))))), (q36, .inl (ca 2, 2, .inl (fun _ => 0))), (q37, .inr (5, [.ref q38, .ref q39, .ref q40, .ref q41, .int 0, .int 0, .int 0])), (q38, .inr (8, [.ref q42, .int 0, .int 0, .int 0, .int 0, .int 0])), (q42, .inl (ca 1, 160, .inl (fun _ => 0))), (q39, .inr (1, [.ref q43, .ref q44, .ref q45, .int 0, .int 9])), (q45, .inr (7, [.ref q46, .ref q47, .ref q48, .ref q49, .int 0])), (q46, .inl (ca 0, 8, .inl (fun _ => 0))), (q47, .inl (ca 0, 8, .inl (fun _ => 0))), (q48, .inl (ca 0, 8, .inl (fun _ => 0))), (q49, .inl (ca 0, 8, .inl (fun _ => 0))), (q43, .inr (2, [.int 3, .int 3, .int 1, .int 10, .ref q50, .ref q51, .ref q52, .ref q53, .ref q54])), (q50, .inl (ca 0, 16, .inl (fun _ => 0))), (q51, .inl (ca 0, 16, .inl (fun _ => 0))), (q52, .inl (ca 0, 16, .inl (fun _ => 5))), (q53, .inl (ca 0, 16, .inl (fun _ => (-4)))), (q54, .inl (ca 0, 16, .inl (fun _ => 0))), (q44, .inr (3, [.ref q55, .ref q56, .ref q57, .ref q58, .int 0])), (q56, .inl (ca 0, 8, .inl (fun _ => 0))), (q57, .inl (ca 0, 8, .inl (fun _ => 0))), (q58, .inl (ca 0, 8, .inl (fun _ => 0))), (q55, .inl (ca 0, 4, .inl (fun _ => 0))), (q40, .inl (ca 0, 3, .inl (fun _ => 0))), (q41, .inl (ca 0, 10, .inl (fun _ => 0))), (q59, .inr (9, [.ref q60, .ref q61])), (q60, .inl (ca 5, 6, .inr (.inr (.inr (.inr (fun j => (([95, 96, 97, 98, 99, 100] : List Nat)[j]?).map (adOf [q1, q2, q9, q10, q11, q12, q13, q3, q14, q15, q16, q17, q4, q5, q6, q7, q8, q18, q19, q26, q27, q28, q29, q30, q20, q31, q32, q33, q34, q21, q22, q23, q24, q25, q69, q70, q77, q78, q79, q80, q81, q71, q82, q83, q84, q85, q72, q73, q74, q75, q76, q86, q87, q94, q95, q96, q97, q98, q88, q99, q100, q101, q102, q89, q90, q91, q92, q93, q39, q43, q50, q51, q52, q53, q54, q44, q55, q56, q57, q58, q45, q46, q47, q48, q49, a0, q35, q36, q37, q38, q42, q40, q41, q59, q60, (r62 0), (r62 1), (r62 2), (r62 3), (r62 4), (r62 5), q61, q63, q64, q65, q66, q67, q68, q103, q104, q105, q106, q107, q108, q109, q110, m0, n1, n2, n3, n4, n5, n6, n7, n8, n9, n10, n11, n12, n13, n14, n15] ro b))))))), ((r62 0), .inl (ca 0, 16, .inl (fun _ => 0))), ((r62 1), .inl (ca 0, 16, .inl (fun _ => 0))), ((r62 2), .inl (ca 0, 16, .inl (fun _ => 0))), ((r62 3), .inl (ca 0, 16, .inl (fun _ => 0))), ((r62 4), .inl (ca 0, 16, .inl (fun _ => 0))), ((r62 5), .inl (ca 0, 16, .inl (fun _ => 0))), (q61, .inl (ca 0, 6, .inl (fun _ => 0))), (q63, .inr (4, [.ref q64, .int 0, .int 0])), (q64, .inl (ca 0, 4, .inl (fun _ => 0))), (q65, .inr (0, [.ref q66, .int 0, .ref q67, .int 0, .int 0, .int 0, .int 0, .int 0])), (q66, .inl (ca 0, 48, .inl (fun _ => 0))), (q67, .inl (ca 0, 10, .inl (fun _ => 0))), (q68, .inl (ca 4, 4, .inr (.inr (.inr (.inr (fun j => (([108, 110, 112, 114] : List Nat)[j]?).map (adOf [q1, q2, q9, q10, q11, q12, q13, q3, q14, q15, q16, q17, q4, q5, q6, q7, q8, q18, q19, q26, q27, q28, q29, q30, q20, q31, q32, q33, q34, q21, q22, q23, q24, q25, q69, q70, q77, q78, q79, q80, q81, q71, q82, q83, q84, q85, q72, q73, q74, q75, q76, q86, q87, q94, q95, q96, q97, q98, q88, q99, q100, q101, q102, q89, q90, q91, q92, q93, q39, q43, q50, q51, q52, q53, q54, q44, q55, q56, q57, q58, q45, q46, q47, q48, q49, a0, q35, q36, q37, q38, q42, q40, q41, q59, q60, (r62 0), (r62 1), (r62 2), (r62 3), (r62 4), (r62 5), q61, q63, q64, q65, q66, q67, q68, q103, q104, q105, q106, q107, q108, q109, q110, m0, n1, n2, n3, n4, n5, n6, n7, n8, n9, n10, n11, n12, n13, n14, n15] ro b))))))), (q69, .inr (1, [.ref q70, .ref q71, .ref q72, .int 0, .int 9])), (q72, .inr (7, [.ref q73, .ref q74, .ref q75, .ref q76, .int 0])), (q73, .inl (ca 0, 8, .inl (fun _ => 0))), (q74, .inl (ca 0, 8, .inl (fun _ => 0))), (q75, .inl (ca 0, 8, .inl (fun _ => 0))), (q76, .inl (ca 0, 8, .inl (fun _ => 0))), (q70, .inr (2, [.int 3, .int 3, .int 1, .int 10, .ref q77, .ref q78, .ref q79, .ref q80, .ref q81])), (q77, .inl (ca 0, 16, .inl (fun _ => 0))), (q78, .inl (ca 0, 16, .inl (fun _ => 0))), (q79, .inl (ca 0, 16, .inl (fun _ => 5))), (q80, .inl (ca 0, 16, .inl (fun _ => (-4)))), (q81, .inl (ca 0, 16, .inl (fun _ => 0))), (q71, .inr (3, [.ref q82, .ref q83, .ref q84, .ref q85, .int 0])), (q83, .inl (ca 0, 8, .inl (fun _ => 0))), (q84, .inl (ca 0, 8, .inl (fun _ => 0))), (q85, .inl (ca 0, 8, .inl (fun _ => 0))), (q82, .inl (ca 0, 4, .inl (fun _ => 0))), (q86, .inr (1, [.ref q87, .ref q88, .ref q89, .int 0, .int 9])), (q89, .inr (7, [.ref q90, .ref q91, .ref q92, .ref q93, .int 0])), (q90, .inl (ca 0, 8, .inl (fun _ => 0))), (q91, .inl (ca 0, 8, .inl (fun _ => 0))), (q92, .inl (ca 0, 8, .inl (fun _ => 0))), (q93, .inl (ca 0, 8, .inl (fun _ => 0))), (q87, .inr (2, [.int 3, .int 3, .int 1, .int 10, .ref q94, .ref q95, .ref q96, .ref q97, .ref q98])), (q94, .inl (ca 0, 16, .inl (fun _ => 0))), (q95, .inl (ca 0, 16, .inl (fun _ => 0))), (q96, .inl (ca 0, 16, .inl (fun _ => 5))), (q97, .inl (ca 0, 16, .inl (fun _ => (-4)))), (q98, .inl (ca 0, 16, .inl (fun _ => 0))), (q88, .inr (3, [.ref q99, .ref q100, .ref q101, .ref q102, .int 0])), (q100, .inl (ca 0, 8, .inl (fun _ => 0))), (q101, .inl (ca 0, 8, .inl (fun _ => 0))), (q102, .inl (ca 0, 8, .inl (fun _ => 0))), (q99, .inl (ca 0, 4, .inl (fun _ => 0))), (q103, .inr (6, [.ref q104, .int (-1), .int 0])), (q104, .inl (ca 0, 40, .inl (fun _ => 0))), (q105, .inr (6, [.ref q106, .int (-1), .int 0])), (q106, .inl (ca 0, 40, .inl (fun _ => 0))), (q107, .inr (6, [.ref q108, .int (-1), .int 0])), (q108, .inl (ca 0, 40, .inl (fun _ => 0))), (q109, .inr (6, [.ref q110, .int (-1), .int 0])), (q110, .inl (ca 0, 40, .inl (fun _ => 0)))] := by
  rw [show (va_up (va_up (fun _ => none) 0 (some q69)) 1 (some q86)) = (fun j => (([34, 51] : List Nat)[j]?).map (adOf [q1, q2, q9, q10, q11, q12, q13, q3, q14, q15, q16, q17, q4, q5, q6, q7, q8, q18, q19, q26, q27, q28, q29, q30, q20, q31, q32, q33, q34, q21, q22, q23, q24, q25, q69, q70, q77, q78, q79, q80, q81, q71, q82, q83, q84, q85, q72, q73, q74, q75, q76, q86, q87, q94, q95, q96, q97, q98, q88, q99, q100, q101, q102, q89, q90, q91, q92, q93, q39, q43, q50, q51, q52, q53, q54, q44, q55, q56, q57, q58, q45, q46, q47, q48, q49, a0, q35, q36, q37, q38, q42, q40, q41, q59, q60, (r62 0), (r62 1), (r62 2), (r62 3), (r62 4), (r62 5), q61, q63, q64, q65, q66, q67, q68, q103, q104, q105, q106, q107, q108, q109, q110, m0, n1, n2, n3, n4, n5, n6, n7, n8, n9, n10, n11, n12, n13, n14, n15] ro b)) from fx2 (adOf [q1, q2, q9, q10, q11, q12, q13, q3, q14, q15, q16, q17, q4, q5, q6, q7, q8, q18, q19, q26, q27, q28, q29, q30, q20, q31, q32, q33, q34, q21, q22, q23, q24, q25, q69, q70, q77, q78, q79, q80, q81, q71, q82, q83, q84, q85, q72, q73, q74, q75, q76, q86, q87, q94, q95, q96, q97, q98, q88, q99, q100, q101, q102, q89, q90, q91, q92, q93, q39, q43, q50, q51, q52, q53, q54, q44, q55, q56, q57, q58, q45, q46, q47, q48, q49, a0, q35, q36, q37, q38, q42, q40, q41, q59, q60, (r62 0), (r62 1), (r62 2), (r62 3), (r62 4), (r62 5), q61, q63, q64, q65, q66, q67, q68, q103, q104, q105, q106, q107, q108, q109, q110, m0, n1, n2, n3, n4, n5, n6, n7, n8, n9, n10, n11, n12, n13, n14, n15] ro b) 34 51, show (va_up (va_up (va_up (va_up (fun _ => none) 0 (some q103)) 1 (some q105)) 2 (some q107)) 3 (some q109)) = (fun j => (([108, 110, 112, 114] : List Nat)[j]?).map (adOf [q1, q2, q9, q10, q11, q12, q13, q3, q14, q15, q16, q17, q4, q5, q6, q7, q8, q18, q19, q26, q27, q28, q29, q30, q20, q31, q32, q33, q34, q21, q22, q23, q24, q25, q69, q70, q77, q78, q79, q80, q81, q71, q82, q83, q84, q85, q72, q73, q74, q75, q76, q86, q87, q94, q95, q96, q97, q98, q88, q99, q100, q101, q102, q89, q90, q91, q92, q93, q39, q43, q50, q51, q52, q53, q54, q44, q55, q56, q57, q58, q45, q46, q47, q48, q49, a0, q35, q36, q37, q38, q42, q40, q41, q59, q60, (r62 0), (r62 1), (r62 2), (r62 3), (r62 4), (r62 5), q61, q63, q64, q65, q66, q67, q68, q103, q104, q105, q106, q107, q108, q109, q110, m0, n1, n2, n3, n4, n5, n6, n7, n8, n9, n10, n11, n12, n13, n14, n15] ro b)) from fx4 (adOf [q1, q2, q9, q10, q11, q12, q13, q3, q14, q15, q16, q17, q4, q5, q6, q7, q8, q18, q19, q26, q27, q28, q29, q30, q20, q31, q32, q33, q34, q21, q22, q23, q24, q25, q69, q70, q77, q78, q79, q80, q81, q71, q82, q83, q84, q85, q72, q73, q74, q75, q76, q86, q87, q94, q95, q96, q97, q98, q88, q99, q100, q101, q102, q89, q90, q91, q92, q93, q39, q43, q50, q51, q52, q53, q54, q44, q55, q56, q57, q58, q45, q46, q47, q48, q49, a0, q35, q36, q37, q38, q42, q40, q41, q59, q60, (r62 0), (r62 1), (r62 2), (r62 3), (r62 4), (r62 5), q61, q63, q64, q65, q66, q67, q68, q103, q104, q105, q106, q107, q108, q109, q110, m0, n1, n2, n3, n4, n5, n6, n7, n8, n9, n10, n11, n12, n13, n14, n15] ro b) 108 110 112 114, show (fun i => if i < 6 then some (r62 i) else none) = (fun j => (([95, 96, 97, 98, 99, 100] : List Nat)[j]?).map (adOf [q1, q2, q9, q10, q11, q12, q13, q3, q14, q15, q16, q17, q4, q5, q6, q7, q8, q18, q19, q26, q27, q28, q29, q30, q20, q31, q32, q33, q34, q21, q22, q23, q24, q25, q69, q70, q77, q78, q79, q80, q81, q71, q82, q83, q84, q85, q72, q73, q74, q75, q76, q86, q87, q94, q95, q96, q97, q98, q88, q99, q100, q101, q102, q89, q90, q91, q92, q93, q39, q43, q50, q51, q52, q53, q54, q44, q55, q56, q57, q58, q45, q46, q47, q48, q49, a0, q35, q36, q37, q38, q42, q40, q41, q59, q60, (r62 0), (r62 1), (r62 2), (r62 3), (r62 4), (r62 5), q61, q63, q64, q65, q66, q67, q68, q103, q104, q105, q106, q107, q108, q109, q110, m0, n1, n2, n3, n4, n5, n6, n7, n8, n9, n10, n11, n12, n13, n14, n15] ro b)) from fx6 (adOf [q1, q2, q9, q10, q11, q12, q13, q3, q14, q15, q16, q17, q4, q5, q6, q7, q8, q18, q19, q26, q27, q28, q29, q30, q20, q31, q32, q33, q34, q21, q22, q23, q24, q25, q69, q70, q77, q78, q79, q80, q81, q71, q82, q83, q84, q85, q72, q73, q74, q75, q76, q86, q87, q94, q95, q96, q97, q98, q88, q99, q100, q101, q102, q89, q90, q91, q92, q93, q39, q43, q50, q51, q52, q53, q54, q44, q55, q56, q57, q58, q45, q46, q47, q48, q49, a0, q35, q36, q37, q38, q42, q40, q41, q59, q60, (r62 0), (r62 1), (r62 2), (r62 3), (r62 4), (r62 5), q61, q63, q64, q65, q66, q67, q68, q103, q104, q105, q106, q107, q108, q109, q110, m0, n1, n2, n3, n4, n5, n6, n7, n8, n9, n10, n11, n12, n13, n14, n15] ro b) r62 rfl rfl rfl rfl rfl rfl]
def WD (ca : Nat → ClassId) (v : Nat → Nat) : va_W := [(v 85, .inr (10, [.ref (v 0), .ref (v 17), .ref (v 86), .ref (v 87), .ref (v 88), .ref (v 89), .ref (v 93), .ref (v 102), .ref (v 104), .ref (v 107), .int 0])), (v 0, .inr (1, [.ref (v 1), .ref (v 7), .ref (v 12), .int 0, .int 9])), (v 12, .inr (7, [.ref (v 13), .ref (v 14), .ref (v 15), .ref (v 16), .int 0])), (v 13, .inl (ca 0, 8, .inl (fun _ => 0))), (v 14, .inl (ca 0, 8, .inl (fun _ => 0))), (v 15, .inl (ca 0, 8, .inl (fun _ => 0))), (v 16, .inl (ca 0, 8, .inl (fun _ => 0))), (v 1, .inr (2, [.int 3, .int 3, .int 1, .int 10, .ref (v 2), .ref (v 3), .ref (v 4), .ref (v 5), .ref (v 6)])), (v 2, .inl (ca 0, 16, .inl (fun _ => 0))), (v 3, .inl (ca 0, 16, .inl (fun _ => 0))), (v 4, .inl (ca 0, 16, .inl (fun _ => 5))), (v 5, .inl (ca 0, 16, .inl (fun _ => (-4)))), (v 6, .inl (ca 0, 16, .inl (fun _ => 0))), (v 7, .inr (3, [.ref (v 8), .ref (v 9), .ref (v 10), .ref (v 11), .int 0])), (v 9, .inl (ca 0, 8, .inl (fun _ => 0))), (v 10, .inl (ca 0, 8, .inl (fun _ => 0))), (v 11, .inl (ca 0, 8, .inl (fun _ => 0))), (v 8, .inl (ca 0, 4, .inl (fun _ => 0))), (v 17, .inr (1, [.ref (v 18), .ref (v 24), .ref (v 29), .int 0, .int 9])), (v 29, .inr (7, [.ref (v 30), .ref (v 31), .ref (v 32), .ref (v 33), .int 0])), (v 30, .inl (ca 0, 8, .inl (fun _ => 0))), (v 31, .inl (ca 0, 8, .inl (fun _ => 0))), (v 32, .inl (ca 0, 8, .inl (fun _ => 0))), (v 33, .inl (ca 0, 8, .inl (fun _ => 0))), (v 18, .inr (2, [.int 3, .int 3, .int 1, .int 10, .ref (v 19), .ref (v 20), .ref (v 21), .ref (v 22), .ref (v 23)])), (v 19, .inl (ca 0, 16, .inl (fun _ => 0))), (v 20, .inl (ca 0, 16, .inl (fun _ => 0))), (v 21, .inl (ca 0, 16, .inl (fun _ => 5))), (v 22, .inl (ca 0, 16, .inl (fun _ => (-4)))), (v 23, .inl (ca 0, 16, .inl (fun _ => 0))), (v 24, .inr (3, [.ref (v 25), .ref (v 26), .ref (v 27), .ref (v 28), .int 0])), (v 26, .inl (ca 0, 8, .inl (fun _ => 0))), (v 27, .inl (ca 0, 8, .inl (fun _ => 0))), (v 28, .inl (ca 0, 8, .inl (fun _ => 0))), (v 25, .inl (ca 0, 4, .inl (fun _ => 0))), (v 86, .inl (ca 3, 2, .inr (.inr (.inr (.inr (fun j => (([34, 51] : List Nat)[j]?).map v)))))), (v 87, .inl (ca 2, 2, .inl (fun _ => 0))), (v 88, .inr (5, [.ref (v 89), .ref (v 68), .ref (v 91), .ref (v 92), .int 0, .int 0, .int 0])), (v 89, .inr (8, [.ref (v 90), .int 0, .int 0, .int 0, .int 0, .int 0])), (v 90, .inl (ca 1, 160, .inl (fun _ => 0))), (v 68, .inr (1, [.ref (v 69), .ref (v 75), .ref (v 80), .int 0, .int 9])), (v 80, .inr (7, [.ref (v 81), .ref (v 82), .ref (v 83), .ref (v 84), .int 0])), (v 81, .inl (ca 0, 8, .inl (fun _ => 0))), (v 82, .inl (ca 0, 8, .inl (fun _ => 0))), (v 83, .inl (ca 0, 8, .inl (fun _ => 0))), (v 84, .inl (ca 0, 8, .inl (fun _ => 0))), (v 69, .inr (2, [.int 3, .int 3, .int 1, .int 10, .ref (v 70), .ref (v 71), .ref (v 72), .ref (v 73), .ref (v 74)])), (v 70, .inl (ca 0, 16, .inl (fun _ => 0))), (v 71, .inl (ca 0, 16, .inl (fun _ => 0))), (v 72, .inl (ca 0, 16, .inl (fun _ => 5))), (v 73, .inl (ca 0, 16, .inl (fun _ => (-4)))), (v 74, .inl (ca 0, 16, .inl (fun _ => 0))), (v 75, .inr (3, [.ref (v 76), .ref (v 77), .ref (v 78), .ref (v 79), .int 0])), (v 77, .inl (ca 0, 8, .inl (fun _ => 0))), (v 78, .inl (ca 0, 8, .inl (fun _ => 0))), (v 79, .inl (ca 0, 8, .inl (fun _ => 0))), (v 76, .inl (ca 0, 4, .inl (fun _ => 0))), (v 91, .inl (ca 0, 3, .inl (fun _ => 0))), (v 92, .inl (ca 0, 10, .inl (fun _ => 0))), (v 93, .inr (9, [.ref (v 94), .ref (v 101)])), (v 94, .inl (ca 5, 6, .inr (.inr (.inr (.inr (fun j => (([95, 96, 97, 98, 99, 100] : List Nat)[j]?).map v)))))), (v 95, .inl (ca 0, 16, .inl (fun _ => 0))), (v 96, .inl (ca 0, 16, .inl (fun _ => 0))), (v 97, .inl (ca 0, 16, .inl (fun _ => 0))), (v 98, .inl (ca 0, 16, .inl (fun _ => 0))), (v 99, .inl (ca 0, 16, .inl (fun _ => 0))), (v 100, .inl (ca 0, 16, .inl (fun _ => 0))), (v 101, .inl (ca 0, 6, .inl (fun _ => 0))), (v 102, .inr (4, [.ref (v 103), .int 0, .int 0])), (v 103, .inl (ca 0, 4, .inl (fun _ => 0))), (v 104, .inr (0, [.ref (v 105), .int 0, .ref (v 106), .int 0, .int 0, .int 0, .int 0, .int 0])), (v 105, .inl (ca 0, 48, .inl (fun _ => 0))), (v 106, .inl (ca 0, 10, .inl (fun _ => 0))), (v 107, .inl (ca 4, 4, .inr (.inr (.inr (.inr (fun j => (([108, 110, 112, 114] : List Nat)[j]?).map v)))))), (v 34, .inr (1, [.ref (v 35), .ref (v 41), .ref (v 46), .int 0, .int 9])), (v 46, .inr (7, [.ref (v 47), .ref (v 48), .ref (v 49), .ref (v 50), .int 0])), (v 47, .inl (ca 0, 8, .inl (fun _ => 0))), (v 48, .inl (ca 0, 8, .inl (fun _ => 0))), (v 49, .inl (ca 0, 8, .inl (fun _ => 0))), (v 50, .inl (ca 0, 8, .inl (fun _ => 0))), (v 35, .inr (2, [.int 3, .int 3, .int 1, .int 10, .ref (v 36), .ref (v 37), .ref (v 38), .ref (v 39), .ref (v 40)])), (v 36, .inl (ca 0, 16, .inl (fun _ => 0))), (v 37, .inl (ca 0, 16, .inl (fun _ => 0))), (v 38, .inl (ca 0, 16, .inl (fun _ => 5))), (v 39, .inl (ca 0, 16, .inl (fun _ => (-4)))), (v 40, .inl (ca 0, 16, .inl (fun _ => 0))), (v 41, .inr (3, [.ref (v 42), .ref (v 43), .ref (v 44), .ref (v 45), .int 0])), (v 43, .inl (ca 0, 8, .inl (fun _ => 0))), (v 44, .inl (ca 0, 8, .inl (fun _ => 0))), (v 45, .inl (ca 0, 8, .inl (fun _ => 0))), (v 42, .inl (ca 0, 4, .inl (fun _ => 0))), (v 51, .inr (1, [.ref (v 52), .ref (v 58), .ref (v 63), .int 0, .int 9])), (v 63, .inr (7, [.ref (v 64), .ref (v 65), .ref (v 66), .ref (v 67), .int 0])), (v 64, .inl (ca 0, 8, .inl (fun _ => 0))), (v 65, .inl (ca 0, 8, .inl (fun _ => 0))), (v 66, .inl (ca 0, 8, .inl (fun _ => 0))), (v 67, .inl (ca 0, 8, .inl (fun _ => 0))), (v 52, .inr (2, [.int 3, .int 3, .int 1, .int 10, .ref (v 53), .ref (v 54), .ref (v 55), .ref (v 56), .ref (v 57)])), (v 53, .inl (ca 0, 16, .inl (fun _ => 0))), (v 54, .inl (ca 0, 16, .inl (fun _ => 0))), (v 55, .inl (ca 0, 16, .inl (fun _ => 5))), (v 56, .inl (ca 0, 16, .inl (fun _ => (-4)))), (v 57, .inl (ca 0, 16, .inl (fun _ => 0))), (v 58, .inr (3, [.ref (v 59), .ref (v 60), .ref (v 61), .ref (v 62), .int 0])), (v 60, .inl (ca 0, 8, .inl (fun _ => 0))), (v 61, .inl (ca 0, 8, .inl (fun _ => 0))), (v 62, .inl (ca 0, 8, .inl (fun _ => 0))), (v 59, .inl (ca 0, 4, .inl (fun _ => 0))), (v 108, .inr (6, [.ref (v 109), .int (-1), .int 0])), (v 109, .inl (ca 0, 40, .inl (fun _ => 0))), (v 110, .inr (6, [.ref (v 111), .int (-1), .int 0])), (v 111, .inl (ca 0, 40, .inl (fun _ => 0))), (v 112, .inr (6, [.ref (v 113), .int (-1), .int 0])), (v 113, .inl (ca 0, 40, .inl (fun _ => 0))), (v 114, .inr (6, [.ref (v 115), .int (-1), .int 0])), (v 115, .inl (ca 0, 40, .inl (fun _ => 0))), (v 116, .inr (11, [.ref (v 117), .ref (v 118), .int 3, .int 3, .int 1, .int 10, .ref (v 119), .int 3, .int 3, .int 1, .int 10, .int 0, .ref (v 120), .int (-4), .ref (v 121), .int 0, .int 0, .int 0, .int 0, .int 0, .int 0, .int 0, .ref (v 122), .ref (v 123), .ref (v 124), .int 0, .long 0, .ref (v 125), .int 0, .ref (v 126), .int 0, .ref (v 127), .ref (v 128), .ref (v 129), .ref (v 130), .int 0, .ref (v 131)])), (v 117, .inl (ca 0, 432, .inl (fun i => if i < 144 then dr0 i else 0))), (v 118, .inl (ca 2, 2, .inl (fun _ => 0))), (v 119, .inl (ca 0, 144, .inl dr0)), (v 120, .inl (ca 0, 6, .inl (fun _ => 0))), (v 121, .inl (ca 0, 160, .inl (fun _ => 0))), (v 122, .inl (ca 0, 128, .inl (fun _ => 0))), (v 123, .inl (ca 0, 4, .inl (fun _ => 0))), (v 124, .inl (ca 0, 4, .inl (fun _ => 0))), (v 125, .inl (ca 0, 48, .inl (fun _ => 0))), (v 126, .inl (ca 0, 4, .inl (fun _ => 0))), (v 127, .inl (ca 0, 16, .inl (fun _ => 0))), (v 128, .inl (ca 0, 4, .inl (fun _ => -4))), (v 129, .inl (ca 0, 4, .inl (fun _ => 0))), (v 130, .inl (ca 0, 160, .inl (fun _ => 0))), (v 131, .inl (ca 0, 20, .inl (fun _ => 0)))]
def st_pm : List Nat := [1, 7, 8, 9, 10, 11, 12, 13, 17, 14, 15, 16, 2, 3, 4, 5, 6, 18, 24, 25, 26, 27, 28, 29, 30, 34, 31, 32, 33, 19, 20, 21, 22, 23, 74, 80, 81, 82, 83, 84, 85, 86, 90, 87, 88, 89, 75, 76, 77, 78, 79, 91, 97, 98, 99, 100, 101, 102, 103, 107, 104, 105, 106, 92, 93, 94, 95, 96, 40, 46, 47, 48, 49, 50, 51, 52, 56, 53, 54, 55, 41, 42, 43, 44, 45, 0, 35, 36, 37, 38, 39, 57, 58, 59, 60, 61, 62, 63, 64, 65, 66, 67, 68, 69, 70, 71, 72, 73, 108, 109, 110, 111, 112, 113, 114, 115, 116, 117, 118, 119, 120, 121, 122, 123, 124, 125, 126, 127, 128, 129, 130, 131]
def st_iv : List Nat := [85, 0, 12, 13, 14, 15, 16, 1, 2, 3, 4, 5, 6, 7, 9, 10, 11, 8, 17, 29, 30, 31, 32, 33, 18, 19, 20, 21, 22, 23, 24, 26, 27, 28, 25, 86, 87, 88, 89, 90, 68, 80, 81, 82, 83, 84, 69, 70, 71, 72, 73, 74, 75, 77, 78, 79, 76, 91, 92, 93, 94, 95, 96, 97, 98, 99, 100, 101, 102, 103, 104, 105, 106, 107, 34, 46, 47, 48, 49, 50, 35, 36, 37, 38, 39, 40, 41, 43, 44, 45, 42, 51, 63, 64, 65, 66, 67, 52, 53, 54, 55, 56, 57, 58, 60, 61, 62, 59, 108, 109, 110, 111, 112, 113, 114, 115, 116, 117, 118, 119, 120, 121, 122, 123, 124, 125, 126, 127, 128, 129, 130, 131]
theorem st_vi : ∀ i, i < 132 → st_iv.getD (st_pm.getD i 0) 0 = i := by decide +kernel
theorem st_nd : ∀ i, i < 132 → ∀ j, j < 132 → st_pm.getD i 0 = st_pm.getD j 0 → i = j := fun i hi j hj e => (st_vi i hi).symm.trans ((congrArg (fun x => st_iv.getD x 0) e).trans (st_vi j hj))
def mI (f : Nat → Sl → Value) : Nat → List Sl → List Value
  | _, [] => []
  | n, s :: ss => f n s :: mI f (n + 1) ss
theorem mI_eq (ss : List Sl) : ∀ (f : Nat → Sl → Value) (n : Nat), ss.mapIdx (fun i => f (n + i)) = mI f n ss := by
  induction ss with
  | nil => intro f n; rfl
  | cons s ss ih =>
    intro f n
    rw [List.mapIdx_cons]
    show f (n + 0) s :: _ = f n s :: mI f (n + 1) ss
    rw [← ih f (n + 1)]
    congr 1
    congr 1
    funext i
    rw [show n + (i + 1) = n + 1 + i by (first | decide +kernel | with_reducible assumption | omega)]
theorem mI_0 (ss : List Sl) (f : Nat → Sl → Value) : ss.mapIdx f = mI f 0 ss := by
  rw [← mI_eq ss f 0]
  congr 1
  funext i
  rw [Nat.zero_add]
theorem wk_0 (D : va_G) (ca : Nat → ClassId) (v : Nat → Nat) : (WD ca v)[1]? = (vv_sk[0]?).map (fun q => (v 0, clE (D, v, ca) h0 0 q)) := by
  rw [sk_0]
  rfl
theorem wk_1 (D : va_G) (ca : Nat → ClassId) (v : Nat → Nat) : (WD ca v)[7]? = (vv_sk[1]?).map (fun q => (v 1, clE (D, v, ca) h0 1 q)) := by
  rw [sk_1]
  rfl
theorem wk_2 (D : va_G) (ca : Nat → ClassId) (v : Nat → Nat) : (WD ca v)[8]? = (vv_sk[2]?).map (fun q => (v 2, clE (D, v, ca) h0 2 q)) := by
  rw [sk_2]
  rfl
theorem wk_3 (D : va_G) (ca : Nat → ClassId) (v : Nat → Nat) : (WD ca v)[9]? = (vv_sk[3]?).map (fun q => (v 3, clE (D, v, ca) h0 3 q)) := by
  rw [sk_3]
  rfl
theorem wk_4 (D : va_G) (ca : Nat → ClassId) (v : Nat → Nat) : (WD ca v)[10]? = (vv_sk[4]?).map (fun q => (v 4, clE (D, v, ca) h0 4 q)) := by
  rw [sk_4]
  rfl
theorem wk_5 (D : va_G) (ca : Nat → ClassId) (v : Nat → Nat) : (WD ca v)[11]? = (vv_sk[5]?).map (fun q => (v 5, clE (D, v, ca) h0 5 q)) := by
  rw [sk_5]
  rfl
theorem wk_6 (D : va_G) (ca : Nat → ClassId) (v : Nat → Nat) : (WD ca v)[12]? = (vv_sk[6]?).map (fun q => (v 6, clE (D, v, ca) h0 6 q)) := by
  rw [sk_6]
  rfl
theorem wk_7 (D : va_G) (ca : Nat → ClassId) (v : Nat → Nat) : (WD ca v)[13]? = (vv_sk[7]?).map (fun q => (v 7, clE (D, v, ca) h0 7 q)) := by
  rw [sk_7]
  rfl
theorem wk_8 (D : va_G) (ca : Nat → ClassId) (v : Nat → Nat) : (WD ca v)[17]? = (vv_sk[8]?).map (fun q => (v 8, clE (D, v, ca) h0 8 q)) := by
  rw [sk_8]
  rfl
theorem wk_9 (D : va_G) (ca : Nat → ClassId) (v : Nat → Nat) : (WD ca v)[14]? = (vv_sk[9]?).map (fun q => (v 9, clE (D, v, ca) h0 9 q)) := by
  rw [sk_9]
  rfl
theorem wk_10 (D : va_G) (ca : Nat → ClassId) (v : Nat → Nat) : (WD ca v)[15]? = (vv_sk[10]?).map (fun q => (v 10, clE (D, v, ca) h0 10 q)) := by
  rw [sk_10]
  rfl
theorem wk_11 (D : va_G) (ca : Nat → ClassId) (v : Nat → Nat) : (WD ca v)[16]? = (vv_sk[11]?).map (fun q => (v 11, clE (D, v, ca) h0 11 q)) := by
  rw [sk_11]
  rfl
theorem wk_12 (D : va_G) (ca : Nat → ClassId) (v : Nat → Nat) : (WD ca v)[2]? = (vv_sk[12]?).map (fun q => (v 12, clE (D, v, ca) h0 12 q)) := by
  rw [sk_12]
  rfl
theorem wk_13 (D : va_G) (ca : Nat → ClassId) (v : Nat → Nat) : (WD ca v)[3]? = (vv_sk[13]?).map (fun q => (v 13, clE (D, v, ca) h0 13 q)) := by
  rw [sk_13]
  rfl
theorem wk_14 (D : va_G) (ca : Nat → ClassId) (v : Nat → Nat) : (WD ca v)[4]? = (vv_sk[14]?).map (fun q => (v 14, clE (D, v, ca) h0 14 q)) := by
  rw [sk_14]
  rfl
theorem wk_15 (D : va_G) (ca : Nat → ClassId) (v : Nat → Nat) : (WD ca v)[5]? = (vv_sk[15]?).map (fun q => (v 15, clE (D, v, ca) h0 15 q)) := by
  rw [sk_15]
  rfl
theorem wk_16 (D : va_G) (ca : Nat → ClassId) (v : Nat → Nat) : (WD ca v)[6]? = (vv_sk[16]?).map (fun q => (v 16, clE (D, v, ca) h0 16 q)) := by
  rw [sk_16]
  rfl
theorem wk_17 (D : va_G) (ca : Nat → ClassId) (v : Nat → Nat) : (WD ca v)[18]? = (vv_sk[17]?).map (fun q => (v 17, clE (D, v, ca) h0 17 q)) := by
  rw [sk_17]
  rfl
theorem wk_18 (D : va_G) (ca : Nat → ClassId) (v : Nat → Nat) : (WD ca v)[24]? = (vv_sk[18]?).map (fun q => (v 18, clE (D, v, ca) h0 18 q)) := by
  rw [sk_18]
  rfl
theorem wk_19 (D : va_G) (ca : Nat → ClassId) (v : Nat → Nat) : (WD ca v)[25]? = (vv_sk[19]?).map (fun q => (v 19, clE (D, v, ca) h0 19 q)) := by
  rw [sk_19]
  rfl
theorem wk_20 (D : va_G) (ca : Nat → ClassId) (v : Nat → Nat) : (WD ca v)[26]? = (vv_sk[20]?).map (fun q => (v 20, clE (D, v, ca) h0 20 q)) := by
  rw [sk_20]
  rfl
theorem wk_21 (D : va_G) (ca : Nat → ClassId) (v : Nat → Nat) : (WD ca v)[27]? = (vv_sk[21]?).map (fun q => (v 21, clE (D, v, ca) h0 21 q)) := by
  rw [sk_21]
  rfl
theorem wk_22 (D : va_G) (ca : Nat → ClassId) (v : Nat → Nat) : (WD ca v)[28]? = (vv_sk[22]?).map (fun q => (v 22, clE (D, v, ca) h0 22 q)) := by
  rw [sk_22]
  rfl
theorem wk_23 (D : va_G) (ca : Nat → ClassId) (v : Nat → Nat) : (WD ca v)[29]? = (vv_sk[23]?).map (fun q => (v 23, clE (D, v, ca) h0 23 q)) := by
  rw [sk_23]
  rfl
theorem wk_24 (D : va_G) (ca : Nat → ClassId) (v : Nat → Nat) : (WD ca v)[30]? = (vv_sk[24]?).map (fun q => (v 24, clE (D, v, ca) h0 24 q)) := by
  rw [sk_24]
  rfl
theorem wk_25 (D : va_G) (ca : Nat → ClassId) (v : Nat → Nat) : (WD ca v)[34]? = (vv_sk[25]?).map (fun q => (v 25, clE (D, v, ca) h0 25 q)) := by
  rw [sk_25]
  rfl
theorem wk_26 (D : va_G) (ca : Nat → ClassId) (v : Nat → Nat) : (WD ca v)[31]? = (vv_sk[26]?).map (fun q => (v 26, clE (D, v, ca) h0 26 q)) := by
  rw [sk_26]
  rfl
theorem wk_27 (D : va_G) (ca : Nat → ClassId) (v : Nat → Nat) : (WD ca v)[32]? = (vv_sk[27]?).map (fun q => (v 27, clE (D, v, ca) h0 27 q)) := by
  rw [sk_27]
  rfl
theorem wk_28 (D : va_G) (ca : Nat → ClassId) (v : Nat → Nat) : (WD ca v)[33]? = (vv_sk[28]?).map (fun q => (v 28, clE (D, v, ca) h0 28 q)) := by
  rw [sk_28]
  rfl
theorem wk_29 (D : va_G) (ca : Nat → ClassId) (v : Nat → Nat) : (WD ca v)[19]? = (vv_sk[29]?).map (fun q => (v 29, clE (D, v, ca) h0 29 q)) := by
  rw [sk_29]
  rfl
theorem wk_30 (D : va_G) (ca : Nat → ClassId) (v : Nat → Nat) : (WD ca v)[20]? = (vv_sk[30]?).map (fun q => (v 30, clE (D, v, ca) h0 30 q)) := by
  rw [sk_30]
  rfl
theorem wk_31 (D : va_G) (ca : Nat → ClassId) (v : Nat → Nat) : (WD ca v)[21]? = (vv_sk[31]?).map (fun q => (v 31, clE (D, v, ca) h0 31 q)) := by
  rw [sk_31]
  rfl
theorem wk_32 (D : va_G) (ca : Nat → ClassId) (v : Nat → Nat) : (WD ca v)[22]? = (vv_sk[32]?).map (fun q => (v 32, clE (D, v, ca) h0 32 q)) := by
  rw [sk_32]
  rfl
theorem wk_33 (D : va_G) (ca : Nat → ClassId) (v : Nat → Nat) : (WD ca v)[23]? = (vv_sk[33]?).map (fun q => (v 33, clE (D, v, ca) h0 33 q)) := by
  rw [sk_33]
  rfl
theorem wk_34 (D : va_G) (ca : Nat → ClassId) (v : Nat → Nat) : (WD ca v)[74]? = (vv_sk[34]?).map (fun q => (v 34, clE (D, v, ca) h0 34 q)) := by
  rw [sk_34]
  rfl
theorem wk_35 (D : va_G) (ca : Nat → ClassId) (v : Nat → Nat) : (WD ca v)[80]? = (vv_sk[35]?).map (fun q => (v 35, clE (D, v, ca) h0 35 q)) := by
  rw [sk_35]
  rfl
theorem wk_36 (D : va_G) (ca : Nat → ClassId) (v : Nat → Nat) : (WD ca v)[81]? = (vv_sk[36]?).map (fun q => (v 36, clE (D, v, ca) h0 36 q)) := by
  rw [sk_36]
  rfl
theorem wk_37 (D : va_G) (ca : Nat → ClassId) (v : Nat → Nat) : (WD ca v)[82]? = (vv_sk[37]?).map (fun q => (v 37, clE (D, v, ca) h0 37 q)) := by
  rw [sk_37]
  rfl
theorem wk_38 (D : va_G) (ca : Nat → ClassId) (v : Nat → Nat) : (WD ca v)[83]? = (vv_sk[38]?).map (fun q => (v 38, clE (D, v, ca) h0 38 q)) := by
  rw [sk_38]
  rfl
theorem wk_39 (D : va_G) (ca : Nat → ClassId) (v : Nat → Nat) : (WD ca v)[84]? = (vv_sk[39]?).map (fun q => (v 39, clE (D, v, ca) h0 39 q)) := by
  rw [sk_39]
  rfl
theorem wk_40 (D : va_G) (ca : Nat → ClassId) (v : Nat → Nat) : (WD ca v)[85]? = (vv_sk[40]?).map (fun q => (v 40, clE (D, v, ca) h0 40 q)) := by
  rw [sk_40]
  rfl
theorem wk_41 (D : va_G) (ca : Nat → ClassId) (v : Nat → Nat) : (WD ca v)[86]? = (vv_sk[41]?).map (fun q => (v 41, clE (D, v, ca) h0 41 q)) := by
  rw [sk_41]
  rfl
theorem wk_42 (D : va_G) (ca : Nat → ClassId) (v : Nat → Nat) : (WD ca v)[90]? = (vv_sk[42]?).map (fun q => (v 42, clE (D, v, ca) h0 42 q)) := by
  rw [sk_42]
  rfl
theorem wk_43 (D : va_G) (ca : Nat → ClassId) (v : Nat → Nat) : (WD ca v)[87]? = (vv_sk[43]?).map (fun q => (v 43, clE (D, v, ca) h0 43 q)) := by
  rw [sk_43]
  rfl
theorem wk_44 (D : va_G) (ca : Nat → ClassId) (v : Nat → Nat) : (WD ca v)[88]? = (vv_sk[44]?).map (fun q => (v 44, clE (D, v, ca) h0 44 q)) := by
  rw [sk_44]
  rfl
theorem wk_45 (D : va_G) (ca : Nat → ClassId) (v : Nat → Nat) : (WD ca v)[89]? = (vv_sk[45]?).map (fun q => (v 45, clE (D, v, ca) h0 45 q)) := by
  rw [sk_45]
  rfl
theorem wk_46 (D : va_G) (ca : Nat → ClassId) (v : Nat → Nat) : (WD ca v)[75]? = (vv_sk[46]?).map (fun q => (v 46, clE (D, v, ca) h0 46 q)) := by
  rw [sk_46]
  rfl
theorem wk_47 (D : va_G) (ca : Nat → ClassId) (v : Nat → Nat) : (WD ca v)[76]? = (vv_sk[47]?).map (fun q => (v 47, clE (D, v, ca) h0 47 q)) := by
  rw [sk_47]
  rfl
theorem wk_48 (D : va_G) (ca : Nat → ClassId) (v : Nat → Nat) : (WD ca v)[77]? = (vv_sk[48]?).map (fun q => (v 48, clE (D, v, ca) h0 48 q)) := by
  rw [sk_48]
  rfl
theorem wk_49 (D : va_G) (ca : Nat → ClassId) (v : Nat → Nat) : (WD ca v)[78]? = (vv_sk[49]?).map (fun q => (v 49, clE (D, v, ca) h0 49 q)) := by
  rw [sk_49]
  rfl
theorem wk_50 (D : va_G) (ca : Nat → ClassId) (v : Nat → Nat) : (WD ca v)[79]? = (vv_sk[50]?).map (fun q => (v 50, clE (D, v, ca) h0 50 q)) := by
  rw [sk_50]
  rfl
theorem wk_51 (D : va_G) (ca : Nat → ClassId) (v : Nat → Nat) : (WD ca v)[91]? = (vv_sk[51]?).map (fun q => (v 51, clE (D, v, ca) h0 51 q)) := by
  rw [sk_51]
  rfl
theorem wk_52 (D : va_G) (ca : Nat → ClassId) (v : Nat → Nat) : (WD ca v)[97]? = (vv_sk[52]?).map (fun q => (v 52, clE (D, v, ca) h0 52 q)) := by
  rw [sk_52]
  rfl
theorem wk_53 (D : va_G) (ca : Nat → ClassId) (v : Nat → Nat) : (WD ca v)[98]? = (vv_sk[53]?).map (fun q => (v 53, clE (D, v, ca) h0 53 q)) := by
  rw [sk_53]
  rfl
theorem wk_54 (D : va_G) (ca : Nat → ClassId) (v : Nat → Nat) : (WD ca v)[99]? = (vv_sk[54]?).map (fun q => (v 54, clE (D, v, ca) h0 54 q)) := by
  rw [sk_54]
  rfl
theorem wk_55 (D : va_G) (ca : Nat → ClassId) (v : Nat → Nat) : (WD ca v)[100]? = (vv_sk[55]?).map (fun q => (v 55, clE (D, v, ca) h0 55 q)) := by
  rw [sk_55]
  rfl
theorem wk_56 (D : va_G) (ca : Nat → ClassId) (v : Nat → Nat) : (WD ca v)[101]? = (vv_sk[56]?).map (fun q => (v 56, clE (D, v, ca) h0 56 q)) := by
  rw [sk_56]
  rfl
theorem wk_57 (D : va_G) (ca : Nat → ClassId) (v : Nat → Nat) : (WD ca v)[102]? = (vv_sk[57]?).map (fun q => (v 57, clE (D, v, ca) h0 57 q)) := by
  rw [sk_57]
  rfl
theorem wk_58 (D : va_G) (ca : Nat → ClassId) (v : Nat → Nat) : (WD ca v)[103]? = (vv_sk[58]?).map (fun q => (v 58, clE (D, v, ca) h0 58 q)) := by
  rw [sk_58]
  rfl
theorem wk_59 (D : va_G) (ca : Nat → ClassId) (v : Nat → Nat) : (WD ca v)[107]? = (vv_sk[59]?).map (fun q => (v 59, clE (D, v, ca) h0 59 q)) := by
  rw [sk_59]
  rfl
theorem wk_60 (D : va_G) (ca : Nat → ClassId) (v : Nat → Nat) : (WD ca v)[104]? = (vv_sk[60]?).map (fun q => (v 60, clE (D, v, ca) h0 60 q)) := by
  rw [sk_60]
  rfl
theorem wk_61 (D : va_G) (ca : Nat → ClassId) (v : Nat → Nat) : (WD ca v)[105]? = (vv_sk[61]?).map (fun q => (v 61, clE (D, v, ca) h0 61 q)) := by
  rw [sk_61]
  rfl
theorem wk_62 (D : va_G) (ca : Nat → ClassId) (v : Nat → Nat) : (WD ca v)[106]? = (vv_sk[62]?).map (fun q => (v 62, clE (D, v, ca) h0 62 q)) := by
  rw [sk_62]
  rfl
theorem wk_63 (D : va_G) (ca : Nat → ClassId) (v : Nat → Nat) : (WD ca v)[92]? = (vv_sk[63]?).map (fun q => (v 63, clE (D, v, ca) h0 63 q)) := by
  rw [sk_63]
  rfl
theorem wk_64 (D : va_G) (ca : Nat → ClassId) (v : Nat → Nat) : (WD ca v)[93]? = (vv_sk[64]?).map (fun q => (v 64, clE (D, v, ca) h0 64 q)) := by
  rw [sk_64]
  rfl
theorem wk_65 (D : va_G) (ca : Nat → ClassId) (v : Nat → Nat) : (WD ca v)[94]? = (vv_sk[65]?).map (fun q => (v 65, clE (D, v, ca) h0 65 q)) := by
  rw [sk_65]
  rfl
theorem wk_66 (D : va_G) (ca : Nat → ClassId) (v : Nat → Nat) : (WD ca v)[95]? = (vv_sk[66]?).map (fun q => (v 66, clE (D, v, ca) h0 66 q)) := by
  rw [sk_66]
  rfl
theorem wk_67 (D : va_G) (ca : Nat → ClassId) (v : Nat → Nat) : (WD ca v)[96]? = (vv_sk[67]?).map (fun q => (v 67, clE (D, v, ca) h0 67 q)) := by
  rw [sk_67]
  rfl
theorem wk_68 (D : va_G) (ca : Nat → ClassId) (v : Nat → Nat) : (WD ca v)[40]? = (vv_sk[68]?).map (fun q => (v 68, clE (D, v, ca) h0 68 q)) := by
  rw [sk_68]
  rfl
theorem wk_69 (D : va_G) (ca : Nat → ClassId) (v : Nat → Nat) : (WD ca v)[46]? = (vv_sk[69]?).map (fun q => (v 69, clE (D, v, ca) h0 69 q)) := by
  rw [sk_69]
  rfl
theorem wk_70 (D : va_G) (ca : Nat → ClassId) (v : Nat → Nat) : (WD ca v)[47]? = (vv_sk[70]?).map (fun q => (v 70, clE (D, v, ca) h0 70 q)) := by
  rw [sk_70]
  rfl
theorem wk_71 (D : va_G) (ca : Nat → ClassId) (v : Nat → Nat) : (WD ca v)[48]? = (vv_sk[71]?).map (fun q => (v 71, clE (D, v, ca) h0 71 q)) := by
  rw [sk_71]
  rfl
theorem wk_72 (D : va_G) (ca : Nat → ClassId) (v : Nat → Nat) : (WD ca v)[49]? = (vv_sk[72]?).map (fun q => (v 72, clE (D, v, ca) h0 72 q)) := by
  rw [sk_72]
  rfl
theorem wk_73 (D : va_G) (ca : Nat → ClassId) (v : Nat → Nat) : (WD ca v)[50]? = (vv_sk[73]?).map (fun q => (v 73, clE (D, v, ca) h0 73 q)) := by
  rw [sk_73]
  rfl
theorem wk_74 (D : va_G) (ca : Nat → ClassId) (v : Nat → Nat) : (WD ca v)[51]? = (vv_sk[74]?).map (fun q => (v 74, clE (D, v, ca) h0 74 q)) := by
  rw [sk_74]
  rfl
theorem wk_75 (D : va_G) (ca : Nat → ClassId) (v : Nat → Nat) : (WD ca v)[52]? = (vv_sk[75]?).map (fun q => (v 75, clE (D, v, ca) h0 75 q)) := by
  rw [sk_75]
  rfl
theorem wk_76 (D : va_G) (ca : Nat → ClassId) (v : Nat → Nat) : (WD ca v)[56]? = (vv_sk[76]?).map (fun q => (v 76, clE (D, v, ca) h0 76 q)) := by
  rw [sk_76]
  rfl
theorem wk_77 (D : va_G) (ca : Nat → ClassId) (v : Nat → Nat) : (WD ca v)[53]? = (vv_sk[77]?).map (fun q => (v 77, clE (D, v, ca) h0 77 q)) := by
  rw [sk_77]
  rfl
theorem wk_78 (D : va_G) (ca : Nat → ClassId) (v : Nat → Nat) : (WD ca v)[54]? = (vv_sk[78]?).map (fun q => (v 78, clE (D, v, ca) h0 78 q)) := by
  rw [sk_78]
  rfl
theorem wk_79 (D : va_G) (ca : Nat → ClassId) (v : Nat → Nat) : (WD ca v)[55]? = (vv_sk[79]?).map (fun q => (v 79, clE (D, v, ca) h0 79 q)) := by
  rw [sk_79]
  rfl
theorem wk_80 (D : va_G) (ca : Nat → ClassId) (v : Nat → Nat) : (WD ca v)[41]? = (vv_sk[80]?).map (fun q => (v 80, clE (D, v, ca) h0 80 q)) := by
  rw [sk_80]
  rfl
theorem wk_81 (D : va_G) (ca : Nat → ClassId) (v : Nat → Nat) : (WD ca v)[42]? = (vv_sk[81]?).map (fun q => (v 81, clE (D, v, ca) h0 81 q)) := by
  rw [sk_81]
  rfl
theorem wk_82 (D : va_G) (ca : Nat → ClassId) (v : Nat → Nat) : (WD ca v)[43]? = (vv_sk[82]?).map (fun q => (v 82, clE (D, v, ca) h0 82 q)) := by
  rw [sk_82]
  rfl
theorem wk_83 (D : va_G) (ca : Nat → ClassId) (v : Nat → Nat) : (WD ca v)[44]? = (vv_sk[83]?).map (fun q => (v 83, clE (D, v, ca) h0 83 q)) := by
  rw [sk_83]
  rfl
theorem wk_84 (D : va_G) (ca : Nat → ClassId) (v : Nat → Nat) : (WD ca v)[45]? = (vv_sk[84]?).map (fun q => (v 84, clE (D, v, ca) h0 84 q)) := by
  rw [sk_84]
  rfl
theorem wk_85 (D : va_G) (ca : Nat → ClassId) (v : Nat → Nat) : (WD ca v)[0]? = (vv_sk[85]?).map (fun q => (v 85, clE (D, v, ca) h0 85 q)) := by
  rw [sk_85]
  rfl
theorem wk_86 (D : va_G) (ca : Nat → ClassId) (v : Nat → Nat) : (WD ca v)[35]? = (vv_sk[86]?).map (fun q => (v 86, clE (D, v, ca) h0 86 q)) := by
  rw [sk_86]
  rfl
theorem wk_87 (D : va_G) (ca : Nat → ClassId) (v : Nat → Nat) : (WD ca v)[36]? = (vv_sk[87]?).map (fun q => (v 87, clE (D, v, ca) h0 87 q)) := by
  rw [sk_87]
  rfl
theorem wk_88 (D : va_G) (ca : Nat → ClassId) (v : Nat → Nat) : (WD ca v)[37]? = (vv_sk[88]?).map (fun q => (v 88, clE (D, v, ca) h0 88 q)) := by
  rw [sk_88]
  rfl
theorem wk_89 (D : va_G) (ca : Nat → ClassId) (v : Nat → Nat) : (WD ca v)[38]? = (vv_sk[89]?).map (fun q => (v 89, clE (D, v, ca) h0 89 q)) := by
  rw [sk_89]
  rfl
theorem wk_90 (D : va_G) (ca : Nat → ClassId) (v : Nat → Nat) : (WD ca v)[39]? = (vv_sk[90]?).map (fun q => (v 90, clE (D, v, ca) h0 90 q)) := by
  rw [sk_90]
  rfl
theorem wk_91 (D : va_G) (ca : Nat → ClassId) (v : Nat → Nat) : (WD ca v)[57]? = (vv_sk[91]?).map (fun q => (v 91, clE (D, v, ca) h0 91 q)) := by
  rw [sk_91]
  rfl
theorem wk_92 (D : va_G) (ca : Nat → ClassId) (v : Nat → Nat) : (WD ca v)[58]? = (vv_sk[92]?).map (fun q => (v 92, clE (D, v, ca) h0 92 q)) := by
  rw [sk_92]
  rfl
theorem wk_93 (D : va_G) (ca : Nat → ClassId) (v : Nat → Nat) : (WD ca v)[59]? = (vv_sk[93]?).map (fun q => (v 93, clE (D, v, ca) h0 93 q)) := by
  rw [sk_93]
  rfl
theorem wk_94 (D : va_G) (ca : Nat → ClassId) (v : Nat → Nat) : (WD ca v)[60]? = (vv_sk[94]?).map (fun q => (v 94, clE (D, v, ca) h0 94 q)) := by
  rw [sk_94]
  rfl
theorem wk_95 (D : va_G) (ca : Nat → ClassId) (v : Nat → Nat) : (WD ca v)[61]? = (vv_sk[95]?).map (fun q => (v 95, clE (D, v, ca) h0 95 q)) := by
  rw [sk_95]
  rfl
theorem wk_96 (D : va_G) (ca : Nat → ClassId) (v : Nat → Nat) : (WD ca v)[62]? = (vv_sk[96]?).map (fun q => (v 96, clE (D, v, ca) h0 96 q)) := by
  rw [sk_96]
  rfl
theorem wk_97 (D : va_G) (ca : Nat → ClassId) (v : Nat → Nat) : (WD ca v)[63]? = (vv_sk[97]?).map (fun q => (v 97, clE (D, v, ca) h0 97 q)) := by
  rw [sk_97]
  rfl
theorem wk_98 (D : va_G) (ca : Nat → ClassId) (v : Nat → Nat) : (WD ca v)[64]? = (vv_sk[98]?).map (fun q => (v 98, clE (D, v, ca) h0 98 q)) := by
  rw [sk_98]
  rfl
theorem wk_99 (D : va_G) (ca : Nat → ClassId) (v : Nat → Nat) : (WD ca v)[65]? = (vv_sk[99]?).map (fun q => (v 99, clE (D, v, ca) h0 99 q)) := by
  rw [sk_99]
  rfl
theorem wk_100 (D : va_G) (ca : Nat → ClassId) (v : Nat → Nat) : (WD ca v)[66]? = (vv_sk[100]?).map (fun q => (v 100, clE (D, v, ca) h0 100 q)) := by
  rw [sk_100]
  rfl
theorem wk_101 (D : va_G) (ca : Nat → ClassId) (v : Nat → Nat) : (WD ca v)[67]? = (vv_sk[101]?).map (fun q => (v 101, clE (D, v, ca) h0 101 q)) := by
  rw [sk_101]
  rfl
theorem wk_102 (D : va_G) (ca : Nat → ClassId) (v : Nat → Nat) : (WD ca v)[68]? = (vv_sk[102]?).map (fun q => (v 102, clE (D, v, ca) h0 102 q)) := by
  rw [sk_102]
  rfl
theorem wk_103 (D : va_G) (ca : Nat → ClassId) (v : Nat → Nat) : (WD ca v)[69]? = (vv_sk[103]?).map (fun q => (v 103, clE (D, v, ca) h0 103 q)) := by
  rw [sk_103]
  rfl
theorem wk_104 (D : va_G) (ca : Nat → ClassId) (v : Nat → Nat) : (WD ca v)[70]? = (vv_sk[104]?).map (fun q => (v 104, clE (D, v, ca) h0 104 q)) := by
  rw [sk_104]
  rfl
theorem wk_105 (D : va_G) (ca : Nat → ClassId) (v : Nat → Nat) : (WD ca v)[71]? = (vv_sk[105]?).map (fun q => (v 105, clE (D, v, ca) h0 105 q)) := by
  rw [sk_105]
  rfl
theorem wk_106 (D : va_G) (ca : Nat → ClassId) (v : Nat → Nat) : (WD ca v)[72]? = (vv_sk[106]?).map (fun q => (v 106, clE (D, v, ca) h0 106 q)) := by
  rw [sk_106]
  rfl
theorem wk_107 (D : va_G) (ca : Nat → ClassId) (v : Nat → Nat) : (WD ca v)[73]? = (vv_sk[107]?).map (fun q => (v 107, clE (D, v, ca) h0 107 q)) := by
  rw [sk_107]
  rfl
theorem wk_108 (D : va_G) (ca : Nat → ClassId) (v : Nat → Nat) : (WD ca v)[108]? = (vv_sk[108]?).map (fun q => (v 108, clE (D, v, ca) h0 108 q)) := by
  rw [sk_108]
  rfl
theorem wk_109 (D : va_G) (ca : Nat → ClassId) (v : Nat → Nat) : (WD ca v)[109]? = (vv_sk[109]?).map (fun q => (v 109, clE (D, v, ca) h0 109 q)) := by
  rw [sk_109]
  rfl
theorem wk_110 (D : va_G) (ca : Nat → ClassId) (v : Nat → Nat) : (WD ca v)[110]? = (vv_sk[110]?).map (fun q => (v 110, clE (D, v, ca) h0 110 q)) := by
  rw [sk_110]
  rfl
theorem wk_111 (D : va_G) (ca : Nat → ClassId) (v : Nat → Nat) : (WD ca v)[111]? = (vv_sk[111]?).map (fun q => (v 111, clE (D, v, ca) h0 111 q)) := by
  rw [sk_111]
  rfl
theorem wk_112 (D : va_G) (ca : Nat → ClassId) (v : Nat → Nat) : (WD ca v)[112]? = (vv_sk[112]?).map (fun q => (v 112, clE (D, v, ca) h0 112 q)) := by
  rw [sk_112]
  rfl
theorem wk_113 (D : va_G) (ca : Nat → ClassId) (v : Nat → Nat) : (WD ca v)[113]? = (vv_sk[113]?).map (fun q => (v 113, clE (D, v, ca) h0 113 q)) := by
  rw [sk_113]
  rfl
theorem wk_114 (D : va_G) (ca : Nat → ClassId) (v : Nat → Nat) : (WD ca v)[114]? = (vv_sk[114]?).map (fun q => (v 114, clE (D, v, ca) h0 114 q)) := by
  rw [sk_114]
  rfl
theorem wk_115 (D : va_G) (ca : Nat → ClassId) (v : Nat → Nat) : (WD ca v)[115]? = (vv_sk[115]?).map (fun q => (v 115, clE (D, v, ca) h0 115 q)) := by
  rw [sk_115]
  rfl
theorem wk_116 (D : va_G) (ca : Nat → ClassId) (v : Nat → Nat) : (WD ca v)[116]? = (vv_sk[116]?).map (fun q => (v 116, clE (D, v, ca) h0 116 q)) := by
  rw [sk_116]
  show _ = some (v 116, Sum.inr (11, List.mapIdx (fun i sl => rv v (slP h0 116 i sl)) _))
  rw [mI_0]
  rfl
theorem wk_117 (D : va_G) (ca : Nat → ClassId) (v : Nat → Nat) : (WD ca v)[117]? = (vv_sk[117]?).map (fun q => (v 117, clE (D, v, ca) h0 117 q)) := by
  rw [sk_117]
  rfl
theorem wk_118 (D : va_G) (ca : Nat → ClassId) (v : Nat → Nat) : (WD ca v)[118]? = (vv_sk[118]?).map (fun q => (v 118, clE (D, v, ca) h0 118 q)) := by
  rw [sk_118]
  rfl
theorem wk_119 (D : va_G) (ca : Nat → ClassId) (v : Nat → Nat) : (WD ca v)[119]? = (vv_sk[119]?).map (fun q => (v 119, clE (D, v, ca) h0 119 q)) := by
  rw [sk_119]
  rfl
theorem wk_120 (D : va_G) (ca : Nat → ClassId) (v : Nat → Nat) : (WD ca v)[120]? = (vv_sk[120]?).map (fun q => (v 120, clE (D, v, ca) h0 120 q)) := by
  rw [sk_120]
  rfl
theorem wk_121 (D : va_G) (ca : Nat → ClassId) (v : Nat → Nat) : (WD ca v)[121]? = (vv_sk[121]?).map (fun q => (v 121, clE (D, v, ca) h0 121 q)) := by
  rw [sk_121]
  rfl
theorem wk_122 (D : va_G) (ca : Nat → ClassId) (v : Nat → Nat) : (WD ca v)[122]? = (vv_sk[122]?).map (fun q => (v 122, clE (D, v, ca) h0 122 q)) := by
  rw [sk_122]
  rfl
theorem wk_123 (D : va_G) (ca : Nat → ClassId) (v : Nat → Nat) : (WD ca v)[123]? = (vv_sk[123]?).map (fun q => (v 123, clE (D, v, ca) h0 123 q)) := by
  rw [sk_123]
  rfl
theorem wk_124 (D : va_G) (ca : Nat → ClassId) (v : Nat → Nat) : (WD ca v)[124]? = (vv_sk[124]?).map (fun q => (v 124, clE (D, v, ca) h0 124 q)) := by
  rw [sk_124]
  rfl
theorem wk_125 (D : va_G) (ca : Nat → ClassId) (v : Nat → Nat) : (WD ca v)[125]? = (vv_sk[125]?).map (fun q => (v 125, clE (D, v, ca) h0 125 q)) := by
  rw [sk_125]
  rfl
theorem wk_126 (D : va_G) (ca : Nat → ClassId) (v : Nat → Nat) : (WD ca v)[126]? = (vv_sk[126]?).map (fun q => (v 126, clE (D, v, ca) h0 126 q)) := by
  rw [sk_126]
  rfl
theorem wk_127 (D : va_G) (ca : Nat → ClassId) (v : Nat → Nat) : (WD ca v)[127]? = (vv_sk[127]?).map (fun q => (v 127, clE (D, v, ca) h0 127 q)) := by
  rw [sk_127]
  rfl
theorem wk_128 (D : va_G) (ca : Nat → ClassId) (v : Nat → Nat) : (WD ca v)[128]? = (vv_sk[128]?).map (fun q => (v 128, clE (D, v, ca) h0 128 q)) := by
  rw [sk_128]
  rfl
theorem wk_129 (D : va_G) (ca : Nat → ClassId) (v : Nat → Nat) : (WD ca v)[129]? = (vv_sk[129]?).map (fun q => (v 129, clE (D, v, ca) h0 129 q)) := by
  rw [sk_129]
  rfl
theorem wk_130 (D : va_G) (ca : Nat → ClassId) (v : Nat → Nat) : (WD ca v)[130]? = (vv_sk[130]?).map (fun q => (v 130, clE (D, v, ca) h0 130 q)) := by
  rw [sk_130]
  rfl
theorem wk_131 (D : va_G) (ca : Nat → ClassId) (v : Nat → Nat) : (WD ca v)[131]? = (vv_sk[131]?).map (fun q => (v 131, clE (D, v, ca) h0 131 q)) := by
  rw [sk_131]
  rfl
theorem st_all (D : va_G) (ca : Nat → ClassId) (v : Nat → Nat) : ∀ k, k < 132 → (WD ca v)[st_pm.getD k 0]? = (vv_sk[k]?).map (fun q => (v k, clE (D, v, ca) h0 k q)) := by
  intro k hk
  match k, hk with
  | 0, _ => exact wk_0 D ca v
  | 1, _ => exact wk_1 D ca v
  | 2, _ => exact wk_2 D ca v
  | 3, _ => exact wk_3 D ca v
  | 4, _ => exact wk_4 D ca v
  | 5, _ => exact wk_5 D ca v
  | 6, _ => exact wk_6 D ca v
  | 7, _ => exact wk_7 D ca v
  | 8, _ => exact wk_8 D ca v
  | 9, _ => exact wk_9 D ca v
  | 10, _ => exact wk_10 D ca v
  | 11, _ => exact wk_11 D ca v
  | 12, _ => exact wk_12 D ca v
  | 13, _ => exact wk_13 D ca v
  | 14, _ => exact wk_14 D ca v
  | 15, _ => exact wk_15 D ca v
  | 16, _ => exact wk_16 D ca v
  | 17, _ => exact wk_17 D ca v
  | 18, _ => exact wk_18 D ca v
  | 19, _ => exact wk_19 D ca v
  | 20, _ => exact wk_20 D ca v
  | 21, _ => exact wk_21 D ca v
  | 22, _ => exact wk_22 D ca v
  | 23, _ => exact wk_23 D ca v
  | 24, _ => exact wk_24 D ca v
  | 25, _ => exact wk_25 D ca v
  | 26, _ => exact wk_26 D ca v
  | 27, _ => exact wk_27 D ca v
  | 28, _ => exact wk_28 D ca v
  | 29, _ => exact wk_29 D ca v
  | 30, _ => exact wk_30 D ca v
  | 31, _ => exact wk_31 D ca v
  | 32, _ => exact wk_32 D ca v
  | 33, _ => exact wk_33 D ca v
  | 34, _ => exact wk_34 D ca v
  | 35, _ => exact wk_35 D ca v
  | 36, _ => exact wk_36 D ca v
  | 37, _ => exact wk_37 D ca v
  | 38, _ => exact wk_38 D ca v
  | 39, _ => exact wk_39 D ca v
  | 40, _ => exact wk_40 D ca v
  | 41, _ => exact wk_41 D ca v
  | 42, _ => exact wk_42 D ca v
  | 43, _ => exact wk_43 D ca v
  | 44, _ => exact wk_44 D ca v
  | 45, _ => exact wk_45 D ca v
  | 46, _ => exact wk_46 D ca v
  | 47, _ => exact wk_47 D ca v
  | 48, _ => exact wk_48 D ca v
  | 49, _ => exact wk_49 D ca v
  | 50, _ => exact wk_50 D ca v
  | 51, _ => exact wk_51 D ca v
  | 52, _ => exact wk_52 D ca v
  | 53, _ => exact wk_53 D ca v
  | 54, _ => exact wk_54 D ca v
  | 55, _ => exact wk_55 D ca v
  | 56, _ => exact wk_56 D ca v
  | 57, _ => exact wk_57 D ca v
  | 58, _ => exact wk_58 D ca v
  | 59, _ => exact wk_59 D ca v
  | 60, _ => exact wk_60 D ca v
  | 61, _ => exact wk_61 D ca v
  | 62, _ => exact wk_62 D ca v
  | 63, _ => exact wk_63 D ca v
  | 64, _ => exact wk_64 D ca v
  | 65, _ => exact wk_65 D ca v
  | 66, _ => exact wk_66 D ca v
  | 67, _ => exact wk_67 D ca v
  | 68, _ => exact wk_68 D ca v
  | 69, _ => exact wk_69 D ca v
  | 70, _ => exact wk_70 D ca v
  | 71, _ => exact wk_71 D ca v
  | 72, _ => exact wk_72 D ca v
  | 73, _ => exact wk_73 D ca v
  | 74, _ => exact wk_74 D ca v
  | 75, _ => exact wk_75 D ca v
  | 76, _ => exact wk_76 D ca v
  | 77, _ => exact wk_77 D ca v
  | 78, _ => exact wk_78 D ca v
  | 79, _ => exact wk_79 D ca v
  | 80, _ => exact wk_80 D ca v
  | 81, _ => exact wk_81 D ca v
  | 82, _ => exact wk_82 D ca v
  | 83, _ => exact wk_83 D ca v
  | 84, _ => exact wk_84 D ca v
  | 85, _ => exact wk_85 D ca v
  | 86, _ => exact wk_86 D ca v
  | 87, _ => exact wk_87 D ca v
  | 88, _ => exact wk_88 D ca v
  | 89, _ => exact wk_89 D ca v
  | 90, _ => exact wk_90 D ca v
  | 91, _ => exact wk_91 D ca v
  | 92, _ => exact wk_92 D ca v
  | 93, _ => exact wk_93 D ca v
  | 94, _ => exact wk_94 D ca v
  | 95, _ => exact wk_95 D ca v
  | 96, _ => exact wk_96 D ca v
  | 97, _ => exact wk_97 D ca v
  | 98, _ => exact wk_98 D ca v
  | 99, _ => exact wk_99 D ca v
  | 100, _ => exact wk_100 D ca v
  | 101, _ => exact wk_101 D ca v
  | 102, _ => exact wk_102 D ca v
  | 103, _ => exact wk_103 D ca v
  | 104, _ => exact wk_104 D ca v
  | 105, _ => exact wk_105 D ca v
  | 106, _ => exact wk_106 D ca v
  | 107, _ => exact wk_107 D ca v
  | 108, _ => exact wk_108 D ca v
  | 109, _ => exact wk_109 D ca v
  | 110, _ => exact wk_110 D ca v
  | 111, _ => exact wk_111 D ca v
  | 112, _ => exact wk_112 D ca v
  | 113, _ => exact wk_113 D ca v
  | 114, _ => exact wk_114 D ca v
  | 115, _ => exact wk_115 D ca v
  | 116, _ => exact wk_116 D ca v
  | 117, _ => exact wk_117 D ca v
  | 118, _ => exact wk_118 D ca v
  | 119, _ => exact wk_119 D ca v
  | 120, _ => exact wk_120 D ca v
  | 121, _ => exact wk_121 D ca v
  | 122, _ => exact wk_122 D ca v
  | 123, _ => exact wk_123 D ca v
  | 124, _ => exact wk_124 D ca v
  | 125, _ => exact wk_125 D ca v
  | 126, _ => exact wk_126 D ca v
  | 127, _ => exact wk_127 D ca v
  | 128, _ => exact wk_128 D ca v
  | 129, _ => exact wk_129 D ca v
  | 130, _ => exact wk_130 D ca v
  | 131, _ => exact wk_131 D ca v
  | k + 132, h => exact absurd h (by (first | decide +kernel | with_reducible assumption | omega))
set_option maxRecDepth 100000 in
theorem st_wd (ca : Nat → ClassId) (ro : Nat → Nat) (b a0 m0 : Nat) (q1 : Nat) (q18 : Nat) (q35 : Nat) (q36 : Nat) (q37 : Nat) (q38 : Nat) (q59 : Nat) (q63 : Nat) (q65 : Nat) (q68 : Nat) (q2 : Nat) (q3 : Nat) (q4 : Nat) (q5 : Nat) (q6 : Nat) (q7 : Nat) (q8 : Nat) (q9 : Nat) (q10 : Nat) (q11 : Nat) (q12 : Nat) (q13 : Nat) (q14 : Nat) (q15 : Nat) (q16 : Nat) (q17 : Nat) (q19 : Nat) (q20 : Nat) (q21 : Nat) (q22 : Nat) (q23 : Nat) (q24 : Nat) (q25 : Nat) (q26 : Nat) (q27 : Nat) (q28 : Nat) (q29 : Nat) (q30 : Nat) (q31 : Nat) (q32 : Nat) (q33 : Nat) (q34 : Nat) (q69 : Nat) (q86 : Nat) (q39 : Nat) (q40 : Nat) (q41 : Nat) (q42 : Nat) (q43 : Nat) (q44 : Nat) (q45 : Nat) (q46 : Nat) (q47 : Nat) (q48 : Nat) (q49 : Nat) (q50 : Nat) (q51 : Nat) (q52 : Nat) (q53 : Nat) (q54 : Nat) (q55 : Nat) (q56 : Nat) (q57 : Nat) (q58 : Nat) (q60 : Nat) (q61 : Nat) (r62 : Nat → Nat) (q64 : Nat) (q66 : Nat) (q67 : Nat) (q103 : Nat) (q105 : Nat) (q107 : Nat) (q109 : Nat) (q70 : Nat) (q71 : Nat) (q72 : Nat) (q73 : Nat) (q74 : Nat) (q75 : Nat) (q76 : Nat) (q77 : Nat) (q78 : Nat) (q79 : Nat) (q80 : Nat) (q81 : Nat) (q82 : Nat) (q83 : Nat) (q84 : Nat) (q85 : Nat) (q87 : Nat) (q88 : Nat) (q89 : Nat) (q90 : Nat) (q91 : Nat) (q92 : Nat) (q93 : Nat) (q94 : Nat) (q95 : Nat) (q96 : Nat) (q97 : Nat) (q98 : Nat) (q99 : Nat) (q100 : Nat) (q101 : Nat) (q102 : Nat) (q104 : Nat) (q106 : Nat) (q108 : Nat) (q110 : Nat) (n1 : Nat) (n2 : Nat) (n3 : Nat) (n4 : Nat) (n5 : Nat) (n6 : Nat) (n7 : Nat) (n8 : Nat) (n9 : Nat) (n10 : Nat) (n11 : Nat) (n12 : Nat) (n13 : Nat) (n14 : Nat) (n15 : Nat) : ([(a0, .inr (10, [.ref q1, .ref q18, .ref q35, .ref q36, .ref q37, .ref q38, .ref q59, .ref q63, .ref q65, .ref q68, .int 0])), (q1, .inr (1, [.ref q2, .ref q3, .ref q4, .int 0, .int 9])), (q4, .inr (7, [.ref q5, .ref q6, .ref q7, .ref q8, .int 0])), (q5, .inl (ca 0, 8, .inl (fun _ => 0))), (q6, .inl (ca 0, 8, .inl (fun _ => 0))), (q7, .inl (ca 0, 8, .inl (fun _ => 0))), (q8, .inl (ca 0, 8, .inl (fun _ => 0))), (q2, .inr (2, [.int 3, .int 3, .int 1, .int 10, .ref q9, .ref q10, .ref q11, .ref q12, .ref q13])), (q9, .inl (ca 0, 16, .inl (fun _ => 0))), (q10, .inl (ca 0, 16, .inl (fun _ => 0))), (q11, .inl (ca 0, 16, .inl (fun _ => 5))), (q12, .inl (ca 0, 16, .inl (fun _ => (-4)))), (q13, .inl (ca 0, 16, .inl (fun _ => 0))), (q3, .inr (3, [.ref q14, .ref q15, .ref q16, .ref q17, .int 0])), (q15, .inl (ca 0, 8, .inl (fun _ => 0))), (q16, .inl (ca 0, 8, .inl (fun _ => 0))), (q17, .inl (ca 0, 8, .inl (fun _ => 0))), (q14, .inl (ca 0, 4, .inl (fun _ => 0))), (q18, .inr (1, [.ref q19, .ref q20, .ref q21, .int 0, .int 9])), (q21, .inr (7, [.ref q22, .ref q23, .ref q24, .ref q25, .int 0])), (q22, .inl (ca 0, 8, .inl (fun _ => 0))), (q23, .inl (ca 0, 8, .inl (fun _ => 0))), (q24, .inl (ca 0, 8, .inl (fun _ => 0))), (q25, .inl (ca 0, 8, .inl (fun _ => 0))), (q19, .inr (2, [.int 3, .int 3, .int 1, .int 10, .ref q26, .ref q27, .ref q28, .ref q29, .ref q30])), (q26, .inl (ca 0, 16, .inl (fun _ => 0))), (q27, .inl (ca 0, 16, .inl (fun _ => 0))), (q28, .inl (ca 0, 16, .inl (fun _ => 5))), (q29, .inl (ca 0, 16, .inl (fun _ => (-4)))), (q30, .inl (ca 0, 16, .inl (fun _ => 0))), (q20, .inr (3, [.ref q31, .ref q32, .ref q33, .ref q34, .int 0])), (q32, .inl (ca 0, 8, .inl (fun _ => 0))), (q33, .inl (ca 0, 8, .inl (fun _ => 0))), (q34, .inl (ca 0, 8, .inl (fun _ => 0))), (q31, .inl (ca 0, 4, .inl (fun _ => 0))), (q35, .inl (ca 3, 2, .inr (.inr (.inr (.inr (fun j => (([34, 51] : List Nat)[j]?).map (adOf [q1, q2, q9, q10, q11, q12, q13, q3, q14, q15, q16, q17, q4, q5, q6, q7, q8, q18, q19, q26, q27, q28, q29, q30, q20, q31, q32, q33, q34, q21, q22, q23, q24, q25, q69, q70, q77, q78, q79, q80, q81, q71, q82, q83, q84, q85, q72, q73, q74, q75, q76, q86, q87, q94, q95, q96, q97, q98, q88, q99, q100, q101, q102, q89, q90, q91, q92, q93, q39, q43, q50, q51, q52, q53, q54, q44, q55, q56, q57, q58, q45, q46, q47, q48, q49, a0, q35, q36, q37, q38, q42, q40, q41, q59, q60, (r62 0), (r62 1), (r62 2), (r62 3), (r62 4), (r62 5), q61, q63, q64, q65, q66, q67, q68, q103, q104, q105, q106, q107, q108, q109, q110, m0, n1, n2, n3, n4, n5, n6, n7, n8, n9, n10, n11, n12, n13, n14, n15] ro b))))))), (q36, .inl (ca 2, 2, .inl (fun _ => 0))), (q37, .inr (5, [.ref q38, .ref q39, .ref q40, .ref q41, .int 0, .int 0, .int 0])), (q38, .inr (8, [.ref q42, .int 0, .int 0, .int 0, .int 0, .int 0])), (q42, .inl (ca 1, 160, .inl (fun _ => 0))), (q39, .inr (1, [.ref q43, .ref q44, .ref q45, .int 0, .int 9])), (q45, .inr (7, [.ref q46, .ref q47, .ref q48, .ref q49, .int 0])), (q46, .inl (ca 0, 8, .inl (fun _ => 0))), (q47, .inl (ca 0, 8, .inl (fun _ => 0))), (q48, .inl (ca 0, 8, .inl (fun _ => 0))), (q49, .inl (ca 0, 8, .inl (fun _ => 0))), (q43, .inr (2, [.int 3, .int 3, .int 1, .int 10, .ref q50, .ref q51, .ref q52, .ref q53, .ref q54])), (q50, .inl (ca 0, 16, .inl (fun _ => 0))), (q51, .inl (ca 0, 16, .inl (fun _ => 0))), (q52, .inl (ca 0, 16, .inl (fun _ => 5))), (q53, .inl (ca 0, 16, .inl (fun _ => (-4)))), (q54, .inl (ca 0, 16, .inl (fun _ => 0))), (q44, .inr (3, [.ref q55, .ref q56, .ref q57, .ref q58, .int 0])), (q56, .inl (ca 0, 8, .inl (fun _ => 0))), (q57, .inl (ca 0, 8, .inl (fun _ => 0))), (q58, .inl (ca 0, 8, .inl (fun _ => 0))), (q55, .inl (ca 0, 4, .inl (fun _ => 0))), (q40, .inl (ca 0, 3, .inl (fun _ => 0))), (q41, .inl (ca 0, 10, .inl (fun _ => 0))), (q59, .inr (9, [.ref q60, .ref q61])), (q60, .inl (ca 5, 6, .inr (.inr (.inr (.inr (fun j => (([95, 96, 97, 98, 99, 100] : List Nat)[j]?).map (adOf [q1, q2, q9, q10, q11, q12, q13, q3, q14, q15, q16, q17, q4, q5, q6, q7, q8, q18, q19, q26, q27, q28, q29, q30, q20, q31, q32, q33, q34, q21, q22, q23, q24, q25, q69, q70, q77, q78, q79, q80, q81, q71, q82, q83, q84, q85, q72, q73, q74, q75, q76, q86, q87, q94, q95, q96, q97, q98, q88, q99, q100, q101, q102, q89, q90, q91, q92, q93, q39, q43, q50, q51, q52, q53, q54, q44, q55, q56, q57, q58, q45, q46, q47, q48, q49, a0, q35, q36, q37, q38, q42, q40, q41, q59, q60, (r62 0), (r62 1), (r62 2), (r62 3), (r62 4), (r62 5), q61, q63, q64, q65, q66, q67, q68, q103, q104, q105, q106, q107, q108, q109, q110, m0, n1, n2, n3, n4, n5, n6, n7, n8, n9, n10, n11, n12, n13, n14, n15] ro b))))))), ((r62 0), .inl (ca 0, 16, .inl (fun _ => 0))), ((r62 1), .inl (ca 0, 16, .inl (fun _ => 0))), ((r62 2), .inl (ca 0, 16, .inl (fun _ => 0))), ((r62 3), .inl (ca 0, 16, .inl (fun _ => 0))), ((r62 4), .inl (ca 0, 16, .inl (fun _ => 0))), ((r62 5), .inl (ca 0, 16, .inl (fun _ => 0))), (q61, .inl (ca 0, 6, .inl (fun _ => 0))), (q63, .inr (4, [.ref q64, .int 0, .int 0])), (q64, .inl (ca 0, 4, .inl (fun _ => 0))), (q65, .inr (0, [.ref q66, .int 0, .ref q67, .int 0, .int 0, .int 0, .int 0, .int 0])), (q66, .inl (ca 0, 48, .inl (fun _ => 0))), (q67, .inl (ca 0, 10, .inl (fun _ => 0))), (q68, .inl (ca 4, 4, .inr (.inr (.inr (.inr (fun j => (([108, 110, 112, 114] : List Nat)[j]?).map (adOf [q1, q2, q9, q10, q11, q12, q13, q3, q14, q15, q16, q17, q4, q5, q6, q7, q8, q18, q19, q26, q27, q28, q29, q30, q20, q31, q32, q33, q34, q21, q22, q23, q24, q25, q69, q70, q77, q78, q79, q80, q81, q71, q82, q83, q84, q85, q72, q73, q74, q75, q76, q86, q87, q94, q95, q96, q97, q98, q88, q99, q100, q101, q102, q89, q90, q91, q92, q93, q39, q43, q50, q51, q52, q53, q54, q44, q55, q56, q57, q58, q45, q46, q47, q48, q49, a0, q35, q36, q37, q38, q42, q40, q41, q59, q60, (r62 0), (r62 1), (r62 2), (r62 3), (r62 4), (r62 5), q61, q63, q64, q65, q66, q67, q68, q103, q104, q105, q106, q107, q108, q109, q110, m0, n1, n2, n3, n4, n5, n6, n7, n8, n9, n10, n11, n12, n13, n14, n15] ro b))))))), (q69, .inr (1, [.ref q70, .ref q71, .ref q72, .int 0, .int 9])), (q72, .inr (7, [.ref q73, .ref q74, .ref q75, .ref q76, .int 0])), (q73, .inl (ca 0, 8, .inl (fun _ => 0))), (q74, .inl (ca 0, 8, .inl (fun _ => 0))), (q75, .inl (ca 0, 8, .inl (fun _ => 0))), (q76, .inl (ca 0, 8, .inl (fun _ => 0))), (q70, .inr (2, [.int 3, .int 3, .int 1, .int 10, .ref q77, .ref q78, .ref q79, .ref q80, .ref q81])), (q77, .inl (ca 0, 16, .inl (fun _ => 0))), (q78, .inl (ca 0, 16, .inl (fun _ => 0))), (q79, .inl (ca 0, 16, .inl (fun _ => 5))), (q80, .inl (ca 0, 16, .inl (fun _ => (-4)))), (q81, .inl (ca 0, 16, .inl (fun _ => 0))), (q71, .inr (3, [.ref q82, .ref q83, .ref q84, .ref q85, .int 0])), (q83, .inl (ca 0, 8, .inl (fun _ => 0))), (q84, .inl (ca 0, 8, .inl (fun _ => 0))), (q85, .inl (ca 0, 8, .inl (fun _ => 0))), (q82, .inl (ca 0, 4, .inl (fun _ => 0))), (q86, .inr (1, [.ref q87, .ref q88, .ref q89, .int 0, .int 9])), (q89, .inr (7, [.ref q90, .ref q91, .ref q92, .ref q93, .int 0])), (q90, .inl (ca 0, 8, .inl (fun _ => 0))), (q91, .inl (ca 0, 8, .inl (fun _ => 0))), (q92, .inl (ca 0, 8, .inl (fun _ => 0))), (q93, .inl (ca 0, 8, .inl (fun _ => 0))), (q87, .inr (2, [.int 3, .int 3, .int 1, .int 10, .ref q94, .ref q95, .ref q96, .ref q97, .ref q98])), (q94, .inl (ca 0, 16, .inl (fun _ => 0))), (q95, .inl (ca 0, 16, .inl (fun _ => 0))), (q96, .inl (ca 0, 16, .inl (fun _ => 5))), (q97, .inl (ca 0, 16, .inl (fun _ => (-4)))), (q98, .inl (ca 0, 16, .inl (fun _ => 0))), (q88, .inr (3, [.ref q99, .ref q100, .ref q101, .ref q102, .int 0])), (q100, .inl (ca 0, 8, .inl (fun _ => 0))), (q101, .inl (ca 0, 8, .inl (fun _ => 0))), (q102, .inl (ca 0, 8, .inl (fun _ => 0))), (q99, .inl (ca 0, 4, .inl (fun _ => 0))), (q103, .inr (6, [.ref q104, .int (-1), .int 0])), (q104, .inl (ca 0, 40, .inl (fun _ => 0))), (q105, .inr (6, [.ref q106, .int (-1), .int 0])), (q106, .inl (ca 0, 40, .inl (fun _ => 0))), (q107, .inr (6, [.ref q108, .int (-1), .int 0])), (q108, .inl (ca 0, 40, .inl (fun _ => 0))), (q109, .inr (6, [.ref q110, .int (-1), .int 0])), (q110, .inl (ca 0, 40, .inl (fun _ => 0)))] ++ [(m0, .inr (11, [.ref n1, .ref n2, .int 3, .int 3, .int 1, .int 10, .ref n3, .int 3, .int 3, .int 1, .int 10, .int 0, .ref n4, .int (-4), .ref n5, .int 0, .int 0, .int 0, .int 0, .int 0, .int 0, .int 0, .ref n6, .ref n7, .ref n8, .int 0, .long 0, .ref n9, .int 0, .ref n10, .int 0, .ref n11, .ref n12, .ref n13, .ref n14, .int 0, .ref n15])), (n1, .inl (ca 0, 432, .inl (fun i => if i < 144 then dr0 i else 0))), (n2, .inl (ca 2, 2, .inl (fun _ => 0))), (n3, .inl (ca 0, 144, .inl dr0)), (n4, .inl (ca 0, 6, .inl (fun _ => 0))), (n5, .inl (ca 0, 160, .inl (fun _ => 0))), (n6, .inl (ca 0, 128, .inl (fun _ => 0))), (n7, .inl (ca 0, 4, .inl (fun _ => 0))), (n8, .inl (ca 0, 4, .inl (fun _ => 0))), (n9, .inl (ca 0, 48, .inl (fun _ => 0))), (n10, .inl (ca 0, 4, .inl (fun _ => 0))), (n11, .inl (ca 0, 16, .inl (fun _ => 0))), (n12, .inl (ca 0, 4, .inl (fun _ => -4))), (n13, .inl (ca 0, 4, .inl (fun _ => 0))), (n14, .inl (ca 0, 160, .inl (fun _ => 0))), (n15, .inl (ca 0, 20, .inl (fun _ => 0)))] : va_W) = WD ca (adOf [q1, q2, q9, q10, q11, q12, q13, q3, q14, q15, q16, q17, q4, q5, q6, q7, q8, q18, q19, q26, q27, q28, q29, q30, q20, q31, q32, q33, q34, q21, q22, q23, q24, q25, q69, q70, q77, q78, q79, q80, q81, q71, q82, q83, q84, q85, q72, q73, q74, q75, q76, q86, q87, q94, q95, q96, q97, q98, q88, q99, q100, q101, q102, q89, q90, q91, q92, q93, q39, q43, q50, q51, q52, q53, q54, q44, q55, q56, q57, q58, q45, q46, q47, q48, q49, a0, q35, q36, q37, q38, q42, q40, q41, q59, q60, (r62 0), (r62 1), (r62 2), (r62 3), (r62 4), (r62 5), q61, q63, q64, q65, q66, q67, q68, q103, q104, q105, q106, q107, q108, q109, q110, m0, n1, n2, n3, n4, n5, n6, n7, n8, n9, n10, n11, n12, n13, n14, n15] ro b) := rfl
end
section
theorem ja_h0c : (List.range 13).all (fun k => (List.range 16).all (fun i => match dof (68 + k) i with | none => true | some d => decide (h0.1 k i = h0.1 (mK d) (mJ 0 d)))) = true := by decide +kernel
theorem JA_h0 : JA h0 := by
  refine ⟨⟨fun k i d hd _ => ?_, fun i _ hc => ?_, fun i _ hc => ?_⟩, ⟨rfl, rfl⟩, fun q => absurd rfl q, fun q => absurd rfl q⟩
  · have a := dof_k hd
    have b := (dof_c hd).1
    have hi : i < 16 := by unfold cpl at b; omega
    have h1 := List.all_eq_true.mp ja_h0c k (List.mem_range.mpr (by (first | decide +kernel | with_reducible assumption | omega)))
    have h2 : (match dof (68 + k) i with | none => true | some d => decide (h0.1 k i = h0.1 (mK d) (mJ 0 d))) = true := List.all_eq_true.mp h1 i (List.mem_range.mpr hi)
    rw [hd] at h2
    rw [Nat.zero_add]
    exact of_decide_eq_true h2
  · have e : (h0.1 (0 + 7) 4).toInt = 0 := by decide +kernel
    rw [e] at hc
    omega
  · have e : (h0.1 (0 + 12) 4).toInt = 0 := by decide +kernel
    rw [e] at hc
    omega
end
section
theorem jb_h0a : (List.range 16).all (fun i => decide (h0.1 2 i = h0.1 117 i) && decide (0 ≤ (h0.1 2 i).toInt) && decide (h0.1 6 i = h0.1 117 (64 + i))) = true := by decide +kernel
theorem jb_h0b : (List.range 4).all (fun i => decide (h0.1 8 i = h0.1 117 (80 + i))) = true := by decide +kernel
theorem JB_h0 : JB h0 := by
  refine ⟨⟨fun i hi => ?_, fun i hi => ?_, fun i hi => ?_⟩, fun q => absurd rfl q, fun q => absurd rfl q⟩
  · have h1 := List.all_eq_true.mp jb_h0a i (List.mem_range.mpr hi)
    rw [Bool.and_eq_true, Bool.and_eq_true] at h1
    rw [Nat.zero_add, Nat.zero_add]
    exact ⟨of_decide_eq_true h1.1.1, of_decide_eq_true h1.1.2⟩
  · have h1 := List.all_eq_true.mp jb_h0a i (List.mem_range.mpr hi)
    rw [Bool.and_eq_true, Bool.and_eq_true] at h1
    rw [Nat.zero_add, Nat.zero_add]
    exact of_decide_eq_true h1.2
  · have h1 := List.all_eq_true.mp jb_h0b i (List.mem_range.mpr hi)
    rw [Nat.zero_add, Nat.zero_add]
    exact of_decide_eq_true h1
theorem js_h0a : (List.range 4).all (fun j => decide ((h0.1 (108 + 2 * j) 1).toInt = -1) && decide ((h0.1 128 j).toInt = -4) && decide (h0.1 (108 + 2 * j) 2 = h0.1 129 j) && (List.range 40).all (fun i => decide (h0.1 (109 + 2 * j) i = h0.1 130 (40 * j + i)))) = true := by decide +kernel
theorem JS_h0 : JS h0 := fun j hj => by
  have h1 := List.all_eq_true.mp js_h0a j (List.mem_range.mpr hj)
  rw [Bool.and_eq_true, Bool.and_eq_true, Bool.and_eq_true] at h1
  exact ⟨Or.inl ⟨of_decide_eq_true h1.1.1.1, of_decide_eq_true h1.1.1.2⟩, of_decide_eq_true h1.1.2, fun i hi => of_decide_eq_true (List.all_eq_true.mp h1.2 i (List.mem_range.mpr hi))⟩
end
section
theorem dl_0 : decode code 0 = .ok (.new 7, 3) := dc_187 (a := 0) (b := 7) (dcc (r := 0) lq_0 rfl (Nat.le_of_ble_eq_true rfl) (by decide +kernel)) rfl
theorem dl_3 : decode code 3 = .ok (.dup, 1) := dc_89 (dcc (r := 3) lq_0 rfl (Nat.le_of_ble_eq_true rfl) (by decide +kernel))
theorem dl_4 : decode code 4 = .ok (.invokespecial 9, 3) := dc_183 (a := 0) (b := 9) (dcc (r := 4) lq_0 rfl (Nat.le_of_ble_eq_true rfl) (by decide +kernel)) rfl
theorem dl_7 : decode code 7 = .ok (.astore_n 1, 1) := dc_76 (dcc (r := 7) lq_0 rfl (Nat.le_of_ble_eq_true rfl) (by decide +kernel))
theorem dl_8 : decode code 8 = .ok (.new 10, 3) := dc_187 (a := 0) (b := 10) (dcc (r := 8) lq_0 rfl (Nat.le_of_ble_eq_true rfl) (by decide +kernel)) rfl
theorem dl_11 : decode code 11 = .ok (.dup, 1) := dc_89 (dcc (r := 11) lq_0 rfl (Nat.le_of_ble_eq_true rfl) (by decide +kernel))
theorem dl_12 : decode code 12 = .ok (.invokespecial 12, 3) := dc_183 (a := 0) (b := 12) (dcc (r := 12) lq_0 rfl (Nat.le_of_ble_eq_true rfl) (by decide +kernel)) rfl
theorem dl_15 : decode code 15 = .ok (.astore_n 2, 1) := dc_77 (dcc (r := 15) lq_0 rfl (Nat.le_of_ble_eq_true rfl) (by decide +kernel))
theorem dl_16 : decode code 16 = .ok (.iconst 0, 1) := dc_3 (dcc (r := 16) lq_0 rfl (Nat.le_of_ble_eq_true rfl) (by decide +kernel))
theorem dl_17 : decode code 17 = .ok (.istore_n 3, 1) := dc_62 (dcc (r := 17) lq_0 rfl (Nat.le_of_ble_eq_true rfl) (by decide +kernel))
theorem cb_Rod_init : CB y_Rod_init b_Rod_init 2 none 0 := ⟨vv_Gin (List.mem_append_right _ (List.mem_append_left _ (List.mem_of_getElem? (i := 25) rfl))) rfl, by decide +kernel, vv_Gin (List.mem_append_right _ (List.mem_append_left _ (List.mem_of_getElem? (i := 1) rfl))) rfl⟩
theorem im_Rod_init : Cond.instanceMethod y_Rod_init ∈ vv_G := vv_Gin (List.mem_append_right _ (List.mem_append_left _ (List.mem_of_getElem? (i := 24) rfl))) rfl
theorem cb_Mod_init : CB y_Mod_init b_Mod_init 2 none 0 := ⟨vv_Gin (List.mem_append_right _ (List.mem_append_right _ (List.mem_append_right _ (List.mem_append_right _ (List.mem_append_left _ (List.mem_of_getElem? (i := 213) rfl)))))) rfl, by decide +kernel, vv_Gin (List.mem_append_right _ (List.mem_append_left _ (List.mem_of_getElem? (i := 13) rfl))) rfl⟩
theorem im_Mod_init : Cond.instanceMethod y_Mod_init ∈ vv_G := vv_Gin (List.mem_append_right _ (List.mem_append_right _ (List.mem_append_right _ (List.mem_append_right _ (List.mem_append_left _ (List.mem_of_getElem? (i := 212) rfl)))))) rfl
theorem wi_Rod : Cond.instantiable R_Rod 11 ∈ vv_G := vv_Gin (List.mem_append_right _ (List.mem_append_left _ (List.mem_of_getElem? (i := 22) (by decide +kernel)))) (by decide +kernel)
theorem wn_Rod : Cond.initialized R_Rod ∈ vv_G := vv_Gin (List.mem_append_right _ (List.mem_append_left _ (List.mem_of_getElem? (i := 1) (by decide +kernel)))) (by decide +kernel)
theorem wi_Mod : Cond.instantiable R_Mod 37 ∈ vv_G := vv_Gin (List.mem_append_right _ (List.mem_append_right _ (List.mem_append_right _ (List.mem_append_right _ (List.mem_append_left _ (List.mem_of_getElem? (i := 210) (by decide +kernel))))))) (by decide +kernel)
theorem wn_Mod : Cond.initialized R_Mod ∈ vv_G := vv_Gin (List.mem_append_right _ (List.mem_append_left _ (List.mem_of_getElem? (i := 13) (by decide +kernel)))) (by decide +kernel)
theorem ck_law_9 : CI R_law 9 y_Rod_init b_Rod_init 2 0 := ⟨cb_Rod_init, rfl, im_Rod_init, Or.inl (vv_Gin (List.mem_append_right _ (List.mem_append_left _ (List.mem_of_getElem? (i := 23) rfl))) rfl)⟩
theorem ck_law_12 : CI R_law 12 y_Mod_init b_Mod_init 2 0 := ⟨cb_Mod_init, rfl, im_Mod_init, Or.inl (vv_Gin (List.mem_append_right _ (List.mem_append_right _ (List.mem_append_right _ (List.mem_append_right _ (List.mem_append_left _ (List.mem_of_getElem? (i := 211) rfl)))))) rfl)⟩
theorem wk_law_R : Cond.classLink R_law 7 R_Rod ∈ vv_G := vv_Gin (List.mem_append_right _ (List.mem_append_left _ (List.mem_of_getElem? (i := 21) (by decide +kernel)))) (by decide +kernel)
theorem wk_law_M : Cond.classLink R_law 10 R_Mod ∈ vv_G := vv_Gin (List.mem_append_right _ (List.mem_append_right _ (List.mem_append_right _ (List.mem_append_right _ (List.mem_append_left _ (List.mem_of_getElem? (i := 209) (by decide +kernel))))))) (by decide +kernel)
theorem wd_law_R : ∀ j, j < 11 → defaultValue (t_Rod j) = vp_V [.null, .null, .null, .null, .null, .null, .null, .null, .null, .null, .int 0] j := by decide
theorem wd_law_M : ∀ j, j < 37 → defaultValue (t_Mod j) = vp_V [.null, .null, .int 0, .int 0, .int 0, .int 0, .null, .int 0, .int 0, .int 0, .int 0, .int 0, .null, .int 0, .null, .int 0, .int 0, .int 0, .int 0, .int 0, .int 0, .int 0, .null, .null, .null, .int 0, .long 0, .null, .int 0, .null, .int 0, .null, .null, .null, .null, .int 0, .null] j := by decide
theorem nd_of : ∀ l : List Nat, l.Nodup → va_nd l = true := by
  intro l
  induction l with
  | nil => intro _; rfl
  | cons a l ih =>
    intro h
    have h2 := List.nodup_cons.mp h
    show (decide (a ∉ l) && va_nd l) = true
    rw [ih h2.2, decide_eq_true h2.1]
    rfl
theorem nd_range (n : Nat) : va_nd (List.range n) = true := nd_of _ List.nodup_range
section LZN
variable {p : Program} {l : Launch} {e : Env} {s : State} {m : MethodId} {args : Array Value} {below : List Frame} {meth : Method} {c : Code} {A : Nat → Prop} {H : Heap} {locs : List Loc} {lsA : Array Slot} {Q : State → Prop}
/-- 'new', 'dup', the constructor: one object more -/
theorem lz_new {D : va_G} {ca : Nat → ClassId} {ws : va_W} {cl sl pc idx idx2 ci N nL' F' L' C' S' : Nat} {Cn : String} {T : u_T} {fs : List Value} {y : MethodName} {cc' : ByteArray} {post : Nat → va_W → Prop} (hx : p.tables.exec = Jvm.exec) (hcc : c.code = code) (hml : c.maxLocals = 4) (hown : s.vm.findClass R_law = some m.cls) (hts : ∀ w ∈ vv_G, w.before args s = true) (hK : va_K D classes (tysC ca) s) (hKw : Kw s) (hA : ∀ q : Nat, s.heap.size ≤ q → A q)
    (ty : Nat → FieldType) (hc : classes[ci]? = some (Cn, T, N)) (hin : ∀ w ∈ u_ws Cn T N, w ∈ vv_G) (hty : ∀ k, k < N → parseFieldDescriptor (T k).2.2.1 = some (ty k)) (hw : Cond.classLink R_law idx Cn ∈ vv_G) (h1 : Cond.instantiable Cn N ∈ vv_G) (h2 : Cond.initialized Cn ∈ vv_G) (hfs : ∀ j, j < N → defaultValue (ty j) = vp_V fs j) (d0 : decode code pc = .ok (.new idx, 3)) (d1 : decode code (pc + 3) = .ok (.dup, 1)) (d2 : decode code (pc + 3 + 1) = .ok (.invokespecial idx2, 3)) (ck : CI R_law idx2 y cc' nL' 0) (ct : ∀ a : Nat, Cu y cc' nL' F' L' C' S' D ca [.ref a] [(a, .inr (ci, fs))] (post a)) (hF : F' + 1 ≤ 13) (hL : 8 + (nL' + 11) + L' ≤ 470) (hCc : cl + 1 + C' ≤ 600000) (hSs : sl + N + S' ≤ 7302250)
    (hP : va_P D classes ws H) (hD : va_D A ws) (hS : va_S A s.heap H locs) (hsz : lsA.size = 4)
    (kk : ∀ (a : Nat) (w1 : va_W) (H1 : Heap) (locs1 : List Loc), post a w1 → va_P D classes (ws ++ w1) H1 → va_D A (ws ++ w1) → va_S A s.heap H1 locs1 → W p l e room_1 s m args below meth c H1 locs1 (cl + 1 + C') (sl + N + S') Q (F0 m (pc + 3 + 1 + 3) lsA [.ref a])) : W p l e room_1 s m args below meth c H locs cl sl Q (F0 m pc lsA []) := by
  obtain ⟨⟨q1, q2, q3⟩, q4, q5, q6⟩ := ck
  refine va_new (D := D) (ci := ci) (fs := fs) hx hcc hts hin ty hty hown (hts _ hw) (hts _ h1) (hts _ h2) hK hP hD hS hA hc hfs (by show cl + 1 ≤ 600000; omega) (by show sl + N ≤ 7302250; omega) d0 (fun a H1 hP1 hD1 hS1 => ?_)
  refine lv_dup hx hcc d1 rfl ?_
  have hPa : va_P D classes [(a, .inr (ci, fs))] H1 := fun k q hk => by
    have h0 : k < 1 := (List.getElem?_eq_some_iff.mp hk).1
    rw [show k = 0 by (first | decide +kernel | with_reducible assumption | omega)] at hk
    cases hk
    exact hP1 ws.length (a, .inr (ci, fs)) (by rw [List.getElem?_append_right (Nat.le_refl _), Nat.sub_self]; rfl)
  have hDa : va_D (fun _ => True) [(a, (.inr (ci, fs) : va_E))] := ⟨fun i j x z hi hj _ => by
      have hi' : i < 1 := (List.getElem?_eq_some_iff.mp hi).1
      have hj' : j < 1 := (List.getElem?_eq_some_iff.mp hj).1
      omega, fun _ _ _ => trivial⟩
  have hpre : FrameBlind (va_Pc [Value.ref a] (fun U => U.heap.size = H1.size ∧ va_P D classes [(a, .inr (ci, fs))] U.heap ∧ va_K D classes (tysC ca) U ∧ va_D (fun _ => True) [(a, .inr (ci, fs))] ∧ Kw U)) ∧ ∀ U : State, U.heap = H1 → s.WarmedH U.vm → va_Pc [Value.ref a] (fun U => U.heap.size = H1.size ∧ va_P D classes [(a, .inr (ci, fs))] U.heap ∧ va_K D classes (tysC ca) U ∧ va_D (fun _ => True) [(a, .inr (ci, fs))] ∧ Kw U) [Value.ref a].toArray U := by
    refine ⟨fun a' U g mk q => ?_, fun U hU hW => ⟨rfl, ?_⟩⟩
    · obtain ⟨q0, q1, qP, qK, qA, qR⟩ := q
      exact ⟨q0, q1, qP, va_K.moved (u := U) (U := U.calling g mk a') (Vm.Alike.refl U.vm) qK, qA, Kw.blind g mk a' qR⟩
    · exact ⟨by rw [hU], by rw [hU]; exact hPa, va_K.moved hW.alike hK, hDa, Kw.to hW hKw⟩
  have q6 : Cond.methodLink R_law idx2 y ∈ vv_G := by
    rcases q6 with q6 | q6
    · exact q6
    · have hn : R_law ∈ kNest.map (fun q => q.1) := List.mem_map_of_mem (f := fun q => q.1) q6
      exact absurd hn (by decide +kernel)
  have hr := va_runI (R := room_1) (e := e) (below := below) (meth := meth) (locs := locs) (cells := cl + 1) (slots := sl + N) (mc := C') (ms := S') (Ts := vv_G) (As := []) (b := a) (n := 0) (rest := [.ref a]) (g := F0 m (pc + 3 + 1) lsA [.ref a, .ref a]) ⟨hx, hcc, hml, hown, hts⟩ (ct a l H1.size) ⟨callB_of 0 hts (vv_good q1) rfl rfl rfl (hts _ q3) (hts _ q6) q2 ⟨hF, hL⟩, q4, hts _ q5⟩ hpre rfl rfl hsz rfl (Nat.le_of_ble_eq_true rfl) d2 ⟨hCc, hSs⟩
  have hC1 : [ws.length].map (fun i => (ws ++ [(a, (.inr (ci, fs) : va_E))])[i]?) = [(a, (.inr (ci, fs) : va_E))].map some := by
    show [(ws ++ [(a, (.inr (ci, fs) : va_E))])[ws.length]?] = _
    rw [List.getElem?_append_right (Nat.le_refl _), Nat.sub_self]
    rfl
  have hR1 : (List.range ws.length).map (fun i => (ws ++ [(a, (.inr (ci, fs) : va_E))])[i]?) = ws.map some := by
    apply List.ext_getElem?
    intro i
    rw [List.getElem?_map, List.getElem?_map]
    by_cases hi : i < ws.length
    · rw [List.getElem?_range hi]
      show some ((ws ++ [(a, (.inr (ci, fs) : va_E))])[i]?) = _
      rw [List.getElem?_append_left hi, List.getElem?_eq_getElem hi]
      rfl
    · rw [List.getElem?_eq_none (by rw [List.length_range]; omega), List.getElem?_eq_none (by (first | decide +kernel | with_reducible assumption | omega))]
      rfl
  have hFc := va_free (wc := [(a, (.inr (ci, fs) : va_E))]) hD1 hS1 hA [ws.length] hC1
  intro T hT Xs
  obtain ⟨v, st₀, t, T', L'', g0, X', gL, e1, e2, ⟨⟨w1, hv, hp, hb, hb2⟩, hz, hk⟩, stp⟩ := hr T hT Xs
  have hv' : v = none := by injection hv
  subst hv'
  rw [g0] at hz hk
  obtain ⟨hPj, hDj⟩ := va_join (wr := ws) (w1 := w1) (H1 := t.heap) hP1 hD1 [ws.length] (List.range ws.length) hC1 hR1 (nd_range ws.length) (fun i hi h => by
    have := List.mem_range.mp hi
    rw [List.mem_singleton.mp h] at this
    omega) hk hFc hb hb2
  have hS' : va_S A s.heap T'.heap (locs ++ L'') := ⟨Nat.le_trans hS1.1 (by rw [e1]; exact hz), fun q h1 h2 => by rw [e1, hk q (Nat.lt_of_lt_of_le h1 hS1.1) (fun z => h2 (hFc q z))]; exact hS1.2.1 q h1 h2, fun q hq => by
      rcases List.mem_append.mp hq with h | h
      · exact hS1.2.2 q h
      · exact hFc _ (gL q h)⟩
  obtain ⟨t2, a1, b1⟩ := kk a w1 T'.heap (locs ++ L'') hp (by rw [e1]; exact hPj) hDj hS' T' rfl X'
  exact ⟨t2, stp t2 a1, b1⟩
end LZN
end
section
def PRod (ca : Nat → ClassId) (a0 : Nat) (w : va_W) : Prop := ∃ (q1 : Nat) (q18 : Nat) (q35 : Nat) (q36 : Nat) (q37 : Nat) (q38 : Nat) (q59 : Nat) (q63 : Nat) (q65 : Nat) (q68 : Nat) (q2 : Nat) (q3 : Nat) (q4 : Nat) (q5 : Nat) (q6 : Nat) (q7 : Nat) (q8 : Nat) (q9 : Nat) (q10 : Nat) (q11 : Nat) (q12 : Nat) (q13 : Nat) (q14 : Nat) (q15 : Nat) (q16 : Nat) (q17 : Nat) (q19 : Nat) (q20 : Nat) (q21 : Nat) (q22 : Nat) (q23 : Nat) (q24 : Nat) (q25 : Nat) (q26 : Nat) (q27 : Nat) (q28 : Nat) (q29 : Nat) (q30 : Nat) (q31 : Nat) (q32 : Nat) (q33 : Nat) (q34 : Nat) (q69 : Nat) (q86 : Nat) (q39 : Nat) (q40 : Nat) (q41 : Nat) (q42 : Nat) (q43 : Nat) (q44 : Nat) (q45 : Nat) (q46 : Nat) (q47 : Nat) (q48 : Nat) (q49 : Nat) (q50 : Nat) (q51 : Nat) (q52 : Nat) (q53 : Nat) (q54 : Nat) (q55 : Nat) (q56 : Nat) (q57 : Nat) (q58 : Nat) (q60 : Nat) (q61 : Nat) (r62 : Nat → Nat) (q64 : Nat) (q66 : Nat) (q67 : Nat) (q103 : Nat) (q105 : Nat) (q107 : Nat) (q109 : Nat) (q70 : Nat) (q71 : Nat) (q72 : Nat) (q73 : Nat) (q74 : Nat) (q75 : Nat) (q76 : Nat) (q77 : Nat) (q78 : Nat) (q79 : Nat) (q80 : Nat) (q81 : Nat) (q82 : Nat) (q83 : Nat) (q84 : Nat) (q85 : Nat) (q87 : Nat) (q88 : Nat) (q89 : Nat) (q90 : Nat) (q91 : Nat) (q92 : Nat) (q93 : Nat) (q94 : Nat) (q95 : Nat) (q96 : Nat) (q97 : Nat) (q98 : Nat) (q99 : Nat) (q100 : Nat) (q101 : Nat) (q102 : Nat) (q104 : Nat) (q106 : Nat) (q108 : Nat) (q110 : Nat), w = [(a0, .inr (10, [.ref q1, .ref q18, .ref q35, .ref q36, .ref q37, .ref q38, .ref q59, .ref q63, .ref q65, .ref q68, .int 0])), (q1, .inr (1, [.ref q2, .ref q3, .ref q4, .int 0, .int 9])), (q4, .inr (7, [.ref q5, .ref q6, .ref q7, .ref q8, .int 0])), (q5, .inl (ca 0, 8, .inl (fun _ => 0))), (q6, .inl (ca 0, 8, .inl (fun _ => 0))), (q7, .inl (ca 0, 8, .inl (fun _ => 0))), (q8, .inl (ca 0, 8, .inl (fun _ => 0))), (q2, .inr (2, [.int 3, .int 3, .int 1, .int 10, .ref q9, .ref q10, .ref q11, .ref q12, .ref q13])), (q9, .inl (ca 0, 16, .inl (fun _ => 0))), (q10, .inl (ca 0, 16, .inl (fun _ => 0))), (q11, .inl (ca 0, 16, .inl (fun _ => 5))), (q12, .inl (ca 0, 16, .inl (fun _ => (-4)))), (q13, .inl (ca 0, 16, .inl (fun _ => 0))), (q3, .inr (3, [.ref q14, .ref q15, .ref q16, .ref q17, .int 0])), (q15, .inl (ca 0, 8, .inl (fun _ => 0))), (q16, .inl (ca 0, 8, .inl (fun _ => 0))), (q17, .inl (ca 0, 8, .inl (fun _ => 0))), (q14, .inl (ca 0, 4, .inl (fun _ => 0))), (q18, .inr (1, [.ref q19, .ref q20, .ref q21, .int 0, .int 9])), (q21, .inr (7, [.ref q22, .ref q23, .ref q24, .ref q25, .int 0])), (q22, .inl (ca 0, 8, .inl (fun _ => 0))), (q23, .inl (ca 0, 8, .inl (fun _ => 0))), (q24, .inl (ca 0, 8, .inl (fun _ => 0))), (q25, .inl (ca 0, 8, .inl (fun _ => 0))), (q19, .inr (2, [.int 3, .int 3, .int 1, .int 10, .ref q26, .ref q27, .ref q28, .ref q29, .ref q30])), (q26, .inl (ca 0, 16, .inl (fun _ => 0))), (q27, .inl (ca 0, 16, .inl (fun _ => 0))), (q28, .inl (ca 0, 16, .inl (fun _ => 5))), (q29, .inl (ca 0, 16, .inl (fun _ => (-4)))), (q30, .inl (ca 0, 16, .inl (fun _ => 0))), (q20, .inr (3, [.ref q31, .ref q32, .ref q33, .ref q34, .int 0])), (q32, .inl (ca 0, 8, .inl (fun _ => 0))), (q33, .inl (ca 0, 8, .inl (fun _ => 0))), (q34, .inl (ca 0, 8, .inl (fun _ => 0))), (q31, .inl (ca 0, 4, .inl (fun _ => 0))), (q35, .inl (ca 3, 2, .inr (.inr (.inr (.inr (va_up (va_up (fun _ => none) 0 (some q69)) 1 (some q86))))))), (q36, .inl (ca 2, 2, .inl (fun _ => 0))), (q37, .inr (5, [.ref q38, .ref q39, .ref q40, .ref q41, .int 0, .int 0, .int 0])), (q38, .inr (8, [.ref q42, .int 0, .int 0, .int 0, .int 0, .int 0])), (q42, .inl (ca 1, 160, .inl (fun _ => 0))), (q39, .inr (1, [.ref q43, .ref q44, .ref q45, .int 0, .int 9])), (q45, .inr (7, [.ref q46, .ref q47, .ref q48, .ref q49, .int 0])), (q46, .inl (ca 0, 8, .inl (fun _ => 0))), (q47, .inl (ca 0, 8, .inl (fun _ => 0))), (q48, .inl (ca 0, 8, .inl (fun _ => 0))), (q49, .inl (ca 0, 8, .inl (fun _ => 0))), (q43, .inr (2, [.int 3, .int 3, .int 1, .int 10, .ref q50, .ref q51, .ref q52, .ref q53, .ref q54])), (q50, .inl (ca 0, 16, .inl (fun _ => 0))), (q51, .inl (ca 0, 16, .inl (fun _ => 0))), (q52, .inl (ca 0, 16, .inl (fun _ => 5))), (q53, .inl (ca 0, 16, .inl (fun _ => (-4)))), (q54, .inl (ca 0, 16, .inl (fun _ => 0))), (q44, .inr (3, [.ref q55, .ref q56, .ref q57, .ref q58, .int 0])), (q56, .inl (ca 0, 8, .inl (fun _ => 0))), (q57, .inl (ca 0, 8, .inl (fun _ => 0))), (q58, .inl (ca 0, 8, .inl (fun _ => 0))), (q55, .inl (ca 0, 4, .inl (fun _ => 0))), (q40, .inl (ca 0, 3, .inl (fun _ => 0))), (q41, .inl (ca 0, 10, .inl (fun _ => 0))), (q59, .inr (9, [.ref q60, .ref q61])), (q60, .inl (ca 5, 6, .inr (.inr (.inr (.inr (fun i => if i < 6 then some (r62 i) else none)))))), ((r62 0), .inl (ca 0, 16, .inl (fun _ => 0))), ((r62 1), .inl (ca 0, 16, .inl (fun _ => 0))), ((r62 2), .inl (ca 0, 16, .inl (fun _ => 0))), ((r62 3), .inl (ca 0, 16, .inl (fun _ => 0))), ((r62 4), .inl (ca 0, 16, .inl (fun _ => 0))), ((r62 5), .inl (ca 0, 16, .inl (fun _ => 0))), (q61, .inl (ca 0, 6, .inl (fun _ => 0))), (q63, .inr (4, [.ref q64, .int 0, .int 0])), (q64, .inl (ca 0, 4, .inl (fun _ => 0))), (q65, .inr (0, [.ref q66, .int 0, .ref q67, .int 0, .int 0, .int 0, .int 0, .int 0])), (q66, .inl (ca 0, 48, .inl (fun _ => 0))), (q67, .inl (ca 0, 10, .inl (fun _ => 0))), (q68, .inl (ca 4, 4, .inr (.inr (.inr (.inr (va_up (va_up (va_up (va_up (fun _ => none) 0 (some q103)) 1 (some q105)) 2 (some q107)) 3 (some q109))))))), (q69, .inr (1, [.ref q70, .ref q71, .ref q72, .int 0, .int 9])), (q72, .inr (7, [.ref q73, .ref q74, .ref q75, .ref q76, .int 0])), (q73, .inl (ca 0, 8, .inl (fun _ => 0))), (q74, .inl (ca 0, 8, .inl (fun _ => 0))), (q75, .inl (ca 0, 8, .inl (fun _ => 0))), (q76, .inl (ca 0, 8, .inl (fun _ => 0))), (q70, .inr (2, [.int 3, .int 3, .int 1, .int 10, .ref q77, .ref q78, .ref q79, .ref q80, .ref q81])), (q77, .inl (ca 0, 16, .inl (fun _ => 0))), (q78, .inl (ca 0, 16, .inl (fun _ => 0))), (q79, .inl (ca 0, 16, .inl (fun _ => 5))), (q80, .inl (ca 0, 16, .inl (fun _ => (-4)))), (q81, .inl (ca 0, 16, .inl (fun _ => 0))), (q71, .inr (3, [.ref q82, .ref q83, .ref q84, .ref q85, .int 0])), (q83, .inl (ca 0, 8, .inl (fun _ => 0))), (q84, .inl (ca 0, 8, .inl (fun _ => 0))), (q85, .inl (ca 0, 8, .inl (fun _ => 0))), (q82, .inl (ca 0, 4, .inl (fun _ => 0))), (q86, .inr (1, [.ref q87, .ref q88, .ref q89, .int 0, .int 9])), (q89, .inr (7, [.ref q90, .ref q91, .ref q92, .ref q93, .int 0])), (q90, .inl (ca 0, 8, .inl (fun _ => 0))), (q91, .inl (ca 0, 8, .inl (fun _ => 0))), (q92, .inl (ca 0, 8, .inl (fun _ => 0))), (q93, .inl (ca 0, 8, .inl (fun _ => 0))), (q87, .inr (2, [.int 3, .int 3, .int 1, .int 10, .ref q94, .ref q95, .ref q96, .ref q97, .ref q98])), (q94, .inl (ca 0, 16, .inl (fun _ => 0))), (q95, .inl (ca 0, 16, .inl (fun _ => 0))), (q96, .inl (ca 0, 16, .inl (fun _ => 5))), (q97, .inl (ca 0, 16, .inl (fun _ => (-4)))), (q98, .inl (ca 0, 16, .inl (fun _ => 0))), (q88, .inr (3, [.ref q99, .ref q100, .ref q101, .ref q102, .int 0])), (q100, .inl (ca 0, 8, .inl (fun _ => 0))), (q101, .inl (ca 0, 8, .inl (fun _ => 0))), (q102, .inl (ca 0, 8, .inl (fun _ => 0))), (q99, .inl (ca 0, 4, .inl (fun _ => 0))), (q103, .inr (6, [.ref q104, .int (-1), .int 0])), (q104, .inl (ca 0, 40, .inl (fun _ => 0))), (q105, .inr (6, [.ref q106, .int (-1), .int 0])), (q106, .inl (ca 0, 40, .inl (fun _ => 0))), (q107, .inr (6, [.ref q108, .int (-1), .int 0])), (q108, .inl (ca 0, 40, .inl (fun _ => 0))), (q109, .inr (6, [.ref q110, .int (-1), .int 0])), (q110, .inl (ca 0, 40, .inl (fun _ => 0)))]
def PMod (ca : Nat → ClassId) (a0 : Nat) (w : va_W) : Prop := ∃ (q1 : Nat) (q2 : Nat) (q3 : Nat) (q4 : Nat) (q5 : Nat) (q6 : Nat) (q7 : Nat) (q8 : Nat) (q9 : Nat) (q10 : Nat) (q11 : Nat) (q12 : Nat) (q13 : Nat) (q14 : Nat) (q15 : Nat), w = [(a0, .inr (11, [.ref q1, .ref q2, .int 3, .int 3, .int 1, .int 10, .ref q3, .int 3, .int 3, .int 1, .int 10, .int 0, .ref q4, .int (-4), .ref q5, .int 0, .int 0, .int 0, .int 0, .int 0, .int 0, .int 0, .ref q6, .ref q7, .ref q8, .int 0, .long 0, .ref q9, .int 0, .ref q10, .int 0, .ref q11, .ref q12, .ref q13, .ref q14, .int 0, .ref q15])), (q1, .inl (ca 0, 432, .inl (fun i => if i < 144 then dr0 i else 0))), (q2, .inl (ca 2, 2, .inl (fun _ => 0))), (q3, .inl (ca 0, 144, .inl dr0)), (q4, .inl (ca 0, 6, .inl (fun _ => 0))), (q5, .inl (ca 0, 160, .inl (fun _ => 0))), (q6, .inl (ca 0, 128, .inl (fun _ => 0))), (q7, .inl (ca 0, 4, .inl (fun _ => 0))), (q8, .inl (ca 0, 4, .inl (fun _ => 0))), (q9, .inl (ca 0, 48, .inl (fun _ => 0))), (q10, .inl (ca 0, 4, .inl (fun _ => 0))), (q11, .inl (ca 0, 16, .inl (fun _ => 0))), (q12, .inl (ca 0, 4, .inl (fun _ => -4))), (q13, .inl (ca 0, 4, .inl (fun _ => 0))), (q14, .inl (ca 0, 160, .inl (fun _ => 0))), (q15, .inl (ca 0, 20, .inl (fun _ => 0)))]
theorem st_fin1 (ca : Nat → ClassId) (ro : Nat → Nat) (b a0 m0 : Nat) (q1 : Nat) (q18 : Nat) (q35 : Nat) (q36 : Nat) (q37 : Nat) (q38 : Nat) (q59 : Nat) (q63 : Nat) (q65 : Nat) (q68 : Nat) (q2 : Nat) (q3 : Nat) (q4 : Nat) (q5 : Nat) (q6 : Nat) (q7 : Nat) (q8 : Nat) (q9 : Nat) (q10 : Nat) (q11 : Nat) (q12 : Nat) (q13 : Nat) (q14 : Nat) (q15 : Nat) (q16 : Nat) (q17 : Nat) (q19 : Nat) (q20 : Nat) (q21 : Nat) (q22 : Nat) (q23 : Nat) (q24 : Nat) (q25 : Nat) (q26 : Nat) (q27 : Nat) (q28 : Nat) (q29 : Nat) (q30 : Nat) (q31 : Nat) (q32 : Nat) (q33 : Nat) (q34 : Nat) (q69 : Nat) (q86 : Nat) (q39 : Nat) (q40 : Nat) (q41 : Nat) (q42 : Nat) (q43 : Nat) (q44 : Nat) (q45 : Nat) (q46 : Nat) (q47 : Nat) (q48 : Nat) (q49 : Nat) (q50 : Nat) (q51 : Nat) (q52 : Nat) (q53 : Nat) (q54 : Nat) (q55 : Nat) (q56 : Nat) (q57 : Nat) (q58 : Nat) (q60 : Nat) (q61 : Nat) (r62 : Nat → Nat) (q64 : Nat) (q66 : Nat) (q67 : Nat) (q103 : Nat) (q105 : Nat) (q107 : Nat) (q109 : Nat) (q70 : Nat) (q71 : Nat) (q72 : Nat) (q73 : Nat) (q74 : Nat) (q75 : Nat) (q76 : Nat) (q77 : Nat) (q78 : Nat) (q79 : Nat) (q80 : Nat) (q81 : Nat) (q82 : Nat) (q83 : Nat) (q84 : Nat) (q85 : Nat) (q87 : Nat) (q88 : Nat) (q89 : Nat) (q90 : Nat) (q91 : Nat) (q92 : Nat) (q93 : Nat) (q94 : Nat) (q95 : Nat) (q96 : Nat) (q97 : Nat) (q98 : Nat) (q99 : Nat) (q100 : Nat) (q101 : Nat) (q102 : Nat) (q104 : Nat) (q106 : Nat) (q108 : Nat) (q110 : Nat) (n1 : Nat) (n2 : Nat) (n3 : Nat) (n4 : Nat) (n5 : Nat) (n6 : Nat) (n7 : Nat) (n8 : Nat) (n9 : Nat) (n10 : Nat) (n11 : Nat) (n12 : Nat) (n13 : Nat) (n14 : Nat) (n15 : Nat) (w1 w2 : va_W) (e1 : w1 = [(a0, .inr (10, [.ref q1, .ref q18, .ref q35, .ref q36, .ref q37, .ref q38, .ref q59, .ref q63, .ref q65, .ref q68, .int 0])), (q1, .inr (1, [.ref q2, .ref q3, .ref q4, .int 0, .int 9])), (q4, .inr (7, [.ref q5, .ref q6, .ref q7, .ref q8, .int 0])), (q5, .inl (ca 0, 8, .inl (fun _ => 0))), (q6, .inl (ca 0, 8, .inl (fun _ => 0))), (q7, .inl (ca 0, 8, .inl (fun _ => 0))), (q8, .inl (ca 0, 8, .inl (fun _ => 0))), (q2, .inr (2, [.int 3, .int 3, .int 1, .int 10, .ref q9, .ref q10, .ref q11, .ref q12, .ref q13])), (q9, .inl (ca 0, 16, .inl (fun _ => 0))), (q10, .inl (ca 0, 16, .inl (fun _ => 0))), (q11, .inl (ca 0, 16, .inl (fun _ => 5))), (q12, .inl (ca 0, 16, .inl (fun _ => (-4)))), (q13, .inl (ca 0, 16, .inl (fun _ => 0))), (q3, .inr (3, [.ref q14, .ref q15, .ref q16, .ref q17, .int 0])), (q15, .inl (ca 0, 8, .inl (fun _ => 0))), (q16, .inl (ca 0, 8, .inl (fun _ => 0))), (q17, .inl (ca 0, 8, .inl (fun _ => 0))), (q14, .inl (ca 0, 4, .inl (fun _ => 0))), (q18, .inr (1, [.ref q19, .ref q20, .ref q21, .int 0, .int 9])), (q21, .inr (7, [.ref q22, .ref q23, .ref q24, .ref q25, .int 0])), (q22, .inl (ca 0, 8, .inl (fun _ => 0))), (q23, .inl (ca 0, 8, .inl (fun _ => 0))), (q24, .inl (ca 0, 8, .inl (fun _ => 0))), (q25, .inl (ca 0, 8, .inl (fun _ => 0))), (q19, .inr (2, [.int 3, .int 3, .int 1, .int 10, .ref q26, .ref q27, .ref q28, .ref q29, .ref q30])), (q26, .inl (ca 0, 16, .inl (fun _ => 0))), (q27, .inl (ca 0, 16, .inl (fun _ => 0))), (q28, .inl (ca 0, 16, .inl (fun _ => 5))), (q29, .inl (ca 0, 16, .inl (fun _ => (-4)))), (q30, .inl (ca 0, 16, .inl (fun _ => 0))), (q20, .inr (3, [.ref q31, .ref q32, .ref q33, .ref q34, .int 0])), (q32, .inl (ca 0, 8, .inl (fun _ => 0))), (q33, .inl (ca 0, 8, .inl (fun _ => 0))), (q34, .inl (ca 0, 8, .inl (fun _ => 0))), (q31, .inl (ca 0, 4, .inl (fun _ => 0))), (q35, .inl (ca 3, 2, .inr (.inr (.inr (.inr (va_up (va_up (fun _ => none) 0 (some q69)) 1 (some q86))))))), (q36, .inl (ca 2, 2, .inl (fun _ => 0))), (q37, .inr (5, [.ref q38, .ref q39, .ref q40, .ref q41, .int 0, .int 0, .int 0])), (q38, .inr (8, [.ref q42, .int 0, .int 0, .int 0, .int 0, .int 0])), (q42, .inl (ca 1, 160, .inl (fun _ => 0))), (q39, .inr (1, [.ref q43, .ref q44, .ref q45, .int 0, .int 9])), (q45, .inr (7, [.ref q46, .ref q47, .ref q48, .ref q49, .int 0])), (q46, .inl (ca 0, 8, .inl (fun _ => 0))), (q47, .inl (ca 0, 8, .inl (fun _ => 0))), (q48, .inl (ca 0, 8, .inl (fun _ => 0))), (q49, .inl (ca 0, 8, .inl (fun _ => 0))), (q43, .inr (2, [.int 3, .int 3, .int 1, .int 10, .ref q50, .ref q51, .ref q52, .ref q53, .ref q54])), (q50, .inl (ca 0, 16, .inl (fun _ => 0))), (q51, .inl (ca 0, 16, .inl (fun _ => 0))), (q52, .inl (ca 0, 16, .inl (fun _ => 5))), (q53, .inl (ca 0, 16, .inl (fun _ => (-4)))), (q54, .inl (ca 0, 16, .inl (fun _ => 0))), (q44, .inr (3, [.ref q55, .ref q56, .ref q57, .ref q58, .int 0])), (q56, .inl (ca 0, 8, .inl (fun _ => 0))), (q57, .inl (ca 0, 8, .inl (fun _ => 0))), (q58, .inl (ca 0, 8, .inl (fun _ => 0))), (q55, .inl (ca 0, 4, .inl (fun _ => 0))), (q40, .inl (ca 0, 3, .inl (fun _ => 0))), (q41, .inl (ca 0, 10, .inl (fun _ => 0))), (q59, .inr (9, [.ref q60, .ref q61])), (q60, .inl (ca 5, 6, .inr (.inr (.inr (.inr (fun i => if i < 6 then some (r62 i) else none)))))), ((r62 0), .inl (ca 0, 16, .inl (fun _ => 0))), ((r62 1), .inl (ca 0, 16, .inl (fun _ => 0))), ((r62 2), .inl (ca 0, 16, .inl (fun _ => 0))), ((r62 3), .inl (ca 0, 16, .inl (fun _ => 0))), ((r62 4), .inl (ca 0, 16, .inl (fun _ => 0))), ((r62 5), .inl (ca 0, 16, .inl (fun _ => 0))), (q61, .inl (ca 0, 6, .inl (fun _ => 0))), (q63, .inr (4, [.ref q64, .int 0, .int 0])), (q64, .inl (ca 0, 4, .inl (fun _ => 0))), (q65, .inr (0, [.ref q66, .int 0, .ref q67, .int 0, .int 0, .int 0, .int 0, .int 0])), (q66, .inl (ca 0, 48, .inl (fun _ => 0))), (q67, .inl (ca 0, 10, .inl (fun _ => 0))), (q68, .inl (ca 4, 4, .inr (.inr (.inr (.inr (va_up (va_up (va_up (va_up (fun _ => none) 0 (some q103)) 1 (some q105)) 2 (some q107)) 3 (some q109))))))), (q69, .inr (1, [.ref q70, .ref q71, .ref q72, .int 0, .int 9])), (q72, .inr (7, [.ref q73, .ref q74, .ref q75, .ref q76, .int 0])), (q73, .inl (ca 0, 8, .inl (fun _ => 0))), (q74, .inl (ca 0, 8, .inl (fun _ => 0))), (q75, .inl (ca 0, 8, .inl (fun _ => 0))), (q76, .inl (ca 0, 8, .inl (fun _ => 0))), (q70, .inr (2, [.int 3, .int 3, .int 1, .int 10, .ref q77, .ref q78, .ref q79, .ref q80, .ref q81])), (q77, .inl (ca 0, 16, .inl (fun _ => 0))), (q78, .inl (ca 0, 16, .inl (fun _ => 0))), (q79, .inl (ca 0, 16, .inl (fun _ => 5))), (q80, .inl (ca 0, 16, .inl (fun _ => (-4)))), (q81, .inl (ca 0, 16, .inl (fun _ => 0))), (q71, .inr (3, [.ref q82, .ref q83, .ref q84, .ref q85, .int 0])), (q83, .inl (ca 0, 8, .inl (fun _ => 0))), (q84, .inl (ca 0, 8, .inl (fun _ => 0))), (q85, .inl (ca 0, 8, .inl (fun _ => 0))), (q82, .inl (ca 0, 4, .inl (fun _ => 0))), (q86, .inr (1, [.ref q87, .ref q88, .ref q89, .int 0, .int 9])), (q89, .inr (7, [.ref q90, .ref q91, .ref q92, .ref q93, .int 0])), (q90, .inl (ca 0, 8, .inl (fun _ => 0))), (q91, .inl (ca 0, 8, .inl (fun _ => 0))), (q92, .inl (ca 0, 8, .inl (fun _ => 0))), (q93, .inl (ca 0, 8, .inl (fun _ => 0))), (q87, .inr (2, [.int 3, .int 3, .int 1, .int 10, .ref q94, .ref q95, .ref q96, .ref q97, .ref q98])), (q94, .inl (ca 0, 16, .inl (fun _ => 0))), (q95, .inl (ca 0, 16, .inl (fun _ => 0))), (q96, .inl (ca 0, 16, .inl (fun _ => 5))), (q97, .inl (ca 0, 16, .inl (fun _ => (-4)))), (q98, .inl (ca 0, 16, .inl (fun _ => 0))), (q88, .inr (3, [.ref q99, .ref q100, .ref q101, .ref q102, .int 0])), (q100, .inl (ca 0, 8, .inl (fun _ => 0))), (q101, .inl (ca 0, 8, .inl (fun _ => 0))), (q102, .inl (ca 0, 8, .inl (fun _ => 0))), (q99, .inl (ca 0, 4, .inl (fun _ => 0))), (q103, .inr (6, [.ref q104, .int (-1), .int 0])), (q104, .inl (ca 0, 40, .inl (fun _ => 0))), (q105, .inr (6, [.ref q106, .int (-1), .int 0])), (q106, .inl (ca 0, 40, .inl (fun _ => 0))), (q107, .inr (6, [.ref q108, .int (-1), .int 0])), (q108, .inl (ca 0, 40, .inl (fun _ => 0))), (q109, .inr (6, [.ref q110, .int (-1), .int 0])), (q110, .inl (ca 0, 40, .inl (fun _ => 0)))]) (e2 : w2 = [(m0, .inr (11, [.ref n1, .ref n2, .int 3, .int 3, .int 1, .int 10, .ref n3, .int 3, .int 3, .int 1, .int 10, .int 0, .ref n4, .int (-4), .ref n5, .int 0, .int 0, .int 0, .int 0, .int 0, .int 0, .int 0, .ref n6, .ref n7, .ref n8, .int 0, .long 0, .ref n9, .int 0, .ref n10, .int 0, .ref n11, .ref n12, .ref n13, .ref n14, .int 0, .ref n15])), (n1, .inl (ca 0, 432, .inl (fun i => if i < 144 then dr0 i else 0))), (n2, .inl (ca 2, 2, .inl (fun _ => 0))), (n3, .inl (ca 0, 144, .inl dr0)), (n4, .inl (ca 0, 6, .inl (fun _ => 0))), (n5, .inl (ca 0, 160, .inl (fun _ => 0))), (n6, .inl (ca 0, 128, .inl (fun _ => 0))), (n7, .inl (ca 0, 4, .inl (fun _ => 0))), (n8, .inl (ca 0, 4, .inl (fun _ => 0))), (n9, .inl (ca 0, 48, .inl (fun _ => 0))), (n10, .inl (ca 0, 4, .inl (fun _ => 0))), (n11, .inl (ca 0, 16, .inl (fun _ => 0))), (n12, .inl (ca 0, 4, .inl (fun _ => -4))), (n13, .inl (ca 0, 4, .inl (fun _ => 0))), (n14, .inl (ca 0, 160, .inl (fun _ => 0))), (n15, .inl (ca 0, 20, .inl (fun _ => 0)))]) : ∃ v : Nat → Nat, v 85 = a0 ∧ v 116 = m0 ∧ v 200 = b ∧ (∀ k, 132 ≤ k → k < 164 → v k = ro k) ∧ w1 ++ w2 = WD ca v := by
  refine ⟨(adOf [q1, q2, q9, q10, q11, q12, q13, q3, q14, q15, q16, q17, q4, q5, q6, q7, q8, q18, q19, q26, q27, q28, q29, q30, q20, q31, q32, q33, q34, q21, q22, q23, q24, q25, q69, q70, q77, q78, q79, q80, q81, q71, q82, q83, q84, q85, q72, q73, q74, q75, q76, q86, q87, q94, q95, q96, q97, q98, q88, q99, q100, q101, q102, q89, q90, q91, q92, q93, q39, q43, q50, q51, q52, q53, q54, q44, q55, q56, q57, q58, q45, q46, q47, q48, q49, a0, q35, q36, q37, q38, q42, q40, q41, q59, q60, (r62 0), (r62 1), (r62 2), (r62 3), (r62 4), (r62 5), q61, q63, q64, q65, q66, q67, q68, q103, q104, q105, q106, q107, q108, q109, q110, m0, n1, n2, n3, n4, n5, n6, n7, n8, n9, n10, n11, n12, n13, n14, n15] ro b), ?_, ?_, ?_, fun k g1 g2 => ?_, ?_⟩
  · exact rfl
  · exact rfl
  · exact rfl
  · show (if k < 132 then _ else if k = 200 then b else ro k) = ro k
    rw [if_neg (by (first | decide +kernel | with_reducible assumption | omega)), if_neg (by (first | decide +kernel | with_reducible assumption | omega))]
  · rw [e1, e2, st_rodw ca ro b a0 m0 q1 q18 q35 q36 q37 q38 q59 q63 q65 q68 q2 q3 q4 q5 q6 q7 q8 q9 q10 q11 q12 q13 q14 q15 q16 q17 q19 q20 q21 q22 q23 q24 q25 q26 q27 q28 q29 q30 q31 q32 q33 q34 q69 q86 q39 q40 q41 q42 q43 q44 q45 q46 q47 q48 q49 q50 q51 q52 q53 q54 q55 q56 q57 q58 q60 q61 r62 q64 q66 q67 q103 q105 q107 q109 q70 q71 q72 q73 q74 q75 q76 q77 q78 q79 q80 q81 q82 q83 q84 q85 q87 q88 q89 q90 q91 q92 q93 q94 q95 q96 q97 q98 q99 q100 q101 q102 q104 q106 q108 q110 n1 n2 n3 n4 n5 n6 n7 n8 n9 n10 n11 n12 n13 n14 n15]
    exact st_wd ca ro b a0 m0 q1 q18 q35 q36 q37 q38 q59 q63 q65 q68 q2 q3 q4 q5 q6 q7 q8 q9 q10 q11 q12 q13 q14 q15 q16 q17 q19 q20 q21 q22 q23 q24 q25 q26 q27 q28 q29 q30 q31 q32 q33 q34 q69 q86 q39 q40 q41 q42 q43 q44 q45 q46 q47 q48 q49 q50 q51 q52 q53 q54 q55 q56 q57 q58 q60 q61 r62 q64 q66 q67 q103 q105 q107 q109 q70 q71 q72 q73 q74 q75 q76 q77 q78 q79 q80 q81 q82 q83 q84 q85 q87 q88 q89 q90 q91 q92 q93 q94 q95 q96 q97 q98 q99 q100 q101 q102 q104 q106 q108 q110 n1 n2 n3 n4 n5 n6 n7 n8 n9 n10 n11 n12 n13 n14 n15
theorem st_fin (ca : Nat → ClassId) (ro : Nat → Nat) (b a0 m0 : Nat) (w1 w2 : va_W) (h1 : PRod ca a0 w1) (h2 : PMod ca m0 w2) : ∃ v : Nat → Nat, v 85 = a0 ∧ v 116 = m0 ∧ v 200 = b ∧ (∀ k, 132 ≤ k → k < 164 → v k = ro k) ∧ w1 ++ w2 = WD ca v :=
  Exists.elim h1 fun q1 h1 => Exists.elim h1 fun q18 h1 => Exists.elim h1 fun q35 h1 => Exists.elim h1 fun q36 h1 => Exists.elim h1 fun q37 h1 => Exists.elim h1 fun q38 h1 => Exists.elim h1 fun q59 h1 => Exists.elim h1 fun q63 h1 => Exists.elim h1 fun q65 h1 => Exists.elim h1 fun q68 h1 => Exists.elim h1 fun q2 h1 => Exists.elim h1 fun q3 h1 => Exists.elim h1 fun q4 h1 => Exists.elim h1 fun q5 h1 => Exists.elim h1 fun q6 h1 => Exists.elim h1 fun q7 h1 => Exists.elim h1 fun q8 h1 => Exists.elim h1 fun q9 h1 => Exists.elim h1 fun q10 h1 => Exists.elim h1 fun q11 h1 => Exists.elim h1 fun q12 h1 => Exists.elim h1 fun q13 h1 => Exists.elim h1 fun q14 h1 => Exists.elim h1 fun q15 h1 => Exists.elim h1 fun q16 h1 => Exists.elim h1 fun q17 h1 => Exists.elim h1 fun q19 h1 => Exists.elim h1 fun q20 h1 => Exists.elim h1 fun q21 h1 => Exists.elim h1 fun q22 h1 => Exists.elim h1 fun q23 h1 => Exists.elim h1 fun q24 h1 => Exists.elim h1 fun q25 h1 => Exists.elim h1 fun q26 h1 => Exists.elim h1 fun q27 h1 => Exists.elim h1 fun q28 h1 => Exists.elim h1 fun q29 h1 => Exists.elim h1 fun q30 h1 => Exists.elim h1 fun q31 h1 => Exists.elim h1 fun q32 h1 => Exists.elim h1 fun q33 h1 => Exists.elim h1 fun q34 h1 => Exists.elim h1 fun q69 h1 => Exists.elim h1 fun q86 h1 => Exists.elim h1 fun q39 h1 => Exists.elim h1 fun q40 h1 => Exists.elim h1 fun q41 h1 => Exists.elim h1 fun q42 h1 => Exists.elim h1 fun q43 h1 => Exists.elim h1 fun q44 h1 => Exists.elim h1 fun q45 h1 => Exists.elim h1 fun q46 h1 => Exists.elim h1 fun q47 h1 => Exists.elim h1 fun q48 h1 => Exists.elim h1 fun q49 h1 => Exists.elim h1 fun q50 h1 => Exists.elim h1 fun q51 h1 => Exists.elim h1 fun q52 h1 => Exists.elim h1 fun q53 h1 => Exists.elim h1 fun q54 h1 => Exists.elim h1 fun q55 h1 => Exists.elim h1 fun q56 h1 => Exists.elim h1 fun q57 h1 => Exists.elim h1 fun q58 h1 => Exists.elim h1 fun q60 h1 => Exists.elim h1 fun q61 h1 => Exists.elim h1 fun r62 h1 => Exists.elim h1 fun q64 h1 => Exists.elim h1 fun q66 h1 => Exists.elim h1 fun q67 h1 => Exists.elim h1 fun q103 h1 => Exists.elim h1 fun q105 h1 => Exists.elim h1 fun q107 h1 => Exists.elim h1 fun q109 h1 => Exists.elim h1 fun q70 h1 => Exists.elim h1 fun q71 h1 => Exists.elim h1 fun q72 h1 => Exists.elim h1 fun q73 h1 => Exists.elim h1 fun q74 h1 => Exists.elim h1 fun q75 h1 => Exists.elim h1 fun q76 h1 => Exists.elim h1 fun q77 h1 => Exists.elim h1 fun q78 h1 => Exists.elim h1 fun q79 h1 => Exists.elim h1 fun q80 h1 => Exists.elim h1 fun q81 h1 => Exists.elim h1 fun q82 h1 => Exists.elim h1 fun q83 h1 => Exists.elim h1 fun q84 h1 => Exists.elim h1 fun q85 h1 => Exists.elim h1 fun q87 h1 => Exists.elim h1 fun q88 h1 => Exists.elim h1 fun q89 h1 => Exists.elim h1 fun q90 h1 => Exists.elim h1 fun q91 h1 => Exists.elim h1 fun q92 h1 => Exists.elim h1 fun q93 h1 => Exists.elim h1 fun q94 h1 => Exists.elim h1 fun q95 h1 => Exists.elim h1 fun q96 h1 => Exists.elim h1 fun q97 h1 => Exists.elim h1 fun q98 h1 => Exists.elim h1 fun q99 h1 => Exists.elim h1 fun q100 h1 => Exists.elim h1 fun q101 h1 => Exists.elim h1 fun q102 h1 => Exists.elim h1 fun q104 h1 => Exists.elim h1 fun q106 h1 => Exists.elim h1 fun q108 h1 => Exists.elim h1 fun q110 h1 => Exists.elim h2 fun n1 h2 => Exists.elim h2 fun n2 h2 => Exists.elim h2 fun n3 h2 => Exists.elim h2 fun n4 h2 => Exists.elim h2 fun n5 h2 => Exists.elim h2 fun n6 h2 => Exists.elim h2 fun n7 h2 => Exists.elim h2 fun n8 h2 => Exists.elim h2 fun n9 h2 => Exists.elim h2 fun n10 h2 => Exists.elim h2 fun n11 h2 => Exists.elim h2 fun n12 h2 => Exists.elim h2 fun n13 h2 => Exists.elim h2 fun n14 h2 => Exists.elim h2 fun n15 h2 => st_fin1 ca ro b a0 m0 q1 q18 q35 q36 q37 q38 q59 q63 q65 q68 q2 q3 q4 q5 q6 q7 q8 q9 q10 q11 q12 q13 q14 q15 q16 q17 q19 q20 q21 q22 q23 q24 q25 q26 q27 q28 q29 q30 q31 q32 q33 q34 q69 q86 q39 q40 q41 q42 q43 q44 q45 q46 q47 q48 q49 q50 q51 q52 q53 q54 q55 q56 q57 q58 q60 q61 r62 q64 q66 q67 q103 q105 q107 q109 q70 q71 q72 q73 q74 q75 q76 q77 q78 q79 q80 q81 q82 q83 q84 q85 q87 q88 q89 q90 q91 q92 q93 q94 q95 q96 q97 q98 q99 q100 q101 q102 q104 q106 q108 q110 n1 n2 n3 n4 n5 n6 n7 n8 n9 n10 n11 n12 n13 n14 n15 w1 w2 h1 h2
end
section
theorem whole_start {p : Program} {e : Env} {s : State} {m : MethodId} {below : List Frame} {meth : Method} {c : Code} (l : Launch) {b L : Nat} {xs : Nat → Int32} (hL : L ≤ 320) (C0 : lw_At p s m meth c b L xs) : W p l e room_1 s m #[Value.ref b] below meth c s.heap [] 0 0 (lw_Z below #[Value.ref b] s) (entryFrame m ([Value.ref b] : List Value).toArray 4) := by
  obtain ⟨hx, hcc, hret, hml, hown, htb, hX, hbl, hlocks, hgv⟩ := C0
  have hts : ∀ w ∈ vv_G, w.before #[Value.ref b] s = true := fun w hw => htb w (List.mem_filter.mp hw).1
  obtain ⟨D, hD0⟩ := st_D hts
  obtain ⟨ca, hca⟩ := st_ca htb
  have hK : va_K D classes (tysC ca) s := ⟨hD0, hca⟩
  have hKw : Kw s := st_Kw htb
  obtain ⟨ro, hRo⟩ := st_Ro (A := fun q => s.heap.size ≤ q) htb hgv (fun a h1 h2 => absurd h1 (Nat.not_lt.mpr h2))
  have hA : ∀ q : Nat, s.heap.size ≤ q → (fun q => s.heap.size ≤ q) q := fun q h => h
  have hl := lv_entry [Value.ref b] (n := 4) (Nat.le_of_ble_eq_true rfl)
  rw [lg_entry_eq]
  generalize (lg_sl [Value.ref b] ++ List.replicate (4 - (lg_sl [Value.ref b]).length) Slot.unset).toArray = lsA at hl ⊢
  have hl1 : lh (fun k => k) lsA 4 [some (.ref b), none, none, none] := ⟨hl.1, hl.2.1, fun i v hi => by
    match i, hi with
    | 0, hi => cases hi; exact hl.2.2 (0, .ref b) List.mem_cons_self
    | 1, hi => cases hi
    | 2, hi => cases hi
    | 3, hi => cases hi
    | _ + 4, hi => cases hi⟩
  refine lz_new (A := fun q => s.heap.size ≤ q) (ws := []) (cl := 0) (sl := 0) (pc := 0) (post := fun a w => PRod ca a w) hx hcc hml hown hts hK hKw hA t_Rod rfl i_Rod t_Rod_ok wk_law_R wi_Rod wn_Rod wd_law_R dl_0 dl_3 dl_4 ck_law_9 (fun a => k_Rod_init D ca a) (by decide) (by decide) (by decide) (by decide) (fun k q hk => by rw [List.getElem?_nil] at hk; cases hk) ⟨fun i j p q hi => (by rw [List.getElem?_nil] at hi; cases hi), fun k q hk => (by rw [List.getElem?_nil] at hk; cases hk)⟩ va_S.rf hl1.1 (fun a0 w1 H1 locs1 hp1 hP1 hD1 hS1 => ?_)
  rw [List.nil_append] at hP1 hD1
  refine lv_astore_n hx hcc dl_7 rfl (asc_has hl1) (by decide) rfl (fun lsB hB => ?_)
  have hl2 : lh (fun k => k) lsB 4 [some (.ref b), some (.ref a0), none, none] := lh_set1 (i := 1) (ls := [some (.ref b), none, none, none]) (v := .ref a0) rfl rfl rfl hB
  refine lz_new (A := fun q => s.heap.size ≤ q) (ws := w1) (post := fun a w => PMod ca a w) hx hcc hml hown hts hK hKw hA t_Mod rfl i_Mod t_Mod_ok wk_law_M wi_Mod wn_Mod wd_law_M dl_8 dl_11 dl_12 ck_law_12 (fun a => k_Mod_init D ca a) (by decide) (by decide) (by decide) (by decide) hP1 hD1 hS1 hl2.1 (fun m0 w2 H2 locs2 hp2 hP2 hD2 hS2 => ?_)
  refine lv_astore_n hx hcc dl_15 rfl (asc_has hl2) (by decide) rfl (fun lsC hC => ?_)
  have hl3 : lh (fun k => k) lsC 4 [some (.ref b), some (.ref a0), some (.ref m0), none] := lh_set1 (i := 2) (ls := [some (.ref b), some (.ref a0), none, none]) (v := .ref m0) rfl rfl rfl hC
  refine lv_iconst (v := 0) hx hcc dl_16 (by decide) ?_
  refine lv_istore_n hx hcc dl_17 rfl (asc_has hl3) (by decide) rfl (fun lsD hDD => ?_)
  have hl4 : lh (fun k => k) lsD 4 [some (.ref b), some (.ref a0), some (.ref m0), some (.int 0)] := lh_set1 (i := 3) (ls := [some (.ref b), some (.ref a0), some (.ref m0), none]) (v := .int 0) rfl rfl rfl hDD
  obtain ⟨v, v85, v116, v200, vro, hw⟩ := st_fin ca ro b a0 m0 w1 w2 hp1 hp2
  rw [hw] at hP2 hD2
  have hz : ∀ k, k < 132 → ∃ q, (wsX (D, v, ca) h0)[k]? = some q ∧ q.1 = v k ∧ (WD ca v)[st_pm.getD k 0]? = some q := fun k hk => by
    have h1 := st_all D ca v k hk
    have h2 : vv_sk[k]? = some (vv_sk[k]'(by rw [vv_skN]; exact hk)) := List.getElem?_eq_getElem _
    rw [h2] at h1
    exact ⟨_, wsX_get h2, rfl, h1⟩
  have hPX : va_P D classes (wsX (D, v, ca) h0) H2 := fun k q hk => by
    obtain ⟨q', g1, -, g3⟩ := hz k (wsX_inv hk).1
    rw [hk] at g1
    cases g1
    exact hP2 _ _ g3
  have hAd : adOk (D, v, ca) (fun q => s.heap.size ≤ q) := ⟨fun i j hi hj e => by
      obtain ⟨q1, -, g1, g2⟩ := hz i hi
      obtain ⟨q2, -, g3, g4⟩ := hz j hj
      exact st_nd i hi j hj (hD2.1 _ _ q1 q2 g2 g4 (by rw [g1, g3]; exact e)), fun k hk => by
      obtain ⟨q1, -, g1, g2⟩ := hz k hk
      have := hD2.2 _ q1 g2
      rw [g1] at this
      exact this⟩
  have hl5 : lh v lsD 4 (LZ 0) := ⟨hl4.1, hl4.2.1, fun i w hi => by
    match i, hi with
    | 0, hi => cases hi; show lsD[0]? = some (.val (.ref (v 200))); rw [v200]; exact hl4.2.2 0 (.ref b) rfl
    | 1, hi => cases hi; show lsD[1]? = some (.val (.ref (v 85))); rw [v85]; exact hl4.2.2 1 (.ref a0) rfl
    | 2, hi => cases hi; show lsD[2]? = some (.val (.ref (v 116))); rw [v116]; exact hl4.2.2 2 (.ref m0) rfl
    | 3, hi => cases hi; exact hl4.2.2 3 (.int 0) rfl
    | _ + 4, hi => cases hi⟩
  exact law_loop hL (L + 5) 0 0 h0 (by (first | decide +kernel | with_reducible assumption | omega)) (by decide) (by (first | decide +kernel | with_reducible assumption | omega)) ⟨inv_h0, ⟨rfl, fun j hj => absurd (show (j : Int) < 0 from hj) (by (first | decide +kernel | with_reducible assumption | omega)), rfl⟩, JA_h0, JB_h0, JS_h0⟩ p l e s m _ below meth c (D, v, ca) (fun q => s.heap.size ≤ q) H2 locs2 lsD ⟨hx, hcc, hml, hown, hts, hlocks, hret, hK, hAd, hA, hRo (D, v, ca) vro⟩ ⟨rfl, v200, hbl, Nat.not_le.mpr hbl, hX, fun q h => h⟩ hPX hS2 hl5
end
