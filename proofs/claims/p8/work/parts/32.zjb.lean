theorem jb_h0a : (List.range 16).all (fun i => decide (h0.1 2 i = h0.1 117 i) && decide (0 ≤ (h0.1 2 i).toInt) && decide (h0.1 6 i = h0.1 117 (64 + i))) = true := by decide +kernel
theorem jb_h0b : (List.range 4).all (fun i => decide (h0.1 8 i = h0.1 117 (80 + i))) = true := by decide +kernel
theorem JB_h0 : JB h0 := by
  refine ⟨⟨fun i hi => ?_, fun i hi => ?_, fun i hi => ?_⟩, fun q => absurd rfl q, fun q => absurd rfl q⟩
  · have h1 := List.all_eq_true.mp jb_h0a i (List.mem_range.mpr hi)
    rw [Bool.and_eq_true, Bool.and_eq_true] at h1
    rw [Nat.zero_add, Nat.zero_add]
    exact ⟨of_decide_eq_true h1.1.1, of_decide_eq_true h1.1.2⟩
  · have h1 := List.all_eq_true.mp jb_h0a i (List.mem_range.mpr hi)
    rw [Bool.and_eq_true, Bool.and_eq_true] at h1
    rw [Nat.zero_add, Nat.zero_add]
    exact of_decide_eq_true h1.2
  · have h1 := List.all_eq_true.mp jb_h0b i (List.mem_range.mpr hi)
    rw [Nat.zero_add, Nat.zero_add]
    exact of_decide_eq_true h1
theorem js_h0a : (List.range 4).all (fun j => decide ((h0.1 (108 + 2 * j) 1).toInt = -1) && decide ((h0.1 128 j).toInt = -4) && decide (h0.1 (108 + 2 * j) 2 = h0.1 129 j) && (List.range 40).all (fun i => decide (h0.1 (109 + 2 * j) i = h0.1 130 (40 * j + i)))) = true := by decide +kernel
theorem JS_h0 : JS h0 := fun j hj => by
  have h1 := List.all_eq_true.mp js_h0a j (List.mem_range.mpr hj)
  rw [Bool.and_eq_true, Bool.and_eq_true, Bool.and_eq_true] at h1
  exact ⟨Or.inl ⟨of_decide_eq_true h1.1.1.1, of_decide_eq_true h1.1.1.2⟩, of_decide_eq_true h1.1.2, fun i hi => of_decide_eq_true (List.all_eq_true.mp h1.2 i (List.mem_range.mpr hi))⟩
