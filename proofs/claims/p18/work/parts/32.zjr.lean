theorem jr_h0a : (List.range 16).all (fun i => decide (0 ≤ (h0.1 3 i).toInt ∧ (h0.1 3 i).toInt ≤ 1) && decide (0 ≤ (h0.1 6 i).toInt ∧ (h0.1 6 i).toInt ≤ 9)) = true := by decide +kernel
theorem jr_h0b : (List.range 4).all (fun i => decide (0 ≤ (h0.1 8 i).toInt ∧ (h0.1 8 i).toInt ≤ 999)) = true := by decide +kernel
theorem JR_h0 : JR h0 := by
  refine ⟨⟨fun i hi => ?_, fun i hi => ?_, fun i hi => ?_, ?_, ?_, fun i hi hc => ?_, fun i hi hc => ?_⟩, fun q => absurd rfl q, fun q => absurd rfl q⟩
  · have h1 := List.all_eq_true.mp jr_h0a i (List.mem_range.mpr hi)
    rw [Bool.and_eq_true] at h1
    rw [Nat.zero_add]
    exact of_decide_eq_true h1.1
  · have h1 := List.all_eq_true.mp jr_h0a i (List.mem_range.mpr hi)
    rw [Bool.and_eq_true] at h1
    rw [Nat.zero_add]
    exact of_decide_eq_true h1.2
  · have h1 := List.all_eq_true.mp jr_h0b i (List.mem_range.mpr hi)
    rw [Nat.zero_add]
    exact of_decide_eq_true h1
  · decide +kernel
  · decide +kernel
  · have e : (h0.1 (0 + 7) 4).toInt = 0 := by decide +kernel
    rw [e] at hc
    omega
  · have e : (h0.1 (0 + 12) 4).toInt = 0 := by decide +kernel
    rw [e] at hc
    omega
