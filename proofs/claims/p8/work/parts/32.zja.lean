theorem ja_h0c : (List.range 13).all (fun k => (List.range 16).all (fun i => match dof (68 + k) i with | none => true | some d => decide (h0.1 k i = h0.1 (mK d) (mJ 0 d)))) = true := by decide +kernel
theorem JA_h0 : JA h0 := by
  refine ⟨⟨fun k i d hd _ => ?_, fun i _ hc => ?_, fun i _ hc => ?_⟩, ⟨rfl, rfl⟩, fun q => absurd rfl q, fun q => absurd rfl q⟩
  · have a := dof_k hd
    have b := (dof_c hd).1
    have hi : i < 16 := by unfold cpl at b; omega
    have h1 := List.all_eq_true.mp ja_h0c k (List.mem_range.mpr (by (first | decide +kernel | omega)))
    have h2 : (match dof (68 + k) i with | none => true | some d => decide (h0.1 k i = h0.1 (mK d) (mJ 0 d))) = true := List.all_eq_true.mp h1 i (List.mem_range.mpr hi)
    rw [hd] at h2
    rw [Nat.zero_add]
    exact of_decide_eq_true h2
  · have e : (h0.1 (0 + 7) 4).toInt = 0 := by decide +kernel
    rw [e] at hc
    omega
  · have e : (h0.1 (0 + 12) 4).toInt = 0 := by decide +kernel
    rw [e] at hc
    omega
