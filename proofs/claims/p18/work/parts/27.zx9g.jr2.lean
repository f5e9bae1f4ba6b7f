/-! what the queries want of the relation -/
theorem JR_i {h : Hp} (r : JR h) : ∀ i : Nat, i < 16 → 0 ≤ (h.1 3 i).toInt ∧ (h.1 3 i).toInt ≤ 1 := fun i hi => by
  have := r.1.1 i hi
  rw [Nat.zero_add] at this
  exact this
theorem JR_t {h : Hp} (r : JR h) : ∀ i : Nat, i < 8 → (i : Int) < (h.1 12 4).toInt → (0 ≤ (h.1 16 i).toInt ∧ (h.1 16 i).toInt ≤ 1) ∧ 0 ≤ (h.1 15 i).toInt := fun i hi hc => by
  have := r.1.2.2.2.2.2.2 i hi (by rw [Nat.zero_add]; exact hc)
  rw [Nat.zero_add, Nat.zero_add] at this
  exact this
theorem JR_tm {h : Hp} (ra : JA h) (r : JR h) : ∀ i : Nat, i < 8 → (i : Int) < (h.1 117 111).toInt → (0 ≤ (h.1 117 (115 + 4 * i)).toInt ∧ (h.1 117 (115 + 4 * i)).toInt ≤ 1) ∧ 0 ≤ (h.1 117 (114 + 4 * i)).toInt := fun i hi hc => by
  rw [← JA_c111 ra] at hc
  have s := ra.1.2.2 i hi (by rw [Nat.zero_add]; exact hc)
  rw [Nat.zero_add, Nat.zero_add, Nat.zero_add, Nat.zero_add, Nat.zero_add, Nat.zero_add, Nat.zero_add, Nat.zero_add] at s
  rw [← s.2.2.1, ← s.2.2.2]
  exact JR_t r i hi hc
theorem nat_same {h : Hp} {r s : Int32} (hI : Inv h) (ra : JA h) (rb : JB h) (p : BP r (NQ (fun a b => ftC h a b (h.1 12 4).toInt.toNat) 21)) (q : BP s (MQ2 (fun a b => ftM h a b (h.1 117 111).toInt.toNat) 5 1)) : r = s := by
  have hb : 0 ≤ (h.1 12 4).toInt ∧ (h.1 12 4).toInt ≤ 8 := hI 12 4
  rw [← JA_c111 ra] at q
  refine BP_ext (BP_cg p (fun j => ?_)) q
  rw [← NQ_MQ ftM_idle]
  unfold NQ
  exact ⟨fun ⟨x, a, b, c⟩ => ⟨x, a, (ft_same hI ra rb (by omega)).mp b, c⟩, fun ⟨x, a, b, c⟩ => ⟨x, a, (ft_same hI ra rb (by omega)).mpr b, c⟩⟩
theorem rea_same {h : Hp} {r s : Int32} {n : Int} (hI : Inv h) (ra : JA h) (rb : JB h) (p : (0 ≤ n ∧ n ≤ 4) ∧ BP r (RQ (fun a b => ftC h a b (h.1 12 4).toInt.toNat) n 21) ∨ ¬ (0 ≤ n ∧ n ≤ 4) ∧ r.toInt = -1) (q : (0 ≤ n ∧ n ≤ 4) ∧ BP s (MR3 (fun a b => ftM h a b (h.1 117 111).toInt.toNat) n 10) ∨ ¬ (0 ≤ n ∧ n ≤ 4) ∧ s.toInt = -1) : r = s := by
  have hb : 0 ≤ (h.1 12 4).toInt ∧ (h.1 12 4).toInt ≤ 8 := hI 12 4
  rw [← JA_c111 ra] at q
  rcases p with ⟨p1, p2⟩ | ⟨p1, p2⟩ <;> rcases q with ⟨q1, q2⟩ | ⟨q1, q2⟩
  · refine BP_ext (BP_cg p2 (fun j => ?_)) q2
    rw [← RQ_MR ftM_idle p1]
    unfold RQ
    exact ⟨fun ⟨x, a, b, c⟩ => ⟨x, a, (ft_same hI ra rb (by omega)).mp b, c⟩, fun ⟨x, a, b, c⟩ => ⟨x, a, (ft_same hI ra rb (by omega)).mpr b, c⟩⟩
  · exact absurd p1 q1
  · exact absurd q1 p1
  · exact same_of p2 q2
theorem luck_same {h : Hp} {r s a : Int32} {n : Int} {W : Int} (rb : JB h) (hW : 0 ≤ W ∧ W ≤ 16) (p : (1 ≤ n ∧ n ≤ 60) ∧ r.toInt = (ct (LW (h.1 2) (lkB (fun i => (h.1 6 i).toInt) W a n.toNat) W) 32 : Nat) ∨ ¬ (1 ≤ n ∧ n ≤ 60) ∧ r.toInt = -1) (q : (1 ≤ n ∧ n ≤ 60) ∧ s.toInt = (ct (LW (fun i => h.1 117 i) (lkB (fun i => (h.1 117 (64 + i)).toInt) W a n.toNat) W) W.toNat : Nat) ∨ ¬ (1 ≤ n ∧ n ≤ 60) ∧ s.toInt = -1) : r = s := by
  rcases p with ⟨p1, p2⟩ | ⟨p1, p2⟩ <;> rcases q with ⟨q1, q2⟩ | ⟨q1, q2⟩
  · refine same_of p2 (q2.trans ?_)
    rw [LW_ct (by omega)]
    exact congrArg (fun z : Nat => (z : Int)) (ct_cg _ (fun i _ => LW_cg (by omega) (fun j hj => (JB_w rb hj).1.symm) (fun j hj => lkB_cg (fun k hk => by rw [JB_b rb hk]) _ j hj) i))
  · exact absurd p1 q1
  · exact absurd q1 p1
  · exact same_of p2 q2
