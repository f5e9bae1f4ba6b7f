/-! whether a rod twitches, as numbers -/
def tw (n rc w i l o s : Int) : Prop := n = 0 ∧ 0 < w ∧ w ≤ rc ∨ n = 1 ∧ i = 1 ∨ n = 2 ∧ s % 2 = 1 ∨ n = 3 ∧ l = o ∨ (n < 0 ∨ 3 < n) ∧ (0 < w ∧ w ≤ rc ∨ i = 1)
theorem uN_nn {x : Int32} {X : Int} (e : x.toInt = X) (h : 0 ≤ X) : (uN x : Int) = X := by
  rw [← e, ← Int32.toInt_toBitVec] at h ⊢
  rw [BitVec.toInt_eq_toNat_cond] at h ⊢
  have l : x.toBitVec.toNat < 2 ^ 32 := uN_lt x
  unfold uN
  split at h
  · next q => rw [if_pos q]
  · omega
theorem odd_and {s z : Int32} {S Z : Int} (sE : s.toInt = S) (h : 0 ≤ S) (e : z = s &&& 1) (zE : z.toInt = Z) : Z = S % 2 := by
  have h1 : uN z = uN s % 2 := by rw [e, uN_and, show uN 1 = 1 by decide, and_1]
  have h2 := uN_nn sE h
  rw [← zE, uN_ti (by omega), h1]
  omega
def twR (r : Int32) (P : Prop) : Prop := r.toInt = 1 ∧ P ∨ r.toInt = 0 ∧ ¬ P
theorem twR_01 {r : Int32} {P : Prop} (h : twR r P) : r.toInt = 0 ∨ r.toInt = 1 := by
  rcases h with h | h
  · exact Or.inr h.1
  · exact Or.inl h.1
theorem twR_cg {r : Int32} {P Q : Prop} (h : twR r P) (e : P ↔ Q) : twR r Q := by
  rcases h with ⟨a, b⟩ | ⟨a, b⟩
  · exact Or.inl ⟨a, e.mp b⟩
  · exact Or.inr ⟨a, fun c => b (e.mpr c)⟩
theorem twR_un {r s : Int32} {P : Prop} (p : twR r P) (q : twR s P) : r = s := by
  rcases p with ⟨a, b⟩ | ⟨a, b⟩ <;> rcases q with ⟨c, d⟩ | ⟨c, d⟩
  · exact same_of a c
  · exact absurd b d
  · exact absurd d b
  · exact same_of a c
theorem twR_fl {r z : Int32} {R : Int} {P : Prop} (h : twR r P) (rE : r.toInt = R) (f : R ≠ 0 ∧ z.toInt = 1 ∨ R = 0 ∧ z.toInt = 0) : twR z P := by
  rcases h with ⟨a, b⟩ | ⟨a, b⟩
  · exact Or.inl ⟨by omega, b⟩
  · exact Or.inr ⟨by omega, b⟩
def TWa (G : Prop) (r : Int32) (P : Prop) : Prop := G ∧ twR r P ∨ ¬ G ∧ r.toInt = -1
theorem TWa_un {G : Prop} {r s : Int32} {P Q : Prop} (p : TWa G r P) (q : TWa G s Q) (e : G → (P ↔ Q)) : r = s := by
  rcases p with ⟨a, b⟩ | ⟨a, b⟩ <;> rcases q with ⟨c, d⟩ | ⟨c, d⟩
  · exact twR_un (twR_cg b (e a)) d
  · exact absurd a c
  · exact absurd c a
  · exact same_of b d
/-- the numbers by which a rod twitches in a CELL: the class's, the reference's -/
def twC (h : Hp) (n rc : Int) (c : Nat) (o s : Int) : Prop := tw n rc (h.1 2 c).toInt (h.1 3 c).toInt (h.1 5 c).toInt o s
def twM (h : Hp) (n rc : Int) (c : Nat) (o s : Int) : Prop := tw n rc (h.1 117 c).toInt (h.1 117 (16 + c)).toInt (h.1 117 (48 + c)).toInt o s
theorem tw_same {h : Hp} (ra : JA h) (rb : JB h) {c : Nat} (hc : c < 16) {n rc o s : Int} : twC h n rc c o s ↔ twM h n rc c o s := by
  unfold twC twM
  rw [(JB_w rb hc).1, show h.1 3 c = h.1 117 (16 + c) from JA_cell ra (dof_3 hc) (by unfold aP; omega) (by omega), show h.1 5 c = h.1 117 (48 + c) from JA_cell ra (dof_5 hc) (by unfold aP; omega) (by omega)]
