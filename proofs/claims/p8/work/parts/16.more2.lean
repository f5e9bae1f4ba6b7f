section VN2
variable {own : String} {cc : ByteArray} {nL : Nat} {ret : Option FieldType} {F L : Nat} {post : Option Value → Hp → Prop} {h : Hp} {pc : Nat} {ls : Pl} {st : List Value}
theorem N_iremn {x y : Int32} (hne : ¬ y = 0) (d : decode cc pc = .ok (.irem, 1)) (k : ∀ (z : Int32) (Z : Int), z.toInt = Z → z = x - x / y * y → V own cc nL ret F L post h (pc + 1) ls (.int z :: st)) : V own cc nL ret F L post h pc ls (.int y :: .int x :: st) := V_irem hne d (fun z e => k z _ rfl e)
theorem N_idivn {x y : Int32} (hne : ¬ y = 0) (d : decode cc pc = .ok (.idiv, 1)) (k : ∀ (z : Int32) (Z : Int), z.toInt = Z → z = x / y → V own cc nL ret F L post h (pc + 1) ls (.int z :: st)) : V own cc nL ret F L post h pc ls (.int y :: .int x :: st) := V_idiv hne d (fun z e => k z _ rfl e)
end VN2
theorem gridRg {I : Int} (hI : 0 ≤ I ∧ I < 6) (j : Nat) : rg (95 + I.toNat) j = vv_full := by
  rcases (by (first | decide +kernel | omega) : I = 0 ∨ I = 1 ∨ I = 2 ∨ I = 3 ∨ I = 4 ∨ I = 5) with rfl | rfl | rfl | rfl | rfl | rfl <;> rfl
theorem gridIn {S : List (Nat × Option Nat)} {I : Int} (hI : 0 ≤ I ∧ I < 6) (hS : subS [(95, none), (96, none), (97, none), (98, none), (99, none), (100, none)] S = true) (j : Nat) : inS S (95 + I.toNat) j = true := by
  refine subS_in hS ?_
  rcases (by (first | decide +kernel | omega) : I = 0 ∨ I = 1 ∨ I = 2 ∨ I = 3 ∨ I = 4 ∨ I = 5) with rfl | rfl | rfl | rfl | rfl | rfl <;> rfl
theorem col_ok {w g c M : Int} (hw : 2 ≤ w ∧ w ≤ 4) (hg : 2 ≤ g ∧ g ≤ 4) (hM : M = w * g) (hc : 0 ≤ c ∧ c < M) (hcol : c % w < w - 1) : c + 1 < M := by
  rcases (by (first | decide +kernel | omega) : w = 2 ∨ w = 3 ∨ w = 4) with rfl | rfl | rfl <;> omega
