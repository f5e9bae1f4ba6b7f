theorem rnF_ge9 (P : Int → Bool) (b : Int → Int) : ∀ (k : Nat) (p : Int), p ≤ rnF P b k p := by
  intro k
  induction k with
  | zero => intro p; exact Int.le_refl p
  | succ k ih =>
    intro p
    show p ≤ (if P (b p) = true then rnF P b k (p + 1) else p)
    split
    · have := ih (p + 1); omega
    · omega
theorem rn_ge9 (P : Int → Bool) (b : Int → Int) (p : Int) : p ≤ rn P b p := rnF_ge9 P b _ p
theorem x_fr_ge (b : Int → Int) (p : Int) : p ≤ x_fr b p := rn_ge9 blB b p
theorem x_en_ge (b : Int → Int) (p : Int) : p ≤ x_en b p := by
  have h0 := x_fr_ge b p
  have h1 := rn_ge9 leB b (x_fr b p)
  have h2 := rn_ge9 fiB b (x_fr b p)
  unfold x_en
  split
  · omega
  · split
    · omega
    · split <;> omega
