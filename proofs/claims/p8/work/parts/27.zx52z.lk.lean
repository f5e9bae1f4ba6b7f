theorem x_cN_0 {b : Int → Int} {p lo hi : Int} (h : x_cN b p lo hi = 0) : x_kd b p = 2 ∧ lo ≤ x_vl b p ∧ x_vl b p ≤ hi := by have := x_cN_s b p lo hi; omega
theorem x_cN_4 {b : Int → Int} {p : Int} (lo hi : Int) (h : x_kd b p = 4) : x_cN b p lo hi = 1 := by have := x_cN_s b p lo hi; omega
theorem x_cS_4 {b : Int → Int} {p : Int} (h : x_kd b p = 4) : x_cS b p = 1 := by have := x_cS_s b p; omega
theorem lk_num {b : Int → Int} {p lo hi k v w u y a f r : Int} (hk : k = x_kd b p) (h4 : k ≠ 4) (hv : k ≠ 2 ∨ v = x_vl b p) (hw : w = 0) (h : w ≠ 0 ∧ u = w ∧ y = a ∧ r = 0 ∨ w = 0 ∧ k ≠ 2 ∧ u = 2 ∧ y = f ∧ r = 0 ∨ w = 0 ∧ k = 2 ∧ (v < lo ∨ hi < v) ∧ u = 3 ∧ y = f ∧ r = 0 ∨ w = 0 ∧ k = 2 ∧ lo ≤ v ∧ v ≤ hi ∧ u = 0 ∧ y = a ∧ r = v) : x_cN b p lo hi ≠ 0 ∧ u = x_cN b p lo hi ∧ y = f ∧ r = 0 ∧ 0 ≤ u ∨ x_cN b p lo hi = 0 ∧ u = 0 ∧ y = a ∧ r = x_vl b p := by
  have q := x_cN_s b p lo hi
  rcases h with h | h | h | h
  · omega
  · left; omega
  · left; omega
  · right; omega
