section
/-- the FAULT of the TOKEN behind p: as a number within bounds, as a stop, as the NAME of a nature; 0: none -/
def x_cN (b : Int → Int) (p lo hi : Int) : Int := if x_kd b p = 4 then 1 else if x_kd b p ≠ 2 then 2 else if x_vl b p < lo ∨ hi < x_vl b p then 3 else 0
def x_cS (b : Int → Int) (p : Int) : Int := if x_kd b p = 4 then 1 else if x_kd b p ≠ 3 then 2 else 0
def x_nn (b : Int → Int) (p : Int) : Int := x_nt b (x_fr b p) (x_en b p)
def x_cK (b : Int → Int) (p : Int) : Int := if x_kd b p = 4 then 1 else if x_kd b p ≠ 1 then 2 else if x_nn b p = -1 then 2 else 0
theorem x_cN_s (b : Int → Int) (p lo hi : Int) : x_kd b p = 4 ∧ x_cN b p lo hi = 1 ∨ x_kd b p ≠ 4 ∧ x_kd b p ≠ 2 ∧ x_cN b p lo hi = 2 ∨ x_kd b p = 2 ∧ (x_vl b p < lo ∨ hi < x_vl b p) ∧ x_cN b p lo hi = 3 ∨ x_kd b p = 2 ∧ lo ≤ x_vl b p ∧ x_vl b p ≤ hi ∧ x_cN b p lo hi = 0 := by
  unfold x_cN
  split
  · left; omega
  · split
    · right; left; omega
    · split <;> omega
theorem x_cS_s (b : Int → Int) (p : Int) : x_kd b p = 4 ∧ x_cS b p = 1 ∨ x_kd b p ≠ 4 ∧ x_kd b p ≠ 3 ∧ x_cS b p = 2 ∨ x_kd b p = 3 ∧ x_cS b p = 0 := by
  unfold x_cS
  split
  · left; omega
  · split <;> omega
theorem x_cK_s (b : Int → Int) (p : Int) : x_kd b p = 4 ∧ x_cK b p = 1 ∨ x_kd b p ≠ 4 ∧ x_kd b p ≠ 1 ∧ x_cK b p = 2 ∨ x_kd b p = 1 ∧ x_nn b p = -1 ∧ x_cK b p = 2 ∨ x_kd b p = 1 ∧ x_nn b p ≠ -1 ∧ x_cK b p = 0 := by
  unfold x_cK
  split
  · left; omega
  · split
    · right; left; omega
    · split <;> omega
/-- a FAULT and its place, or what comes behind -/
def x_sq (c w : Int) (r : Int × Int) : Int × Int := if c = 0 then r else (c, w)
theorem x_sq_s (c w : Int) (r : Int × Int) : c ≠ 0 ∧ (x_sq c w r).1 = c ∧ (x_sq c w r).2 = w ∨ c = 0 ∧ (x_sq c w r).1 = r.1 ∧ (x_sq c w r).2 = r.2 := by
  unfold x_sq
  split
  · next h => exact Or.inr ⟨h, rfl, rfl⟩
  · next h => exact Or.inl ⟨h, rfl, rfl⟩
theorem x_sq_y {c w : Int} {r : Int × Int} (h : c ≠ 0) : x_sq c w r = (c, w) := if_neg h
theorem x_sq_n {c w : Int} {r : Int × Int} (h : c = 0) : x_sq c w r = r := if_pos h
/-- the FAULT of a thing told twice -/
def x_c4 (t : Int) : Int := if t = 0 then 0 else 4
theorem x_c4_s (t : Int) : t = 0 ∧ x_c4 t = 0 ∨ t ≠ 0 ∧ x_c4 t = 4 := by
  unfold x_c4
  split <;> omega
/-- to himself -/
def x_ce (x y : Int) : Int := if x = y then 4 else 0
theorem x_ce_s (x y : Int) : x = y ∧ x_ce x y = 4 ∨ x ≠ y ∧ x_ce x y = 0 := by
  unfold x_ce
  split <;> omega
/-- county: p is the end of its NAME -/
def x_l0 (b : Int → Int) (T : Nat → Int → Int) (p : Int) : Int × Int := x_sq (x_cN b p 2 4) (x_fr b p) (x_sq (x_cN b (x_en b p) 2 4) (x_fr b (x_en b p)) (x_sq (x_cS b (x_en b (x_en b p))) (x_fr b (x_en b (x_en b p))) (0, x_en b (x_en b (x_en b p)))))
/-- wet: p is the end of its NAME -/
def x_l1 (b : Int → Int) (T : Nat → Int → Int) (p : Int) : Int × Int := x_sq (x_cN b p 0 15) (x_fr b p) (x_sq (x_c4 (T 1 (x_vl b p))) (x_fr b p) (x_sq (x_cN b (x_en b p) 1 9) (x_fr b (x_en b p)) (x_sq (x_cS b (x_en b (x_en b p))) (x_fr b (x_en b (x_en b p))) (0, x_en b (x_en b (x_en b p))))))
/-- iron: p is the end of its NAME -/
def x_l2 (b : Int → Int) (T : Nat → Int → Int) (p : Int) : Int × Int := x_sq (x_cN b p 0 15) (x_fr b p) (x_sq (x_c4 (T 2 (x_vl b p))) (x_fr b p) (x_sq (x_cS b (x_en b p)) (x_fr b (x_en b p)) (0, x_en b (x_en b p))))
/-- odds: p is the end of its NAME -/
def x_l3 (b : Int → Int) (T : Nat → Int → Int) (p : Int) : Int × Int := x_sq (x_cN b p 0 15) (x_fr b p) (x_sq (x_c4 (T 3 (x_vl b p))) (x_fr b p) (x_sq (x_cN b (x_en b p) 0 10) (x_fr b (x_en b p)) (x_sq (x_cS b (x_en b (x_en b p))) (x_fr b (x_en b (x_en b p))) (0, x_en b (x_en b (x_en b p))))))
/-- claim: p is the end of its NAME -/
def x_l4 (b : Int → Int) (T : Nat → Int → Int) (p : Int) : Int × Int := x_sq (x_cN b p 0 15) (x_fr b p) (x_sq (x_c4 (T 4 (x_vl b p))) (x_fr b p) (x_sq (x_cN b (x_en b p) 0 3) (x_fr b (x_en b p)) (x_sq (x_cS b (x_en b (x_en b p))) (x_fr b (x_en b (x_en b p))) (0, x_en b (x_en b (x_en b p))))))
/-- purse: p is the end of its NAME -/
def x_l5 (b : Int → Int) (T : Nat → Int → Int) (p : Int) : Int × Int := x_sq (x_cN b p 0 3) (x_fr b p) (x_sq (x_c4 (T 5 (x_vl b p))) (x_fr b p) (x_sq (x_cN b (x_en b p) 0 99) (x_fr b (x_en b p)) (x_sq (x_cS b (x_en b (x_en b p))) (x_fr b (x_en b (x_en b p))) (0, x_en b (x_en b (x_en b p))))))
/-- cost: p is the end of its NAME -/
def x_l6 (b : Int → Int) (T : Nat → Int → Int) (p : Int) : Int × Int := x_sq (x_cN b p 1 9) (x_fr b p) (x_sq (x_cS b (x_en b p)) (x_fr b (x_en b p)) (0, x_en b (x_en b p)))
/-- price: p is the end of its NAME -/
def x_l7 (b : Int → Int) (T : Nat → Int → Int) (p : Int) : Int × Int := x_sq (x_cN b p 1 99) (x_fr b p) (x_sq (x_cS b (x_en b p)) (x_fr b (x_en b p)) (0, x_en b (x_en b p)))
/-- rod: p is the end of its NAME -/
def x_l8 (b : Int → Int) (T : Nat → Int → Int) (p : Int) : Int × Int := x_sq (x_cK b p) (x_fr b p) (x_sq (x_cN b (x_en b p) 1 9) (x_fr b (x_en b p)) (x_sq (x_cS b (x_en b (x_en b p))) (x_fr b (x_en b (x_en b p))) (0, x_en b (x_en b (x_en b p)))))
/-- owe: p is the end of its NAME -/
def x_l9 (b : Int → Int) (T : Nat → Int → Int) (p : Int) : Int × Int := x_sq (x_cN b p 0 3) (x_fr b p) (x_sq (x_cN b (x_en b p) 0 3) (x_fr b (x_en b p)) (x_sq (x_ce (x_vl b (x_en b p)) (x_vl b p)) (x_fr b (x_en b p)) (x_sq (x_cN b (x_en b (x_en b p)) 1 99) (x_fr b (x_en b (x_en b p))) (x_sq (x_cS b (x_en b (x_en b (x_en b p)))) (x_fr b (x_en b (x_en b (x_en b p)))) (0, x_en b (x_en b (x_en b (x_en b p))))))))
def x_li (b : Int → Int) (p : Int) : Int := x_ln b (x_fr b p) (x_en b p)
/-- the FAULT of a line's NAME; n: DEBTS told before -/
def x_cH (b : Int → Int) (T : Nat → Int → Int) (n p : Int) : Int := if x_kd b p = 4 then 1 else if x_kd b p ≠ 1 then 2 else if x_li b p = -1 then 2 else if x_li b p = 0 ∧ T 0 0 ≠ 0 ∨ x_li b p = 6 ∧ T 6 0 ≠ 0 ∨ x_li b p = 7 ∧ T 7 0 ≠ 0 ∨ x_li b p = 8 ∧ T 8 0 ≠ 0 then 4 else if x_li b p = 9 ∧ 8 ≤ n then 5 else 0
/-- a line: its FAULT and the place, or 0 and where it ends -/
def x_line (b : Int → Int) (T : Nat → Int → Int) (n p : Int) : Int × Int := x_sq (x_cH b T n p) (x_fr b p) (if x_li b p = 0 then x_l0 b T (x_en b p) else if x_li b p = 1 then x_l1 b T (x_en b p) else if x_li b p = 2 then x_l2 b T (x_en b p) else if x_li b p = 3 then x_l3 b T (x_en b p) else if x_li b p = 4 then x_l4 b T (x_en b p) else if x_li b p = 5 then x_l5 b T (x_en b p) else if x_li b p = 6 then x_l6 b T (x_en b p) else if x_li b p = 7 then x_l7 b T (x_en b p) else if x_li b p = 8 then x_l8 b T (x_en b p) else x_l9 b T (x_en b p))
def x_up (D : Nat → Int) (k : Int) (v : Int) : Nat → Int := fun i => if (i : Int) = k then v else D i
def x_upT (T : Nat → Int → Int) (l c : Int) : Nat → Int → Int := fun i j => if (i : Int) = l ∧ j = c then 1 else T i j
/-- what is told behind a line -/
def x_T (b : Int → Int) (T : Nat → Int → Int) (p : Int) : Nat → Int → Int := if 1 ≤ x_li b p ∧ x_li b p ≤ 5 then x_upT T (x_li b p) (x_vl b (x_en b p)) else x_upT T (x_li b p) 0
/-- the draft behind a line -/
def x_D (b : Int → Int) (D : Nat → Int) (p : Int) : Nat → Int := if x_li b p = 0 then x_up (x_up D 144 (x_vl b (x_en b p))) 145 (x_vl b (x_en b (x_en b p))) else if x_li b p = 1 then x_up D (x_vl b (x_en b p)) (x_vl b (x_en b (x_en b p))) else if x_li b p = 2 then x_up D (16 + (x_vl b (x_en b p))) 1 else if x_li b p = 3 then x_up D (32 + (x_vl b (x_en b p))) (x_vl b (x_en b (x_en b p))) else if x_li b p = 4 then x_up D (48 + (x_vl b (x_en b p))) (x_vl b (x_en b (x_en b p))) else if x_li b p = 5 then x_up D (80 + (x_vl b (x_en b p))) (x_vl b (x_en b (x_en b p))) else if x_li b p = 6 then x_up D 146 (x_vl b (x_en b p)) else if x_li b p = 7 then x_up D 147 (x_vl b (x_en b p)) else if x_li b p = 8 then x_up (x_up D 84 (x_nn b (x_en b p))) 85 (x_vl b (x_en b (x_en b p))) else x_up (x_up (x_up (x_up D (87 + 3 * D 86) (x_vl b (x_en b p))) (88 + 3 * D 86) (x_vl b (x_en b (x_en b p)))) (89 + 3 * D 86) (x_vl b (x_en b (x_en b (x_en b p))))) 86 (D 86 + 1)
theorem x_cH_s (b : Int → Int) (T : Nat → Int → Int) (n p : Int) : x_kd b p = 4 ∧ x_cH b T n p = 1 ∨ x_kd b p ≠ 4 ∧ x_kd b p ≠ 1 ∧ x_cH b T n p = 2 ∨ x_kd b p = 1 ∧ x_li b p = -1 ∧ x_cH b T n p = 2 ∨ x_kd b p = 1 ∧ x_li b p ≠ -1 ∧ (x_li b p = 0 ∧ T 0 0 ≠ 0 ∨ x_li b p = 6 ∧ T 6 0 ≠ 0 ∨ x_li b p = 7 ∧ T 7 0 ≠ 0 ∨ x_li b p = 8 ∧ T 8 0 ≠ 0) ∧ x_cH b T n p = 4 ∨ x_kd b p = 1 ∧ x_li b p = 9 ∧ 8 ≤ n ∧ x_cH b T n p = 5 ∨ x_kd b p = 1 ∧ x_li b p ≠ -1 ∧ ¬ (x_li b p = 0 ∧ T 0 0 ≠ 0 ∨ x_li b p = 6 ∧ T 6 0 ≠ 0 ∨ x_li b p = 7 ∧ T 7 0 ≠ 0 ∨ x_li b p = 8 ∧ T 8 0 ≠ 0) ∧ ¬ (x_li b p = 9 ∧ 8 ≤ n) ∧ x_cH b T n p = 0 := by
  unfold x_cH
  by_cases h1 : x_kd b p = 4
  · rw [if_pos h1]; exact Or.inl ⟨h1, rfl⟩
  rw [if_neg h1]
  by_cases h2 : x_kd b p ≠ 1
  · rw [if_pos h2]; exact Or.inr (Or.inl ⟨h1, h2, rfl⟩)
  rw [if_neg h2]
  have h2' : x_kd b p = 1 := Decidable.of_not_not h2
  by_cases h3 : x_li b p = -1
  · rw [if_pos h3]; exact Or.inr (Or.inr (Or.inl ⟨h2', h3, rfl⟩))
  rw [if_neg h3]
  by_cases h4 : x_li b p = 0 ∧ T 0 0 ≠ 0 ∨ x_li b p = 6 ∧ T 6 0 ≠ 0 ∨ x_li b p = 7 ∧ T 7 0 ≠ 0 ∨ x_li b p = 8 ∧ T 8 0 ≠ 0
  · rw [if_pos h4]; exact Or.inr (Or.inr (Or.inr (Or.inl ⟨h2', h3, h4, rfl⟩)))
  rw [if_neg h4]
  by_cases h5 : x_li b p = 9 ∧ 8 ≤ n
  · rw [if_pos h5]; exact Or.inr (Or.inr (Or.inr (Or.inr (Or.inl ⟨h2', h5.1, h5.2, rfl⟩))))
  rw [if_neg h5]; exact Or.inr (Or.inr (Or.inr (Or.inr (Or.inr ⟨h2', h3, h4, h5, rfl⟩))))
theorem x_line_0 {b : Int → Int} {T : Nat → Int → Int} {n p u : Int} (hu : u = x_en b p) (hH : x_cH b T n p = 0) (hl : x_li b p = 0) : x_line b T n p = x_l0 b T u := by
  subst hu
  unfold x_line
  rw [x_sq_n hH, if_pos hl]
theorem x_line_1 {b : Int → Int} {T : Nat → Int → Int} {n p u : Int} (hu : u = x_en b p) (hH : x_cH b T n p = 0) (hl : x_li b p = 1) : x_line b T n p = x_l1 b T u := by
  subst hu
  unfold x_line
  rw [x_sq_n hH, if_neg (by (first | decide +kernel | omega)), if_pos hl]
theorem x_line_2 {b : Int → Int} {T : Nat → Int → Int} {n p u : Int} (hu : u = x_en b p) (hH : x_cH b T n p = 0) (hl : x_li b p = 2) : x_line b T n p = x_l2 b T u := by
  subst hu
  unfold x_line
  rw [x_sq_n hH, if_neg (by (first | decide +kernel | omega)), if_neg (by (first | decide +kernel | omega)), if_pos hl]
theorem x_line_3 {b : Int → Int} {T : Nat → Int → Int} {n p u : Int} (hu : u = x_en b p) (hH : x_cH b T n p = 0) (hl : x_li b p = 3) : x_line b T n p = x_l3 b T u := by
  subst hu
  unfold x_line
  rw [x_sq_n hH, if_neg (by (first | decide +kernel | omega)), if_neg (by (first | decide +kernel | omega)), if_neg (by (first | decide +kernel | omega)), if_pos hl]
theorem x_line_4 {b : Int → Int} {T : Nat → Int → Int} {n p u : Int} (hu : u = x_en b p) (hH : x_cH b T n p = 0) (hl : x_li b p = 4) : x_line b T n p = x_l4 b T u := by
  subst hu
  unfold x_line
  rw [x_sq_n hH, if_neg (by (first | decide +kernel | omega)), if_neg (by (first | decide +kernel | omega)), if_neg (by (first | decide +kernel | omega)), if_neg (by (first | decide +kernel | omega)), if_pos hl]
theorem x_line_5 {b : Int → Int} {T : Nat → Int → Int} {n p u : Int} (hu : u = x_en b p) (hH : x_cH b T n p = 0) (hl : x_li b p = 5) : x_line b T n p = x_l5 b T u := by
  subst hu
  unfold x_line
  rw [x_sq_n hH, if_neg (by (first | decide +kernel | omega)), if_neg (by (first | decide +kernel | omega)), if_neg (by (first | decide +kernel | omega)), if_neg (by (first | decide +kernel | omega)), if_neg (by (first | decide +kernel | omega)), if_pos hl]
theorem x_line_6 {b : Int → Int} {T : Nat → Int → Int} {n p u : Int} (hu : u = x_en b p) (hH : x_cH b T n p = 0) (hl : x_li b p = 6) : x_line b T n p = x_l6 b T u := by
  subst hu
  unfold x_line
  rw [x_sq_n hH, if_neg (by (first | decide +kernel | omega)), if_neg (by (first | decide +kernel | omega)), if_neg (by (first | decide +kernel | omega)), if_neg (by (first | decide +kernel | omega)), if_neg (by (first | decide +kernel | omega)), if_neg (by (first | decide +kernel | omega)), if_pos hl]
theorem x_line_7 {b : Int → Int} {T : Nat → Int → Int} {n p u : Int} (hu : u = x_en b p) (hH : x_cH b T n p = 0) (hl : x_li b p = 7) : x_line b T n p = x_l7 b T u := by
  subst hu
  unfold x_line
  rw [x_sq_n hH, if_neg (by (first | decide +kernel | omega)), if_neg (by (first | decide +kernel | omega)), if_neg (by (first | decide +kernel | omega)), if_neg (by (first | decide +kernel | omega)), if_neg (by (first | decide +kernel | omega)), if_neg (by (first | decide +kernel | omega)), if_neg (by (first | decide +kernel | omega)), if_pos hl]
theorem x_line_8 {b : Int → Int} {T : Nat → Int → Int} {n p u : Int} (hu : u = x_en b p) (hH : x_cH b T n p = 0) (hl : x_li b p = 8) : x_line b T n p = x_l8 b T u := by
  subst hu
  unfold x_line
  rw [x_sq_n hH, if_neg (by (first | decide +kernel | omega)), if_neg (by (first | decide +kernel | omega)), if_neg (by (first | decide +kernel | omega)), if_neg (by (first | decide +kernel | omega)), if_neg (by (first | decide +kernel | omega)), if_neg (by (first | decide +kernel | omega)), if_neg (by (first | decide +kernel | omega)), if_neg (by (first | decide +kernel | omega)), if_pos hl]
theorem x_line_9 {b : Int → Int} {T : Nat → Int → Int} {n p u : Int} (hu : u = x_en b p) (hH : x_cH b T n p = 0) (hl : x_li b p = 9) : x_line b T n p = x_l9 b T u := by
  subst hu
  unfold x_line
  rw [x_sq_n hH, if_neg (by (first | decide +kernel | omega)), if_neg (by (first | decide +kernel | omega)), if_neg (by (first | decide +kernel | omega)), if_neg (by (first | decide +kernel | omega)), if_neg (by (first | decide +kernel | omega)), if_neg (by (first | decide +kernel | omega)), if_neg (by (first | decide +kernel | omega)), if_neg (by (first | decide +kernel | omega)), if_neg (by (first | decide +kernel | omega))]
theorem x_line_H {b : Int → Int} {T : Nat → Int → Int} {n p : Int} (hH : x_cH b T n p ≠ 0) : x_line b T n p = (x_cH b T n p, x_fr b p) := x_sq_y hH
/-- a bit, as both programs ask for it -/
def x_bt (x : Int32) (c : Int) : Int := ((x >>> (Int32.ofInt c &&& 31)) &&& 1).toInt
def x_TB (z : Int32) (t : Int → Int) : Prop := (∀ c : Int, 0 ≤ c → c ≤ 15 → x_bt z c = t c) ∧ ∀ i : Nat, 16 ≤ i → z.toBitVec.getLsbD i = false
theorem x_TB_cg {z : Int32} {t t' : Int → Int} (e : ∀ c : Int, t' c = t c) (r : x_TB z t) : x_TB z t' := ⟨fun c h0 h1 => by rw [e c]; exact r.1 c h0 h1, r.2⟩
theorem x_bt_of {z v y s : Int32} {t : Int → Int} {V Y : Int} (tb : x_TB z t) (h0 : 0 ≤ V) (h1 : V ≤ 15) (pv : v.toInt = V) (py : y.toInt = Y) (e2 : y = s &&& 1) (e1 : s = z >>> (v &&& 31)) : Y = t V := by
  have hv : v = Int32.ofInt V := by rw [← pv, Int32.ofInt_toInt]
  rw [← tb.1 V h0 h1, ← py, e2, e1, hv]
  rfl
theorem x_nt_b (b : Int → Int) (f e : Int) : -1 ≤ x_nt b f e ∧ x_nt b f e ≤ 4 := by
  unfold x_nt
  repeat' split
  all_goals omega
theorem x_ln_b (b : Int → Int) (f e : Int) : -1 ≤ x_ln b f e ∧ x_ln b f e ≤ 9 := by
  unfold x_ln
  repeat' split
  all_goals omega
theorem x_T_0 {b : Int → Int} {p u : Int} (T : Nat → Int → Int) (hu : u = x_en b p) (hl : x_li b p = 0) : x_T b T p = x_upT T 0 0 := by
  subst hu
  unfold x_T
  rw [if_neg (by (first | decide +kernel | omega)), hl]
theorem x_D_0 {b : Int → Int} {p u : Int} (D : Nat → Int) (hu : u = x_en b p) (hl : x_li b p = 0) : x_D b D p = x_up (x_up D 144 (x_vl b u)) 145 (x_vl b (x_en b u)) := by
  subst hu
  unfold x_D
  rw [if_pos hl]
theorem x_T_1 {b : Int → Int} {p u : Int} (T : Nat → Int → Int) (hu : u = x_en b p) (hl : x_li b p = 1) : x_T b T p = x_upT T 1 (x_vl b u) := by
  subst hu
  unfold x_T
  rw [if_pos (by (first | decide +kernel | omega)), hl]
theorem x_D_1 {b : Int → Int} {p u : Int} (D : Nat → Int) (hu : u = x_en b p) (hl : x_li b p = 1) : x_D b D p = x_up D (x_vl b u) (x_vl b (x_en b u)) := by
  subst hu
  unfold x_D
  rw [if_neg (by (first | decide +kernel | omega)), if_pos hl]
theorem x_T_2 {b : Int → Int} {p u : Int} (T : Nat → Int → Int) (hu : u = x_en b p) (hl : x_li b p = 2) : x_T b T p = x_upT T 2 (x_vl b u) := by
  subst hu
  unfold x_T
  rw [if_pos (by (first | decide +kernel | omega)), hl]
theorem x_D_2 {b : Int → Int} {p u : Int} (D : Nat → Int) (hu : u = x_en b p) (hl : x_li b p = 2) : x_D b D p = x_up D (16 + (x_vl b u)) 1 := by
  subst hu
  unfold x_D
  rw [if_neg (by (first | decide +kernel | omega)), if_neg (by (first | decide +kernel | omega)), if_pos hl]
theorem x_T_3 {b : Int → Int} {p u : Int} (T : Nat → Int → Int) (hu : u = x_en b p) (hl : x_li b p = 3) : x_T b T p = x_upT T 3 (x_vl b u) := by
  subst hu
  unfold x_T
  rw [if_pos (by (first | decide +kernel | omega)), hl]
theorem x_D_3 {b : Int → Int} {p u : Int} (D : Nat → Int) (hu : u = x_en b p) (hl : x_li b p = 3) : x_D b D p = x_up D (32 + (x_vl b u)) (x_vl b (x_en b u)) := by
  subst hu
  unfold x_D
  rw [if_neg (by (first | decide +kernel | omega)), if_neg (by (first | decide +kernel | omega)), if_neg (by (first | decide +kernel | omega)), if_pos hl]
theorem x_T_4 {b : Int → Int} {p u : Int} (T : Nat → Int → Int) (hu : u = x_en b p) (hl : x_li b p = 4) : x_T b T p = x_upT T 4 (x_vl b u) := by
  subst hu
  unfold x_T
  rw [if_pos (by (first | decide +kernel | omega)), hl]
theorem x_D_4 {b : Int → Int} {p u : Int} (D : Nat → Int) (hu : u = x_en b p) (hl : x_li b p = 4) : x_D b D p = x_up D (48 + (x_vl b u)) (x_vl b (x_en b u)) := by
  subst hu
  unfold x_D
  rw [if_neg (by (first | decide +kernel | omega)), if_neg (by (first | decide +kernel | omega)), if_neg (by (first | decide +kernel | omega)), if_neg (by (first | decide +kernel | omega)), if_pos hl]
theorem x_T_5 {b : Int → Int} {p u : Int} (T : Nat → Int → Int) (hu : u = x_en b p) (hl : x_li b p = 5) : x_T b T p = x_upT T 5 (x_vl b u) := by
  subst hu
  unfold x_T
  rw [if_pos (by (first | decide +kernel | omega)), hl]
theorem x_D_5 {b : Int → Int} {p u : Int} (D : Nat → Int) (hu : u = x_en b p) (hl : x_li b p = 5) : x_D b D p = x_up D (80 + (x_vl b u)) (x_vl b (x_en b u)) := by
  subst hu
  unfold x_D
  rw [if_neg (by (first | decide +kernel | omega)), if_neg (by (first | decide +kernel | omega)), if_neg (by (first | decide +kernel | omega)), if_neg (by (first | decide +kernel | omega)), if_neg (by (first | decide +kernel | omega)), if_pos hl]
theorem x_T_6 {b : Int → Int} {p u : Int} (T : Nat → Int → Int) (hu : u = x_en b p) (hl : x_li b p = 6) : x_T b T p = x_upT T 6 0 := by
  subst hu
  unfold x_T
  rw [if_neg (by (first | decide +kernel | omega)), hl]
theorem x_D_6 {b : Int → Int} {p u : Int} (D : Nat → Int) (hu : u = x_en b p) (hl : x_li b p = 6) : x_D b D p = x_up D 146 (x_vl b u) := by
  subst hu
  unfold x_D
  rw [if_neg (by (first | decide +kernel | omega)), if_neg (by (first | decide +kernel | omega)), if_neg (by (first | decide +kernel | omega)), if_neg (by (first | decide +kernel | omega)), if_neg (by (first | decide +kernel | omega)), if_neg (by (first | decide +kernel | omega)), if_pos hl]
theorem x_T_7 {b : Int → Int} {p u : Int} (T : Nat → Int → Int) (hu : u = x_en b p) (hl : x_li b p = 7) : x_T b T p = x_upT T 7 0 := by
  subst hu
  unfold x_T
  rw [if_neg (by (first | decide +kernel | omega)), hl]
theorem x_D_7 {b : Int → Int} {p u : Int} (D : Nat → Int) (hu : u = x_en b p) (hl : x_li b p = 7) : x_D b D p = x_up D 147 (x_vl b u) := by
  subst hu
  unfold x_D
  rw [if_neg (by (first | decide +kernel | omega)), if_neg (by (first | decide +kernel | omega)), if_neg (by (first | decide +kernel | omega)), if_neg (by (first | decide +kernel | omega)), if_neg (by (first | decide +kernel | omega)), if_neg (by (first | decide +kernel | omega)), if_neg (by (first | decide +kernel | omega)), if_pos hl]
theorem x_T_8 {b : Int → Int} {p u : Int} (T : Nat → Int → Int) (hu : u = x_en b p) (hl : x_li b p = 8) : x_T b T p = x_upT T 8 0 := by
  subst hu
  unfold x_T
  rw [if_neg (by (first | decide +kernel | omega)), hl]
theorem x_D_8 {b : Int → Int} {p u : Int} (D : Nat → Int) (hu : u = x_en b p) (hl : x_li b p = 8) : x_D b D p = x_up (x_up D 84 (x_nn b u)) 85 (x_vl b (x_en b u)) := by
  subst hu
  unfold x_D
  rw [if_neg (by (first | decide +kernel | omega)), if_neg (by (first | decide +kernel | omega)), if_neg (by (first | decide +kernel | omega)), if_neg (by (first | decide +kernel | omega)), if_neg (by (first | decide +kernel | omega)), if_neg (by (first | decide +kernel | omega)), if_neg (by (first | decide +kernel | omega)), if_neg (by (first | decide +kernel | omega)), if_pos hl]
theorem x_T_9 {b : Int → Int} {p u : Int} (T : Nat → Int → Int) (hu : u = x_en b p) (hl : x_li b p = 9) : x_T b T p = x_upT T 9 0 := by
  subst hu
  unfold x_T
  rw [if_neg (by (first | decide +kernel | omega)), hl]
theorem x_D_9 {b : Int → Int} {p u : Int} (D : Nat → Int) (hu : u = x_en b p) (hl : x_li b p = 9) : x_D b D p = x_up (x_up (x_up (x_up D (87 + 3 * D 86) (x_vl b u)) (88 + 3 * D 86) (x_vl b (x_en b u))) (89 + 3 * D 86) (x_vl b (x_en b (x_en b u)))) 86 (D 86 + 1) := by
  subst hu
  unfold x_D
  rw [if_neg (by (first | decide +kernel | omega)), if_neg (by (first | decide +kernel | omega)), if_neg (by (first | decide +kernel | omega)), if_neg (by (first | decide +kernel | omega)), if_neg (by (first | decide +kernel | omega)), if_neg (by (first | decide +kernel | omega)), if_neg (by (first | decide +kernel | omega)), if_neg (by (first | decide +kernel | omega)), if_neg (by (first | decide +kernel | omega))]
theorem pq {a b c d : Int} (h1 : a = c) (h2 : b = d) : (a, b) = (c, d) := by rw [h1, h2]
theorem x_up86 {D : Nat → Int} {k v : Int} (h : k ≠ 86) : x_up D k v 86 = D 86 := if_neg (by (first | decide +kernel | omega))
end
section
theorem num_3 {b : Int → Int} {t lo hi v : Int} (h : x_kd b t = 2) (hv : v = x_vl b t) (c : v < lo ∨ hi < v) : x_cN b t lo hi = 3 := by
  rcases x_cN_s b t lo hi with ⟨a, _⟩ | ⟨_, a, _⟩ | ⟨_, _, a⟩ | ⟨_, a1, a2, _⟩
  · omega
  · omega
  · exact a
  · exfalso; omega
theorem num_0 {b : Int → Int} {t lo hi v : Int} (h : x_kd b t = 2) (hv : v = x_vl b t) (c : lo ≤ v ∧ v ≤ hi) : x_cN b t lo hi = 0 := by
  rcases x_cN_s b t lo hi with ⟨a, _⟩ | ⟨_, a, _⟩ | ⟨_, a, _⟩ | ⟨_, _, _, a⟩
  · omega
  · omega
  · exfalso; omega
  · exact a
theorem num_k {b : Int → Int} {t s f k u v r e w y a : Int} (lo hi : Int) (p : f = x_fr b t ∧ k = x_kd b t ∧ (k = 4 ∨ u = x_en b t) ∧ (k ≠ 2 ∨ v = x_vl b t ∧ 0 ≤ v ∧ v ≤ 99) ∧ t ≤ f ∧ f ≤ u ∧ u ≤ s ∧ (k = 0 ∧ f = s ∨ k ≠ 0 ∧ f < s) ∧ 0 ≤ k ∧ k ≤ 4 ∧ (k = 0 ∨ k = 4 ∨ f < u)) (q : k = 4 ∧ r = 0 ∧ e = 1 ∧ y = f ∨ k ≠ 4 ∧ k = 2 ∧ r = 1 ∧ e = w ∧ y = a ∨ k ≠ 4 ∧ k ≠ 2 ∧ r = 0 ∧ e = 2 ∧ y = f) (hr : r = 0) : x_cN b t lo hi ≠ 0 ∧ e = x_cN b t lo hi ∧ y = x_fr b t := by
  obtain ⟨p1, p2, _⟩ := p
  rcases kd_n q hr with ⟨q1, q2, q3⟩ | ⟨q1, q2, q3, q4⟩
  · rcases x_cN_s b t lo hi with ⟨_, a⟩ | ⟨a, _⟩ | ⟨a, _⟩ | ⟨a, _⟩
    · exact ⟨by (first | decide +kernel | omega), by (first | decide +kernel | omega), by (first | decide +kernel | omega)⟩
    · omega
    · omega
    · omega
  · rcases x_cN_s b t lo hi with ⟨a, _⟩ | ⟨_, _, a⟩ | ⟨a, _⟩ | ⟨a, _⟩
    · omega
    · exact ⟨by (first | decide +kernel | omega), by (first | decide +kernel | omega), by (first | decide +kernel | omega)⟩
    · omega
    · omega
theorem nu_all {b : Int → Int} {p0 c d s p g k v w a z u1 y1 q f m x u y : Int} (h1 : 0 ≤ p ∧ p ≤ s ∧ 0 ≤ w) (h2 : w ≠ 0 ∨ (g = x_fr b p0 ∧ k = x_kd b p0 ∧ k ≠ 4 ∧ 0 ≤ k ∧ k ≤ 3 ∧ p = x_en b p0 ∧ (k ≠ 2 ∨ v = x_vl b p0 ∧ 0 ≤ v ∧ v ≤ 99) ∧ p0 ≤ g ∧ g ≤ p ∧ p ≤ s ∧ (k = 0 ∨ g < p)))
    (p6 : w ≠ 0 ∧ u1 = w ∧ y1 = a ∧ z = 0 ∨ w = 0 ∧ k ≠ 2 ∧ u1 = 2 ∧ y1 = g ∧ z = 0 ∨ w = 0 ∧ k = 2 ∧ (v < c ∨ d < v) ∧ u1 = 3 ∧ y1 = g ∧ z = 0 ∨ w = 0 ∧ k = 2 ∧ c ≤ v ∧ v ≤ d ∧ u1 = 0 ∧ y1 = a ∧ z = v)
    (p18 : u1 ≠ 0 ∧ q = p ∧ f = g ∧ m = k ∧ x = v ∧ u = u1 ∧ y = y1 ∨ u1 = 0 ∧ f = x_fr b p ∧ p ≤ f ∧ f ≤ q ∧ q ≤ s ∧ (u = 1 ∧ x_kd b p = 4 ∧ y = f ∨ u = 0 ∧ y = y1 ∧ m = x_kd b p ∧ m ≠ 4 ∧ 0 ≤ m ∧ m ≤ 3 ∧ q = x_en b p ∧ (m ≠ 2 ∨ x = x_vl b p ∧ 0 ≤ x ∧ x ≤ 99) ∧ (m = 0 ∨ f < q))) :
    (w ≠ 0 ∧ u = w ∧ y = a ∧ z = 0 ∨ w = 0 ∧ x_cN b p0 c d ≠ 0 ∧ u = x_cN b p0 c d ∧ y = x_fr b p0 ∧ z = 0 ∨ w = 0 ∧ x_cN b p0 c d = 0 ∧ z = x_vl b p0 ∧ (u = 1 ∧ x_kd b (x_en b p0) = 4 ∧ y = x_fr b (x_en b p0) ∨ u = 0 ∧ f = x_fr b (x_en b p0) ∧ m = x_kd b (x_en b p0) ∧ m ≠ 4 ∧ 0 ≤ m ∧ m ≤ 3 ∧ q = x_en b (x_en b p0) ∧ (m ≠ 2 ∨ x = x_vl b (x_en b p0) ∧ 0 ≤ x ∧ x ≤ 99) ∧ (x_en b p0) ≤ f ∧ f ≤ q ∧ q ≤ s ∧ (m = 0 ∨ f < q))) ∧ 0 ≤ q ∧ q ≤ s ∧ 0 ≤ u := by
  by_cases hw : w = 0
  · obtain ⟨a1, a2, a3, a4, a5, a6, a7, a8, a9, a10, a11⟩ := h2.resolve_left (fun n => n hw)
    clear h2 a11
    have K : x_cN b p0 c d = u1 ∧ (u1 ≠ 0 ∧ 0 ≤ u1 ∧ y1 = g ∧ z = 0 ∨ u1 = 0 ∧ y1 = a ∧ z = v ∧ k = 2) := by
      clear p18
      rcases p6 with ⟨b1, _⟩ | ⟨_, b2, b3, b4, b5⟩ | ⟨_, b2, b3, b4, b5, b6⟩ | ⟨_, b2, b3, b4, b5, b6, b7⟩
      · exact absurd hw b1
      · rcases x_cN_s b p0 c d with ⟨e, _⟩ | ⟨_, _, e⟩ | ⟨e, _⟩ | ⟨e, _⟩
        · omega
        · exact ⟨by (first | decide +kernel | omega), Or.inl ⟨by (first | decide +kernel | omega), by (first | decide +kernel | omega), b4, b5⟩⟩
        · omega
        · omega
      · have e7 := a7.resolve_left (fun n => n b2)
        exact ⟨(num_3 (by (first | decide +kernel | omega)) e7.1 b3).trans b4.symm, Or.inl ⟨by (first | decide +kernel | omega), by (first | decide +kernel | omega), b5, b6⟩⟩
      · have e7 := a7.resolve_left (fun n => n b2)
        exact ⟨(num_0 (by (first | decide +kernel | omega)) e7.1 ⟨b3, b4⟩).trans b5.symm, Or.inr ⟨b5, b6, b7, b2⟩⟩
    clear p6
    rcases K with ⟨e, ⟨k1, k0, k2, k3⟩ | ⟨k1, k2, k3, k4⟩⟩
    · obtain ⟨_, q1, q2, q3, q4, q5, q6⟩ := p18.resolve_right (fun n => k1 n.1)
      exact ⟨Or.inr (Or.inl ⟨hw, by (first | decide +kernel | omega), by (first | decide +kernel | omega), by (first | decide +kernel | omega), k3⟩), by (first | decide +kernel | omega), by (first | decide +kernel | omega), by (first | decide +kernel | omega)⟩
    · obtain ⟨_, q1, q2, q3, q4, q5⟩ := p18.resolve_left (fun n => n.1 k1)
      have e7 := a7.resolve_left (fun n => n k4)
      clear p18 a7
      rw [a6] at q1 q2 q5
      rcases q5 with ⟨r1, r2, r3⟩ | ⟨r1, r2, r3, r4, r5, r6, r7, r8, r9⟩
      · exact ⟨Or.inr (Or.inr ⟨hw, e.trans k1, k3.trans e7.1, Or.inl ⟨r1, r2, r3.trans q1⟩⟩), by (first | decide +kernel | omega), by (first | decide +kernel | omega), by (first | decide +kernel | omega)⟩
      · exact ⟨Or.inr (Or.inr ⟨hw, e.trans k1, k3.trans e7.1, Or.inr ⟨r1, q1, r3, r4, r5, r6, r7, r8, q2, q3, q4, r9⟩⟩), by (first | decide +kernel | omega), by (first | decide +kernel | omega), by (first | decide +kernel | omega)⟩
  · have b1 : u1 = w ∧ y1 = a ∧ z = 0 := by
      rcases p6 with ⟨_, b⟩ | ⟨b, _⟩ | ⟨b, _⟩ | ⟨b, _⟩
      · exact b
      · exact absurd b hw
      · exact absurd b hw
      · exact absurd b hw
    clear p6 h2
    obtain ⟨_, q1, q2, q3, q4, q5, q6⟩ := p18.resolve_right (fun n => by (first | decide +kernel | omega))
    clear p18
    exact ⟨Or.inl ⟨hw, by (first | decide +kernel | omega), by (first | decide +kernel | omega), b1.2.2⟩, by (first | decide +kernel | omega), by (first | decide +kernel | omega), by (first | decide +kernel | omega)⟩
theorem cN_0 {b : Int → Int} {t lo hi : Int} (h : x_cN b t lo hi = 0) : x_kd b t = 2 ∧ lo ≤ x_vl b t ∧ x_vl b t ≤ hi := by
  rcases x_cN_s b t lo hi with ⟨_, a⟩ | ⟨_, _, a⟩ | ⟨_, _, a⟩ | ⟨a, a1, a2, _⟩
  · omega
  · omega
  · omega
  · exact ⟨a, a1, a2⟩
theorem cS_of {b : Int → Int} {t : Int} (h : x_kd b t = 3) : x_cS b t = 0 := by
  unfold x_cS
  rw [if_neg (by (first | decide +kernel | omega)), if_neg (by (first | decide +kernel | omega))]
theorem cH_0 {b : Int → Int} {T : Nat → Int → Int} {n p : Int} (k : x_kd b p = 1) (l : x_li b p ≠ -1) (a : ¬ (x_li b p = 0 ∧ T 0 0 ≠ 0 ∨ x_li b p = 6 ∧ T 6 0 ≠ 0 ∨ x_li b p = 7 ∧ T 7 0 ≠ 0 ∨ x_li b p = 8 ∧ T 8 0 ≠ 0)) (c : ¬ (x_li b p = 9 ∧ 8 ≤ n)) : x_cH b T n p = 0 := by
  rcases x_cH_s b T n p with ⟨q, _⟩ | ⟨_, q, _⟩ | ⟨_, q, _⟩ | ⟨_, _, q, _⟩ | ⟨_, q1, q2, _⟩ | q
  · omega
  · omega
  · exact absurd q l
  · exact absurd q a
  · exact absurd ⟨q1, q2⟩ c
  · omega
theorem lk_all {b : Int → Int} {p0 c d s p g k v w a z u1 y1 : Int} (h2 : g = x_fr b p0 ∧ k = x_kd b p0 ∧ k ≠ 4 ∧ 0 ≤ k ∧ k ≤ 3 ∧ p = x_en b p0 ∧ (k ≠ 2 ∨ v = x_vl b p0 ∧ 0 ≤ v ∧ v ≤ 99) ∧ p0 ≤ g ∧ g ≤ p ∧ p ≤ s ∧ (k = 0 ∨ g < p)) (hw : w = 0)
    (p6 : w ≠ 0 ∧ u1 = w ∧ y1 = a ∧ z = 0 ∨ w = 0 ∧ k ≠ 2 ∧ u1 = 2 ∧ y1 = g ∧ z = 0 ∨ w = 0 ∧ k = 2 ∧ (v < c ∨ d < v) ∧ u1 = 3 ∧ y1 = g ∧ z = 0 ∨ w = 0 ∧ k = 2 ∧ c ≤ v ∧ v ≤ d ∧ u1 = 0 ∧ y1 = a ∧ z = v) :
    x_cN b p0 c d = u1 ∧ (u1 ≠ 0 ∧ 0 ≤ u1 ∧ y1 = g ∧ z = 0 ∨ u1 = 0 ∧ y1 = a ∧ z = v ∧ k = 2 ∧ v = x_vl b p0 ∧ c ≤ v ∧ v ≤ d) := by
  obtain ⟨a1, a2, a3, a4, a5, a6, a7, a8, a9, a10, a11⟩ := h2
  clear a11
  rcases p6 with ⟨b1, _⟩ | ⟨_, b2, b3, b4, b5⟩ | ⟨_, b2, b3, b4, b5, b6⟩ | ⟨_, b2, b3, b4, b5, b6, b7⟩
  · exact absurd hw b1
  · rcases x_cN_s b p0 c d with ⟨e, _⟩ | ⟨_, _, e⟩ | ⟨e, _⟩ | ⟨e, _⟩
    · omega
    · exact ⟨by (first | decide +kernel | omega), Or.inl ⟨by (first | decide +kernel | omega), by (first | decide +kernel | omega), b4, b5⟩⟩
    · omega
    · omega
  · have e7 := a7.resolve_left (fun n => n b2)
    exact ⟨(num_3 (by (first | decide +kernel | omega)) e7.1 b3).trans b4.symm, Or.inl ⟨by (first | decide +kernel | omega), by (first | decide +kernel | omega), b5, b6⟩⟩
  · have e7 := a7.resolve_left (fun n => n b2)
    exact ⟨(num_0 (by (first | decide +kernel | omega)) e7.1 ⟨b3, b4⟩).trans b5.symm, Or.inr ⟨b5, b6, b7, b2, e7.1, b3, b4⟩⟩
theorem lx_s {b : Int → Int} {p0 s p g k v : Int} (h2 : g = x_fr b p0 ∧ k = x_kd b p0 ∧ k ≠ 4 ∧ 0 ≤ k ∧ k ≤ 3 ∧ p = x_en b p0 ∧ (k ≠ 2 ∨ v = x_vl b p0 ∧ 0 ≤ v ∧ v ≤ 99) ∧ p0 ≤ g ∧ g ≤ p ∧ p ≤ s ∧ (k = 0 ∨ g < p)) : g = x_fr b p0 ∧ k = x_kd b p0 ∧ k ≠ 4 ∧ 0 ≤ k ∧ k ≤ 3 ∧ p = x_en b p0 ∧ p0 ≤ g ∧ g ≤ p ∧ p ≤ s := ⟨h2.1, h2.2.1, h2.2.2.1, h2.2.2.2.1, h2.2.2.2.2.1, h2.2.2.2.2.2.1, h2.2.2.2.2.2.2.2.1, h2.2.2.2.2.2.2.2.2.1, h2.2.2.2.2.2.2.2.2.2.1⟩
theorem nx_1 {b : Int → Int} {w f p q s u y m x a : Int} (h : w = 0 ∧ f = x_fr b p ∧ p ≤ f ∧ f ≤ q ∧ q ≤ s ∧ (u = 1 ∧ x_kd b p = 4 ∧ y = f ∨ u = 0 ∧ y = a ∧ m = x_kd b p ∧ m ≠ 4 ∧ 0 ≤ m ∧ m ≤ 3 ∧ q = x_en b p ∧ (m ≠ 2 ∨ x = x_vl b p ∧ 0 ≤ x ∧ x ≤ 99) ∧ (m = 0 ∨ f < q))) (hu : u ≠ 0) : w = 0 ∧ f = x_fr b p ∧ p ≤ f ∧ f ≤ q ∧ q ≤ s ∧ u = 1 ∧ x_kd b p = 4 ∧ y = f := by
  obtain ⟨h1, h2, h3, h4, h5, h6⟩ := h
  exact ⟨h1, h2, h3, h4, h5, h6.resolve_right (fun n => hu n.1)⟩
theorem nx_0 {b : Int → Int} {w f p q s u y m x a : Int} (h : w = 0 ∧ f = x_fr b p ∧ p ≤ f ∧ f ≤ q ∧ q ≤ s ∧ (u = 1 ∧ x_kd b p = 4 ∧ y = f ∨ u = 0 ∧ y = a ∧ m = x_kd b p ∧ m ≠ 4 ∧ 0 ≤ m ∧ m ≤ 3 ∧ q = x_en b p ∧ (m ≠ 2 ∨ x = x_vl b p ∧ 0 ≤ x ∧ x ≤ 99) ∧ (m = 0 ∨ f < q))) (hu : u = 0) : w = 0 ∧ f = x_fr b p ∧ p ≤ f ∧ f ≤ q ∧ q ≤ s ∧ u = 0 ∧ y = a ∧ m = x_kd b p ∧ m ≠ 4 ∧ 0 ≤ m ∧ m ≤ 3 ∧ q = x_en b p ∧ (m ≠ 2 ∨ x = x_vl b p ∧ 0 ≤ x ∧ x ≤ 99) ∧ (m = 0 ∨ f < q) := by
  obtain ⟨h1, h2, h3, h4, h5, h6⟩ := h
  exact ⟨h1, h2, h3, h4, h5, h6.resolve_left (fun n => by (first | decide +kernel | omega))⟩
theorem nx_e {b : Int → Int} {w f p q s u y m x a e : Int} (h : w = 0 ∧ f = x_fr b p ∧ p ≤ f ∧ f ≤ q ∧ q ≤ s ∧ (u = 1 ∧ x_kd b p = 4 ∧ y = f ∨ u = 0 ∧ y = a ∧ m = x_kd b p ∧ m ≠ 4 ∧ 0 ≤ m ∧ m ≤ 3 ∧ q = x_en b p ∧ (m ≠ 2 ∨ x = x_vl b p ∧ 0 ≤ x ∧ x ≤ 99) ∧ (m = 0 ∨ f < q))) (hp : p = e) : u = 1 ∧ x_kd b e = 4 ∧ y = x_fr b e ∨ u = 0 ∧ f = x_fr b e ∧ m = x_kd b e ∧ m ≠ 4 ∧ 0 ≤ m ∧ m ≤ 3 ∧ q = x_en b e ∧ (m ≠ 2 ∨ x = x_vl b e ∧ 0 ≤ x ∧ x ≤ 99) ∧ e ≤ f ∧ f ≤ q ∧ q ≤ s ∧ (m = 0 ∨ f < q) := by
  subst hp
  obtain ⟨h1, h2, h3, h4, h5, ⟨r1, r2, r3⟩ | ⟨r1, r2, r3, r4, r5, r6, r7, r8, r9⟩⟩ := h
  · exact Or.inl ⟨r1, r2, r3.trans h2⟩
  · exact Or.inr ⟨r1, h2, r3, r4, r5, r6, r7, r8, h3, h4, h5, r9⟩
theorem lx_of {b : Int → Int} {w f p q s u y m x a e : Int} (h : w = 0 ∧ f = x_fr b p ∧ p ≤ f ∧ f ≤ q ∧ q ≤ s ∧ u = 0 ∧ y = a ∧ m = x_kd b p ∧ m ≠ 4 ∧ 0 ≤ m ∧ m ≤ 3 ∧ q = x_en b p ∧ (m ≠ 2 ∨ x = x_vl b p ∧ 0 ≤ x ∧ x ≤ 99) ∧ (m = 0 ∨ f < q)) (hp : p = e) : f = x_fr b e ∧ m = x_kd b e ∧ m ≠ 4 ∧ 0 ≤ m ∧ m ≤ 3 ∧ q = x_en b e ∧ (m ≠ 2 ∨ x = x_vl b e ∧ 0 ≤ x ∧ x ≤ 99) ∧ e ≤ f ∧ f ≤ q ∧ q ≤ s ∧ (m = 0 ∨ f < q) := by
  subst hp
  obtain ⟨h1, h2, h3, h4, h5, r1, r2, r3, r4, r5, r6, r7, r8, r9⟩ := h
  exact ⟨h2, r3, r4, r5, r6, r7, r8, h3, h4, h5, r9⟩
theorem cH_1 {b : Int → Int} {T : Nat → Int → Int} {n p : Int} (k : x_kd b p = 4) : x_cH b T n p = 1 := by
  rcases x_cH_s b T n p with ⟨_, q⟩ | ⟨q, _⟩ | ⟨q, _⟩ | ⟨q, _⟩ | ⟨q, _⟩ | ⟨q, _⟩
  · exact q
  · exact absurd k q
  · omega
  · omega
  · omega
  · omega
theorem cH_2 {b : Int → Int} {T : Nat → Int → Int} {n p : Int} (k : x_kd b p ≠ 4) (l : x_kd b p ≠ 1 ∨ x_li b p = -1) : x_cH b T n p = 2 := by
  rcases x_cH_s b T n p with ⟨q, _⟩ | ⟨_, _, q⟩ | ⟨_, _, q⟩ | ⟨q, q2, _⟩ | ⟨q, q2, _⟩ | ⟨q, q2, _⟩
  · exact absurd q k
  · exact q
  · exact q
  · rcases l with l | l
    · exact absurd q l
    · exact absurd l q2
  · rcases l with l | l
    · exact absurd q l
    · omega
  · rcases l with l | l
    · exact absurd q l
    · exact absurd l q2
theorem cH_4 {b : Int → Int} {T : Nat → Int → Int} {n p : Int} (k : x_kd b p = 1) (l : x_li b p ≠ -1) (a : x_li b p = 0 ∧ T 0 0 ≠ 0 ∨ x_li b p = 6 ∧ T 6 0 ≠ 0 ∨ x_li b p = 7 ∧ T 7 0 ≠ 0 ∨ x_li b p = 8 ∧ T 8 0 ≠ 0) : x_cH b T n p = 4 := by
  rcases x_cH_s b T n p with ⟨q, _⟩ | ⟨_, q, _⟩ | ⟨_, q, _⟩ | ⟨_, _, _, q⟩ | ⟨_, q, _⟩ | ⟨_, _, q, _⟩
  · omega
  · exact absurd k q
  · exact absurd q l
  · exact q
  · omega
  · exact absurd a q
theorem cH_5 {b : Int → Int} {T : Nat → Int → Int} {n p : Int} (k : x_kd b p = 1) (l : x_li b p = 9) (c : 8 ≤ n) : x_cH b T n p = 5 := by
  rcases x_cH_s b T n p with ⟨q, _⟩ | ⟨_, q, _⟩ | ⟨_, q, _⟩ | ⟨_, _, q, _⟩ | ⟨_, _, _, q⟩ | ⟨_, _, _, q, _⟩
  · omega
  · exact absurd k q
  · omega
  · omega
  · exact q
  · exact absurd ⟨l, c⟩ q
end
