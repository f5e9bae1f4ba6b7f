section
/-- a tape at a place of the heap: its bytes are b -/
def TP (h : Hp) (k : Nat) (s : Int) (b : Int → Int) : Prop := ∀ j : Int, 0 ≤ j → (j < s ∧ (h.1 k j.toNat).toInt = b j ∧ 0 ≤ b j ∧ b j ≤ 127 ∨ s ≤ j ∧ b j = -1)
theorem TP_fr {S : List (Nat × Option Nat)} {h h' : Hp} {k : Nat} {s : Int} {b : Int → Int} (f : fr S h h') (hk : ∀ i : Nat, inS S k i = false) (t : TP h k s b) : TP h' k s b := fun j hj => by
  have := t j hj
  rw [f.1 k j.toNat (hk _)]
  exact this
theorem TP_rd {h : Hp} {k : Nat} {s : Int} {b : Int → Int} (t : TP h k s b) {j : Int} (hj : 0 ≤ j ∧ j < s) {y : Int32} {Y : Int} (p : y.toInt = Y) (e : y = h.1 k j.toNat) : Y = b j := by
  rcases t j hj.1 with q | q
  · rw [← p, e]; exact q.2.1
  · omega
theorem TP_b {h : Hp} {k : Nat} {s : Int} {b : Int → Int} (t : TP h k s b) (j : Int) (hj : 0 ≤ j) : j < s ∧ 0 ≤ b j ∧ b j ≤ 127 ∨ s ≤ j ∧ b j = -1 := by
  rcases t j hj with q | q
  · exact Or.inl ⟨q.1, q.2.2⟩
  · exact Or.inr q
def blB (x : Int) : Bool := decide (x = 32)
def leB (x : Int) : Bool := decide (97 ≤ x ∧ x ≤ 122)
def fiB (x : Int) : Bool := decide (48 ≤ x ∧ x ≤ 57)
theorem blB_y {x : Int} (h : x = 32) : blB x = true := decide_eq_true h
theorem blB_n {x : Int} (h : x ≠ 32) : blB x = false := decide_eq_false h
theorem leB_y {x : Int} (h : 97 ≤ x ∧ x ≤ 122) : leB x = true := decide_eq_true h
theorem leB_n {x : Int} (h : ¬ (97 ≤ x ∧ x ≤ 122)) : leB x = false := decide_eq_false h
theorem fiB_y {x : Int} (h : 48 ≤ x ∧ x ≤ 57) : fiB x = true := decide_eq_true h
theorem fiB_n {x : Int} (h : ¬ (48 ≤ x ∧ x ≤ 57)) : fiB x = false := decide_eq_false h
/-- the first place from p on whose byte is not so -/
def rnF (P : Int → Bool) (b : Int → Int) : Nat → Int → Int
  | 0, p => p
  | k + 1, p => if P (b p) = true then rnF P b k (p + 1) else p
def rn (P : Int → Bool) (b : Int → Int) (p : Int) : Int := rnF P b (161 - p).toNat p
theorem rn_stop {P : Int → Bool} {b : Int → Int} {p : Int} (h : P (b p) = false) : rn P b p = p := by
  unfold rn
  generalize (161 - p).toNat = k
  cases k with
  | zero => rfl
  | succ k => show (if P (b p) = true then _ else p) = p; rw [h]; rfl
theorem rn_step {P : Int → Bool} {b : Int → Int} {p : Int} (h : P (b p) = true) (hp : p ≤ 160) : rn P b p = rn P b (p + 1) := by
  unfold rn
  have e : (161 - p).toNat = (161 - (p + 1)).toNat + 1 := by omega
  rw [e]
  show (if P (b p) = true then _ else p) = _
  rw [if_pos h]
/-- the TOKEN behind p: where it begins, its kind, where it ends, its number -/
def x_fr (b : Int → Int) (p : Int) : Int := rn blB b p
def x_en (b : Int → Int) (p : Int) : Int := if leB (b (x_fr b p)) = true then rn leB b (x_fr b p) else if fiB (b (x_fr b p)) = true then rn fiB b (x_fr b p) else if b (x_fr b p) = 59 then x_fr b p + 1 else x_fr b p
def x_kd (b : Int → Int) (p : Int) : Int := if b (x_fr b p) < 0 then 0 else if leB (b (x_fr b p)) = true then 1 else if fiB (b (x_fr b p)) = true then (if x_en b p - x_fr b p ≤ 2 then 2 else 4) else if b (x_fr b p) = 59 then 3 else 4
def x_vl (b : Int → Int) (p : Int) : Int := if x_en b p - x_fr b p = 1 then b (x_fr b p) - 48 else 10 * (b (x_fr b p) - 48) + (b (x_fr b p + 1) - 48)
theorem tok_0 {b : Int → Int} {p f : Int} (hf : f = x_fr b p) (h : b f < 0) : x_kd b p = 0 ∧ x_en b p = f := by
  subst hf
  unfold x_kd x_en
  rw [if_pos h, leB_n (by omega), fiB_n (by omega), if_neg (by decide), if_neg (by decide), if_neg (by omega)]
  exact ⟨rfl, rfl⟩
theorem tok_1 {b : Int → Int} {p f u : Int} (hf : f = x_fr b p) (h : 97 ≤ b f ∧ b f ≤ 122) (hu : u = rn leB b f) : x_kd b p = 1 ∧ x_en b p = u := by
  subst hf
  unfold x_kd x_en
  rw [if_neg (by omega), leB_y h, if_pos rfl, if_pos rfl, hu]
  exact ⟨rfl, rfl⟩
theorem tok_2 {b : Int → Int} {p f u : Int} (hf : f = x_fr b p) (h : 48 ≤ b f ∧ b f ≤ 57) (hu : u = rn fiB b f) : x_en b p = u ∧ (u - f ≤ 2 ∧ x_kd b p = 2 ∨ 2 < u - f ∧ x_kd b p = 4) := by
  subst hf
  have e : x_en b p = u := by
    unfold x_en
    rw [leB_n (by omega), if_neg (by decide), fiB_y h, if_pos rfl, hu]
  refine ⟨e, ?_⟩
  unfold x_kd
  rw [if_neg (by omega), leB_n (by omega), if_neg (by decide), fiB_y h, if_pos rfl, e]
  by_cases q : u - x_fr b p ≤ 2
  · rw [if_pos q]; exact Or.inl ⟨q, rfl⟩
  · rw [if_neg q]; exact Or.inr ⟨by omega, rfl⟩
theorem tok_3 {b : Int → Int} {p f : Int} (hf : f = x_fr b p) (h : b f = 59) : x_kd b p = 3 ∧ x_en b p = f + 1 := by
  subst hf
  have h1 : leB (b (x_fr b p)) = false := leB_n (by omega)
  have h2 : fiB (b (x_fr b p)) = false := fiB_n (by omega)
  unfold x_kd x_en
  rw [h1, h2, h]
  exact ⟨rfl, rfl⟩
theorem tok_4 {b : Int → Int} {p f : Int} (hf : f = x_fr b p) (h : 0 ≤ b f ∧ ¬ (97 ≤ b f ∧ b f ≤ 122) ∧ ¬ (48 ≤ b f ∧ b f ≤ 57) ∧ b f ≠ 59) : x_kd b p = 4 := by
  subst hf
  unfold x_kd
  rw [if_neg (by omega), leB_n h.2.1, fiB_n h.2.2.1, if_neg (by decide), if_neg (by decide), if_neg h.2.2.2]
theorem tok_v {b : Int → Int} {p f u v : Int} (hf : f = x_fr b p) (hu : u = x_en b p) (h : u - f = 1 ∧ v = b f - 48 ∨ u - f = 2 ∧ v = 10 * (b f - 48) + (b (f + 1) - 48)) : v = x_vl b p := by
  subst hf hu
  unfold x_vl
  rcases h with h | h
  · rw [if_pos h.1]; exact h.2
  · rw [if_neg (by omega)]; exact h.2
def x_nm0 (b : Int → Int) (f e : Int) : Int := if e - f = 6 ∧ b (f + 0) = 99 ∧ b (f + 1) = 111 ∧ b (f + 2) = 117 ∧ b (f + 3) = 110 ∧ b (f + 4) = 116 ∧ b (f + 5) = 121 then 1 else 0
theorem x_nmy0 {b : Int → Int} {f e : Int} (h : e - f = 6 ∧ b (f + 0) = 99 ∧ b (f + 1) = 111 ∧ b (f + 2) = 117 ∧ b (f + 3) = 110 ∧ b (f + 4) = 116 ∧ b (f + 5) = 121) : x_nm0 b f e = 1 := if_pos h
theorem x_nmn0 {b : Int → Int} {f e : Int} (h : ¬ (e - f = 6 ∧ b (f + 0) = 99 ∧ b (f + 1) = 111 ∧ b (f + 2) = 117 ∧ b (f + 3) = 110 ∧ b (f + 4) = 116 ∧ b (f + 5) = 121)) : x_nm0 b f e = 0 := if_neg h
theorem x_nmb0 (b : Int → Int) (f e : Int) : x_nm0 b f e = 0 ∨ x_nm0 b f e = 1 := by
  unfold x_nm0
  split
  · exact Or.inr rfl
  · exact Or.inl rfl
theorem x_nmc0 {b : Int → Int} {f e : Int} (h : x_nm0 b f e = 1) : e - f = 6 ∧ b (f + 0) = 99 ∧ b (f + 1) = 111 ∧ b (f + 2) = 117 ∧ b (f + 3) = 110 ∧ b (f + 4) = 116 ∧ b (f + 5) = 121 := by
  unfold x_nm0 at h
  split at h
  · next q => exact q
  · omega
def x_nm1 (b : Int → Int) (f e : Int) : Int := if e - f = 3 ∧ b (f + 0) = 119 ∧ b (f + 1) = 101 ∧ b (f + 2) = 116 then 1 else 0
theorem x_nmy1 {b : Int → Int} {f e : Int} (h : e - f = 3 ∧ b (f + 0) = 119 ∧ b (f + 1) = 101 ∧ b (f + 2) = 116) : x_nm1 b f e = 1 := if_pos h
theorem x_nmn1 {b : Int → Int} {f e : Int} (h : ¬ (e - f = 3 ∧ b (f + 0) = 119 ∧ b (f + 1) = 101 ∧ b (f + 2) = 116)) : x_nm1 b f e = 0 := if_neg h
theorem x_nmb1 (b : Int → Int) (f e : Int) : x_nm1 b f e = 0 ∨ x_nm1 b f e = 1 := by
  unfold x_nm1
  split
  · exact Or.inr rfl
  · exact Or.inl rfl
theorem x_nmc1 {b : Int → Int} {f e : Int} (h : x_nm1 b f e = 1) : e - f = 3 ∧ b (f + 0) = 119 ∧ b (f + 1) = 101 ∧ b (f + 2) = 116 := by
  unfold x_nm1 at h
  split at h
  · next q => exact q
  · omega
def x_nm2 (b : Int → Int) (f e : Int) : Int := if e - f = 4 ∧ b (f + 0) = 105 ∧ b (f + 1) = 114 ∧ b (f + 2) = 111 ∧ b (f + 3) = 110 then 1 else 0
theorem x_nmy2 {b : Int → Int} {f e : Int} (h : e - f = 4 ∧ b (f + 0) = 105 ∧ b (f + 1) = 114 ∧ b (f + 2) = 111 ∧ b (f + 3) = 110) : x_nm2 b f e = 1 := if_pos h
theorem x_nmn2 {b : Int → Int} {f e : Int} (h : ¬ (e - f = 4 ∧ b (f + 0) = 105 ∧ b (f + 1) = 114 ∧ b (f + 2) = 111 ∧ b (f + 3) = 110)) : x_nm2 b f e = 0 := if_neg h
theorem x_nmb2 (b : Int → Int) (f e : Int) : x_nm2 b f e = 0 ∨ x_nm2 b f e = 1 := by
  unfold x_nm2
  split
  · exact Or.inr rfl
  · exact Or.inl rfl
theorem x_nmc2 {b : Int → Int} {f e : Int} (h : x_nm2 b f e = 1) : e - f = 4 ∧ b (f + 0) = 105 ∧ b (f + 1) = 114 ∧ b (f + 2) = 111 ∧ b (f + 3) = 110 := by
  unfold x_nm2 at h
  split at h
  · next q => exact q
  · omega
def x_nm3 (b : Int → Int) (f e : Int) : Int := if e - f = 4 ∧ b (f + 0) = 111 ∧ b (f + 1) = 100 ∧ b (f + 2) = 100 ∧ b (f + 3) = 115 then 1 else 0
theorem x_nmy3 {b : Int → Int} {f e : Int} (h : e - f = 4 ∧ b (f + 0) = 111 ∧ b (f + 1) = 100 ∧ b (f + 2) = 100 ∧ b (f + 3) = 115) : x_nm3 b f e = 1 := if_pos h
theorem x_nmn3 {b : Int → Int} {f e : Int} (h : ¬ (e - f = 4 ∧ b (f + 0) = 111 ∧ b (f + 1) = 100 ∧ b (f + 2) = 100 ∧ b (f + 3) = 115)) : x_nm3 b f e = 0 := if_neg h
theorem x_nmb3 (b : Int → Int) (f e : Int) : x_nm3 b f e = 0 ∨ x_nm3 b f e = 1 := by
  unfold x_nm3
  split
  · exact Or.inr rfl
  · exact Or.inl rfl
theorem x_nmc3 {b : Int → Int} {f e : Int} (h : x_nm3 b f e = 1) : e - f = 4 ∧ b (f + 0) = 111 ∧ b (f + 1) = 100 ∧ b (f + 2) = 100 ∧ b (f + 3) = 115 := by
  unfold x_nm3 at h
  split at h
  · next q => exact q
  · omega
def x_nm4 (b : Int → Int) (f e : Int) : Int := if e - f = 5 ∧ b (f + 0) = 99 ∧ b (f + 1) = 108 ∧ b (f + 2) = 97 ∧ b (f + 3) = 105 ∧ b (f + 4) = 109 then 1 else 0
theorem x_nmy4 {b : Int → Int} {f e : Int} (h : e - f = 5 ∧ b (f + 0) = 99 ∧ b (f + 1) = 108 ∧ b (f + 2) = 97 ∧ b (f + 3) = 105 ∧ b (f + 4) = 109) : x_nm4 b f e = 1 := if_pos h
theorem x_nmn4 {b : Int → Int} {f e : Int} (h : ¬ (e - f = 5 ∧ b (f + 0) = 99 ∧ b (f + 1) = 108 ∧ b (f + 2) = 97 ∧ b (f + 3) = 105 ∧ b (f + 4) = 109)) : x_nm4 b f e = 0 := if_neg h
theorem x_nmb4 (b : Int → Int) (f e : Int) : x_nm4 b f e = 0 ∨ x_nm4 b f e = 1 := by
  unfold x_nm4
  split
  · exact Or.inr rfl
  · exact Or.inl rfl
theorem x_nmc4 {b : Int → Int} {f e : Int} (h : x_nm4 b f e = 1) : e - f = 5 ∧ b (f + 0) = 99 ∧ b (f + 1) = 108 ∧ b (f + 2) = 97 ∧ b (f + 3) = 105 ∧ b (f + 4) = 109 := by
  unfold x_nm4 at h
  split at h
  · next q => exact q
  · omega
def x_nm5 (b : Int → Int) (f e : Int) : Int := if e - f = 5 ∧ b (f + 0) = 112 ∧ b (f + 1) = 117 ∧ b (f + 2) = 114 ∧ b (f + 3) = 115 ∧ b (f + 4) = 101 then 1 else 0
theorem x_nmy5 {b : Int → Int} {f e : Int} (h : e - f = 5 ∧ b (f + 0) = 112 ∧ b (f + 1) = 117 ∧ b (f + 2) = 114 ∧ b (f + 3) = 115 ∧ b (f + 4) = 101) : x_nm5 b f e = 1 := if_pos h
theorem x_nmn5 {b : Int → Int} {f e : Int} (h : ¬ (e - f = 5 ∧ b (f + 0) = 112 ∧ b (f + 1) = 117 ∧ b (f + 2) = 114 ∧ b (f + 3) = 115 ∧ b (f + 4) = 101)) : x_nm5 b f e = 0 := if_neg h
theorem x_nmb5 (b : Int → Int) (f e : Int) : x_nm5 b f e = 0 ∨ x_nm5 b f e = 1 := by
  unfold x_nm5
  split
  · exact Or.inr rfl
  · exact Or.inl rfl
theorem x_nmc5 {b : Int → Int} {f e : Int} (h : x_nm5 b f e = 1) : e - f = 5 ∧ b (f + 0) = 112 ∧ b (f + 1) = 117 ∧ b (f + 2) = 114 ∧ b (f + 3) = 115 ∧ b (f + 4) = 101 := by
  unfold x_nm5 at h
  split at h
  · next q => exact q
  · omega
def x_nm6 (b : Int → Int) (f e : Int) : Int := if e - f = 4 ∧ b (f + 0) = 99 ∧ b (f + 1) = 111 ∧ b (f + 2) = 115 ∧ b (f + 3) = 116 then 1 else 0
theorem x_nmy6 {b : Int → Int} {f e : Int} (h : e - f = 4 ∧ b (f + 0) = 99 ∧ b (f + 1) = 111 ∧ b (f + 2) = 115 ∧ b (f + 3) = 116) : x_nm6 b f e = 1 := if_pos h
theorem x_nmn6 {b : Int → Int} {f e : Int} (h : ¬ (e - f = 4 ∧ b (f + 0) = 99 ∧ b (f + 1) = 111 ∧ b (f + 2) = 115 ∧ b (f + 3) = 116)) : x_nm6 b f e = 0 := if_neg h
theorem x_nmb6 (b : Int → Int) (f e : Int) : x_nm6 b f e = 0 ∨ x_nm6 b f e = 1 := by
  unfold x_nm6
  split
  · exact Or.inr rfl
  · exact Or.inl rfl
theorem x_nmc6 {b : Int → Int} {f e : Int} (h : x_nm6 b f e = 1) : e - f = 4 ∧ b (f + 0) = 99 ∧ b (f + 1) = 111 ∧ b (f + 2) = 115 ∧ b (f + 3) = 116 := by
  unfold x_nm6 at h
  split at h
  · next q => exact q
  · omega
def x_nm7 (b : Int → Int) (f e : Int) : Int := if e - f = 5 ∧ b (f + 0) = 112 ∧ b (f + 1) = 114 ∧ b (f + 2) = 105 ∧ b (f + 3) = 99 ∧ b (f + 4) = 101 then 1 else 0
theorem x_nmy7 {b : Int → Int} {f e : Int} (h : e - f = 5 ∧ b (f + 0) = 112 ∧ b (f + 1) = 114 ∧ b (f + 2) = 105 ∧ b (f + 3) = 99 ∧ b (f + 4) = 101) : x_nm7 b f e = 1 := if_pos h
theorem x_nmn7 {b : Int → Int} {f e : Int} (h : ¬ (e - f = 5 ∧ b (f + 0) = 112 ∧ b (f + 1) = 114 ∧ b (f + 2) = 105 ∧ b (f + 3) = 99 ∧ b (f + 4) = 101)) : x_nm7 b f e = 0 := if_neg h
theorem x_nmb7 (b : Int → Int) (f e : Int) : x_nm7 b f e = 0 ∨ x_nm7 b f e = 1 := by
  unfold x_nm7
  split
  · exact Or.inr rfl
  · exact Or.inl rfl
theorem x_nmc7 {b : Int → Int} {f e : Int} (h : x_nm7 b f e = 1) : e - f = 5 ∧ b (f + 0) = 112 ∧ b (f + 1) = 114 ∧ b (f + 2) = 105 ∧ b (f + 3) = 99 ∧ b (f + 4) = 101 := by
  unfold x_nm7 at h
  split at h
  · next q => exact q
  · omega
def x_nm8 (b : Int → Int) (f e : Int) : Int := if e - f = 3 ∧ b (f + 0) = 114 ∧ b (f + 1) = 111 ∧ b (f + 2) = 100 then 1 else 0
theorem x_nmy8 {b : Int → Int} {f e : Int} (h : e - f = 3 ∧ b (f + 0) = 114 ∧ b (f + 1) = 111 ∧ b (f + 2) = 100) : x_nm8 b f e = 1 := if_pos h
theorem x_nmn8 {b : Int → Int} {f e : Int} (h : ¬ (e - f = 3 ∧ b (f + 0) = 114 ∧ b (f + 1) = 111 ∧ b (f + 2) = 100)) : x_nm8 b f e = 0 := if_neg h
theorem x_nmb8 (b : Int → Int) (f e : Int) : x_nm8 b f e = 0 ∨ x_nm8 b f e = 1 := by
  unfold x_nm8
  split
  · exact Or.inr rfl
  · exact Or.inl rfl
theorem x_nmc8 {b : Int → Int} {f e : Int} (h : x_nm8 b f e = 1) : e - f = 3 ∧ b (f + 0) = 114 ∧ b (f + 1) = 111 ∧ b (f + 2) = 100 := by
  unfold x_nm8 at h
  split at h
  · next q => exact q
  · omega
def x_nm9 (b : Int → Int) (f e : Int) : Int := if e - f = 3 ∧ b (f + 0) = 111 ∧ b (f + 1) = 119 ∧ b (f + 2) = 101 then 1 else 0
theorem x_nmy9 {b : Int → Int} {f e : Int} (h : e - f = 3 ∧ b (f + 0) = 111 ∧ b (f + 1) = 119 ∧ b (f + 2) = 101) : x_nm9 b f e = 1 := if_pos h
theorem x_nmn9 {b : Int → Int} {f e : Int} (h : ¬ (e - f = 3 ∧ b (f + 0) = 111 ∧ b (f + 1) = 119 ∧ b (f + 2) = 101)) : x_nm9 b f e = 0 := if_neg h
theorem x_nmb9 (b : Int → Int) (f e : Int) : x_nm9 b f e = 0 ∨ x_nm9 b f e = 1 := by
  unfold x_nm9
  split
  · exact Or.inr rfl
  · exact Or.inl rfl
theorem x_nmc9 {b : Int → Int} {f e : Int} (h : x_nm9 b f e = 1) : e - f = 3 ∧ b (f + 0) = 111 ∧ b (f + 1) = 119 ∧ b (f + 2) = 101 := by
  unfold x_nm9 at h
  split at h
  · next q => exact q
  · omega
def x_nm10 (b : Int → Int) (f e : Int) : Int := if e - f = 5 ∧ b (f + 0) = 119 ∧ b (f + 1) = 97 ∧ b (f + 2) = 116 ∧ b (f + 3) = 101 ∧ b (f + 4) = 114 then 1 else 0
theorem x_nmy10 {b : Int → Int} {f e : Int} (h : e - f = 5 ∧ b (f + 0) = 119 ∧ b (f + 1) = 97 ∧ b (f + 2) = 116 ∧ b (f + 3) = 101 ∧ b (f + 4) = 114) : x_nm10 b f e = 1 := if_pos h
theorem x_nmn10 {b : Int → Int} {f e : Int} (h : ¬ (e - f = 5 ∧ b (f + 0) = 119 ∧ b (f + 1) = 97 ∧ b (f + 2) = 116 ∧ b (f + 3) = 101 ∧ b (f + 4) = 114)) : x_nm10 b f e = 0 := if_neg h
theorem x_nmb10 (b : Int → Int) (f e : Int) : x_nm10 b f e = 0 ∨ x_nm10 b f e = 1 := by
  unfold x_nm10
  split
  · exact Or.inr rfl
  · exact Or.inl rfl
theorem x_nmc10 {b : Int → Int} {f e : Int} (h : x_nm10 b f e = 1) : e - f = 5 ∧ b (f + 0) = 119 ∧ b (f + 1) = 97 ∧ b (f + 2) = 116 ∧ b (f + 3) = 101 ∧ b (f + 4) = 114 := by
  unfold x_nm10 at h
  split at h
  · next q => exact q
  · omega
def x_nm11 (b : Int → Int) (f e : Int) : Int := if e - f = 5 ∧ b (f + 0) = 115 ∧ b (f + 1) = 116 ∧ b (f + 2) = 101 ∧ b (f + 3) = 112 ∧ b (f + 4) = 115 then 1 else 0
theorem x_nmy11 {b : Int → Int} {f e : Int} (h : e - f = 5 ∧ b (f + 0) = 115 ∧ b (f + 1) = 116 ∧ b (f + 2) = 101 ∧ b (f + 3) = 112 ∧ b (f + 4) = 115) : x_nm11 b f e = 1 := if_pos h
theorem x_nmn11 {b : Int → Int} {f e : Int} (h : ¬ (e - f = 5 ∧ b (f + 0) = 115 ∧ b (f + 1) = 116 ∧ b (f + 2) = 101 ∧ b (f + 3) = 112 ∧ b (f + 4) = 115)) : x_nm11 b f e = 0 := if_neg h
theorem x_nmb11 (b : Int → Int) (f e : Int) : x_nm11 b f e = 0 ∨ x_nm11 b f e = 1 := by
  unfold x_nm11
  split
  · exact Or.inr rfl
  · exact Or.inl rfl
theorem x_nmc11 {b : Int → Int} {f e : Int} (h : x_nm11 b f e = 1) : e - f = 5 ∧ b (f + 0) = 115 ∧ b (f + 1) = 116 ∧ b (f + 2) = 101 ∧ b (f + 3) = 112 ∧ b (f + 4) = 115 := by
  unfold x_nm11 at h
  split at h
  · next q => exact q
  · omega
def x_nm12 (b : Int → Int) (f e : Int) : Int := if e - f = 6 ∧ b (f + 0) = 119 ∧ b (f + 1) = 105 ∧ b (f + 2) = 115 ∧ b (f + 3) = 104 ∧ b (f + 4) = 101 ∧ b (f + 5) = 115 then 1 else 0
theorem x_nmy12 {b : Int → Int} {f e : Int} (h : e - f = 6 ∧ b (f + 0) = 119 ∧ b (f + 1) = 105 ∧ b (f + 2) = 115 ∧ b (f + 3) = 104 ∧ b (f + 4) = 101 ∧ b (f + 5) = 115) : x_nm12 b f e = 1 := if_pos h
theorem x_nmn12 {b : Int → Int} {f e : Int} (h : ¬ (e - f = 6 ∧ b (f + 0) = 119 ∧ b (f + 1) = 105 ∧ b (f + 2) = 115 ∧ b (f + 3) = 104 ∧ b (f + 4) = 101 ∧ b (f + 5) = 115)) : x_nm12 b f e = 0 := if_neg h
theorem x_nmb12 (b : Int → Int) (f e : Int) : x_nm12 b f e = 0 ∨ x_nm12 b f e = 1 := by
  unfold x_nm12
  split
  · exact Or.inr rfl
  · exact Or.inl rfl
theorem x_nmc12 {b : Int → Int} {f e : Int} (h : x_nm12 b f e = 1) : e - f = 6 ∧ b (f + 0) = 119 ∧ b (f + 1) = 105 ∧ b (f + 2) = 115 ∧ b (f + 3) = 104 ∧ b (f + 4) = 101 ∧ b (f + 5) = 115 := by
  unfold x_nm12 at h
  split at h
  · next q => exact q
  · omega
def x_nm13 (b : Int → Int) (f e : Int) : Int := if e - f = 4 ∧ b (f + 0) = 98 ∧ b (f + 1) = 111 ∧ b (f + 2) = 116 ∧ b (f + 3) = 104 then 1 else 0
theorem x_nmy13 {b : Int → Int} {f e : Int} (h : e - f = 4 ∧ b (f + 0) = 98 ∧ b (f + 1) = 111 ∧ b (f + 2) = 116 ∧ b (f + 3) = 104) : x_nm13 b f e = 1 := if_pos h
theorem x_nmn13 {b : Int → Int} {f e : Int} (h : ¬ (e - f = 4 ∧ b (f + 0) = 98 ∧ b (f + 1) = 111 ∧ b (f + 2) = 116 ∧ b (f + 3) = 104)) : x_nm13 b f e = 0 := if_neg h
theorem x_nmb13 (b : Int → Int) (f e : Int) : x_nm13 b f e = 0 ∨ x_nm13 b f e = 1 := by
  unfold x_nm13
  split
  · exact Or.inr rfl
  · exact Or.inl rfl
theorem x_nmc13 {b : Int → Int} {f e : Int} (h : x_nm13 b f e = 1) : e - f = 4 ∧ b (f + 0) = 98 ∧ b (f + 1) = 111 ∧ b (f + 2) = 116 ∧ b (f + 3) = 104 := by
  unfold x_nm13 at h
  split at h
  · next q => exact q
  · omega
def x_is (b : Int → Int) (f e n a c d : Int) : Int := if e - f = n ∧ b (f + 0) = a ∧ b (f + 1) = c ∧ b (f + 2) = d then 1 else 0
def x_ens (b : Int → Int) (f a c d : Int) : Int := if b (f + 3) = a ∧ (c = 0 ∨ b (f + 4) = c) ∧ (d = 0 ∨ b (f + 5) = d) then 1 else 0
theorem x_is1 {b : Int → Int} {f e n a c d : Int} (h : e - f = n ∧ b (f + 0) = a ∧ b (f + 1) = c ∧ b (f + 2) = d) : x_is b f e n a c d = 1 := if_pos h
theorem x_is0 {b : Int → Int} {f e n a c d : Int} (h : ¬ (e - f = n ∧ b (f + 0) = a ∧ b (f + 1) = c ∧ b (f + 2) = d)) : x_is b f e n a c d = 0 := if_neg h
theorem x_ens1 {b : Int → Int} {f a c d : Int} (h : b (f + 3) = a ∧ (c = 0 ∨ b (f + 4) = c) ∧ (d = 0 ∨ b (f + 5) = d)) : x_ens b f a c d = 1 := if_pos h
theorem x_ens0 {b : Int → Int} {f a c d : Int} (h : ¬ (b (f + 3) = a ∧ (c = 0 ∨ b (f + 4) = c) ∧ (d = 0 ∨ b (f + 5) = d))) : x_ens b f a c d = 0 := if_neg h
theorem x_nmr0 (b : Int → Int) (f e : Int) : x_is b f e 6 99 111 117 = 1 ∧ x_ens b f 110 116 121 = 1 ∧ x_nm0 b f e = 1 ∨ (x_is b f e 6 99 111 117 = 0 ∨ x_ens b f 110 116 121 = 0) ∧ x_nm0 b f e = 0 := by
  by_cases h : e - f = 6 ∧ b (f + 0) = 99 ∧ b (f + 1) = 111 ∧ b (f + 2) = 117 ∧ b (f + 3) = 110 ∧ b (f + 4) = 116 ∧ b (f + 5) = 121
  · left
    refine ⟨if_pos ⟨h.1, h.2.1, h.2.2.1, h.2.2.2.1⟩, if_pos ?_, if_pos h⟩
    refine ⟨by omega, ?_, ?_⟩ <;> omega
  · right
    refine ⟨?_, if_neg h⟩
    by_cases g : e - f = 6 ∧ b (f + 0) = 99 ∧ b (f + 1) = 111 ∧ b (f + 2) = 117
    · right
      refine if_neg (fun q => h ?_)
      obtain ⟨q1, q2, q3⟩ := q
      omega
    · exact Or.inl (if_neg g)
theorem x_nmr1 (b : Int → Int) (f e : Int) : x_nm1 b f e = x_is b f e 3 119 101 116 := rfl
theorem x_nmr2 (b : Int → Int) (f e : Int) : x_is b f e 4 105 114 111 = 1 ∧ x_ens b f 110 0 0 = 1 ∧ x_nm2 b f e = 1 ∨ (x_is b f e 4 105 114 111 = 0 ∨ x_ens b f 110 0 0 = 0) ∧ x_nm2 b f e = 0 := by
  by_cases h : e - f = 4 ∧ b (f + 0) = 105 ∧ b (f + 1) = 114 ∧ b (f + 2) = 111 ∧ b (f + 3) = 110
  · left
    refine ⟨if_pos ⟨h.1, h.2.1, h.2.2.1, h.2.2.2.1⟩, if_pos ?_, if_pos h⟩
    refine ⟨by omega, ?_, ?_⟩ <;> omega
  · right
    refine ⟨?_, if_neg h⟩
    by_cases g : e - f = 4 ∧ b (f + 0) = 105 ∧ b (f + 1) = 114 ∧ b (f + 2) = 111
    · right
      refine if_neg (fun q => h ?_)
      obtain ⟨q1, q2, q3⟩ := q
      omega
    · exact Or.inl (if_neg g)
theorem x_nmr3 (b : Int → Int) (f e : Int) : x_is b f e 4 111 100 100 = 1 ∧ x_ens b f 115 0 0 = 1 ∧ x_nm3 b f e = 1 ∨ (x_is b f e 4 111 100 100 = 0 ∨ x_ens b f 115 0 0 = 0) ∧ x_nm3 b f e = 0 := by
  by_cases h : e - f = 4 ∧ b (f + 0) = 111 ∧ b (f + 1) = 100 ∧ b (f + 2) = 100 ∧ b (f + 3) = 115
  · left
    refine ⟨if_pos ⟨h.1, h.2.1, h.2.2.1, h.2.2.2.1⟩, if_pos ?_, if_pos h⟩
    refine ⟨by omega, ?_, ?_⟩ <;> omega
  · right
    refine ⟨?_, if_neg h⟩
    by_cases g : e - f = 4 ∧ b (f + 0) = 111 ∧ b (f + 1) = 100 ∧ b (f + 2) = 100
    · right
      refine if_neg (fun q => h ?_)
      obtain ⟨q1, q2, q3⟩ := q
      omega
    · exact Or.inl (if_neg g)
theorem x_nmr4 (b : Int → Int) (f e : Int) : x_is b f e 5 99 108 97 = 1 ∧ x_ens b f 105 109 0 = 1 ∧ x_nm4 b f e = 1 ∨ (x_is b f e 5 99 108 97 = 0 ∨ x_ens b f 105 109 0 = 0) ∧ x_nm4 b f e = 0 := by
  by_cases h : e - f = 5 ∧ b (f + 0) = 99 ∧ b (f + 1) = 108 ∧ b (f + 2) = 97 ∧ b (f + 3) = 105 ∧ b (f + 4) = 109
  · left
    refine ⟨if_pos ⟨h.1, h.2.1, h.2.2.1, h.2.2.2.1⟩, if_pos ?_, if_pos h⟩
    refine ⟨by omega, ?_, ?_⟩ <;> omega
  · right
    refine ⟨?_, if_neg h⟩
    by_cases g : e - f = 5 ∧ b (f + 0) = 99 ∧ b (f + 1) = 108 ∧ b (f + 2) = 97
    · right
      refine if_neg (fun q => h ?_)
      obtain ⟨q1, q2, q3⟩ := q
      omega
    · exact Or.inl (if_neg g)
theorem x_nmr5 (b : Int → Int) (f e : Int) : x_is b f e 5 112 117 114 = 1 ∧ x_ens b f 115 101 0 = 1 ∧ x_nm5 b f e = 1 ∨ (x_is b f e 5 112 117 114 = 0 ∨ x_ens b f 115 101 0 = 0) ∧ x_nm5 b f e = 0 := by
  by_cases h : e - f = 5 ∧ b (f + 0) = 112 ∧ b (f + 1) = 117 ∧ b (f + 2) = 114 ∧ b (f + 3) = 115 ∧ b (f + 4) = 101
  · left
    refine ⟨if_pos ⟨h.1, h.2.1, h.2.2.1, h.2.2.2.1⟩, if_pos ?_, if_pos h⟩
    refine ⟨by omega, ?_, ?_⟩ <;> omega
  · right
    refine ⟨?_, if_neg h⟩
    by_cases g : e - f = 5 ∧ b (f + 0) = 112 ∧ b (f + 1) = 117 ∧ b (f + 2) = 114
    · right
      refine if_neg (fun q => h ?_)
      obtain ⟨q1, q2, q3⟩ := q
      omega
    · exact Or.inl (if_neg g)
theorem x_nmr6 (b : Int → Int) (f e : Int) : x_is b f e 4 99 111 115 = 1 ∧ x_ens b f 116 0 0 = 1 ∧ x_nm6 b f e = 1 ∨ (x_is b f e 4 99 111 115 = 0 ∨ x_ens b f 116 0 0 = 0) ∧ x_nm6 b f e = 0 := by
  by_cases h : e - f = 4 ∧ b (f + 0) = 99 ∧ b (f + 1) = 111 ∧ b (f + 2) = 115 ∧ b (f + 3) = 116
  · left
    refine ⟨if_pos ⟨h.1, h.2.1, h.2.2.1, h.2.2.2.1⟩, if_pos ?_, if_pos h⟩
    refine ⟨by omega, ?_, ?_⟩ <;> omega
  · right
    refine ⟨?_, if_neg h⟩
    by_cases g : e - f = 4 ∧ b (f + 0) = 99 ∧ b (f + 1) = 111 ∧ b (f + 2) = 115
    · right
      refine if_neg (fun q => h ?_)
      obtain ⟨q1, q2, q3⟩ := q
      omega
    · exact Or.inl (if_neg g)
theorem x_nmr7 (b : Int → Int) (f e : Int) : x_is b f e 5 112 114 105 = 1 ∧ x_ens b f 99 101 0 = 1 ∧ x_nm7 b f e = 1 ∨ (x_is b f e 5 112 114 105 = 0 ∨ x_ens b f 99 101 0 = 0) ∧ x_nm7 b f e = 0 := by
  by_cases h : e - f = 5 ∧ b (f + 0) = 112 ∧ b (f + 1) = 114 ∧ b (f + 2) = 105 ∧ b (f + 3) = 99 ∧ b (f + 4) = 101
  · left
    refine ⟨if_pos ⟨h.1, h.2.1, h.2.2.1, h.2.2.2.1⟩, if_pos ?_, if_pos h⟩
    refine ⟨by omega, ?_, ?_⟩ <;> omega
  · right
    refine ⟨?_, if_neg h⟩
    by_cases g : e - f = 5 ∧ b (f + 0) = 112 ∧ b (f + 1) = 114 ∧ b (f + 2) = 105
    · right
      refine if_neg (fun q => h ?_)
      obtain ⟨q1, q2, q3⟩ := q
      omega
    · exact Or.inl (if_neg g)
theorem x_nmr8 (b : Int → Int) (f e : Int) : x_nm8 b f e = x_is b f e 3 114 111 100 := rfl
theorem x_nmr9 (b : Int → Int) (f e : Int) : x_nm9 b f e = x_is b f e 3 111 119 101 := rfl
theorem x_nmr10 (b : Int → Int) (f e : Int) : x_is b f e 5 119 97 116 = 1 ∧ x_ens b f 101 114 0 = 1 ∧ x_nm10 b f e = 1 ∨ (x_is b f e 5 119 97 116 = 0 ∨ x_ens b f 101 114 0 = 0) ∧ x_nm10 b f e = 0 := by
  by_cases h : e - f = 5 ∧ b (f + 0) = 119 ∧ b (f + 1) = 97 ∧ b (f + 2) = 116 ∧ b (f + 3) = 101 ∧ b (f + 4) = 114
  · left
    refine ⟨if_pos ⟨h.1, h.2.1, h.2.2.1, h.2.2.2.1⟩, if_pos ?_, if_pos h⟩
    refine ⟨by omega, ?_, ?_⟩ <;> omega
  · right
    refine ⟨?_, if_neg h⟩
    by_cases g : e - f = 5 ∧ b (f + 0) = 119 ∧ b (f + 1) = 97 ∧ b (f + 2) = 116
    · right
      refine if_neg (fun q => h ?_)
      obtain ⟨q1, q2, q3⟩ := q
      omega
    · exact Or.inl (if_neg g)
theorem x_nmr11 (b : Int → Int) (f e : Int) : x_is b f e 5 115 116 101 = 1 ∧ x_ens b f 112 115 0 = 1 ∧ x_nm11 b f e = 1 ∨ (x_is b f e 5 115 116 101 = 0 ∨ x_ens b f 112 115 0 = 0) ∧ x_nm11 b f e = 0 := by
  by_cases h : e - f = 5 ∧ b (f + 0) = 115 ∧ b (f + 1) = 116 ∧ b (f + 2) = 101 ∧ b (f + 3) = 112 ∧ b (f + 4) = 115
  · left
    refine ⟨if_pos ⟨h.1, h.2.1, h.2.2.1, h.2.2.2.1⟩, if_pos ?_, if_pos h⟩
    refine ⟨by omega, ?_, ?_⟩ <;> omega
  · right
    refine ⟨?_, if_neg h⟩
    by_cases g : e - f = 5 ∧ b (f + 0) = 115 ∧ b (f + 1) = 116 ∧ b (f + 2) = 101
    · right
      refine if_neg (fun q => h ?_)
      obtain ⟨q1, q2, q3⟩ := q
      omega
    · exact Or.inl (if_neg g)
theorem x_nmr12 (b : Int → Int) (f e : Int) : x_is b f e 6 119 105 115 = 1 ∧ x_ens b f 104 101 115 = 1 ∧ x_nm12 b f e = 1 ∨ (x_is b f e 6 119 105 115 = 0 ∨ x_ens b f 104 101 115 = 0) ∧ x_nm12 b f e = 0 := by
  by_cases h : e - f = 6 ∧ b (f + 0) = 119 ∧ b (f + 1) = 105 ∧ b (f + 2) = 115 ∧ b (f + 3) = 104 ∧ b (f + 4) = 101 ∧ b (f + 5) = 115
  · left
    refine ⟨if_pos ⟨h.1, h.2.1, h.2.2.1, h.2.2.2.1⟩, if_pos ?_, if_pos h⟩
    refine ⟨by omega, ?_, ?_⟩ <;> omega
  · right
    refine ⟨?_, if_neg h⟩
    by_cases g : e - f = 6 ∧ b (f + 0) = 119 ∧ b (f + 1) = 105 ∧ b (f + 2) = 115
    · right
      refine if_neg (fun q => h ?_)
      obtain ⟨q1, q2, q3⟩ := q
      omega
    · exact Or.inl (if_neg g)
theorem x_nmr13 (b : Int → Int) (f e : Int) : x_is b f e 4 98 111 116 = 1 ∧ x_ens b f 104 0 0 = 1 ∧ x_nm13 b f e = 1 ∨ (x_is b f e 4 98 111 116 = 0 ∨ x_ens b f 104 0 0 = 0) ∧ x_nm13 b f e = 0 := by
  by_cases h : e - f = 4 ∧ b (f + 0) = 98 ∧ b (f + 1) = 111 ∧ b (f + 2) = 116 ∧ b (f + 3) = 104
  · left
    refine ⟨if_pos ⟨h.1, h.2.1, h.2.2.1, h.2.2.2.1⟩, if_pos ?_, if_pos h⟩
    refine ⟨by omega, ?_, ?_⟩ <;> omega
  · right
    refine ⟨?_, if_neg h⟩
    by_cases g : e - f = 4 ∧ b (f + 0) = 98 ∧ b (f + 1) = 111 ∧ b (f + 2) = 116
    · right
      refine if_neg (fun q => h ?_)
      obtain ⟨q1, q2, q3⟩ := q
      omega
    · exact Or.inl (if_neg g)
def x_ln (b : Int → Int) (f e : Int) : Int := if x_nm0 b f e = 1 then 0 else if x_nm1 b f e = 1 then 1 else if x_nm2 b f e = 1 then 2 else if x_nm3 b f e = 1 then 3 else if x_nm4 b f e = 1 then 4 else if x_nm5 b f e = 1 then 5 else if x_nm6 b f e = 1 then 6 else if x_nm7 b f e = 1 then 7 else if x_nm8 b f e = 1 then 8 else if x_nm9 b f e = 1 then 9 else -1
theorem x_ln_of0 {b : Int → Int} {f e : Int} (h : x_nm0 b f e = 1) : x_ln b f e = 0 := by
  have g := x_nmc0 h
  unfold x_ln
  rw [if_pos h]
theorem x_ln_of1 {b : Int → Int} {f e : Int} (h : x_nm1 b f e = 1) : x_ln b f e = 1 := by
  have g := x_nmc1 h
  have n0 : ¬ x_nm0 b f e = 1 := fun q => by have := x_nmc0 q; omega
  unfold x_ln
  rw [if_neg n0, if_pos h]
theorem x_ln_of2 {b : Int → Int} {f e : Int} (h : x_nm2 b f e = 1) : x_ln b f e = 2 := by
  have g := x_nmc2 h
  have n0 : ¬ x_nm0 b f e = 1 := fun q => by have := x_nmc0 q; omega
  have n1 : ¬ x_nm1 b f e = 1 := fun q => by have := x_nmc1 q; omega
  unfold x_ln
  rw [if_neg n0, if_neg n1, if_pos h]
theorem x_ln_of3 {b : Int → Int} {f e : Int} (h : x_nm3 b f e = 1) : x_ln b f e = 3 := by
  have g := x_nmc3 h
  have n0 : ¬ x_nm0 b f e = 1 := fun q => by have := x_nmc0 q; omega
  have n1 : ¬ x_nm1 b f e = 1 := fun q => by have := x_nmc1 q; omega
  have n2 : ¬ x_nm2 b f e = 1 := fun q => by have := x_nmc2 q; omega
  unfold x_ln
  rw [if_neg n0, if_neg n1, if_neg n2, if_pos h]
theorem x_ln_of4 {b : Int → Int} {f e : Int} (h : x_nm4 b f e = 1) : x_ln b f e = 4 := by
  have g := x_nmc4 h
  have n0 : ¬ x_nm0 b f e = 1 := fun q => by have := x_nmc0 q; omega
  have n1 : ¬ x_nm1 b f e = 1 := fun q => by have := x_nmc1 q; omega
  have n2 : ¬ x_nm2 b f e = 1 := fun q => by have := x_nmc2 q; omega
  have n3 : ¬ x_nm3 b f e = 1 := fun q => by have := x_nmc3 q; omega
  unfold x_ln
  rw [if_neg n0, if_neg n1, if_neg n2, if_neg n3, if_pos h]
theorem x_ln_of5 {b : Int → Int} {f e : Int} (h : x_nm5 b f e = 1) : x_ln b f e = 5 := by
  have g := x_nmc5 h
  have n0 : ¬ x_nm0 b f e = 1 := fun q => by have := x_nmc0 q; omega
  have n1 : ¬ x_nm1 b f e = 1 := fun q => by have := x_nmc1 q; omega
  have n2 : ¬ x_nm2 b f e = 1 := fun q => by have := x_nmc2 q; omega
  have n3 : ¬ x_nm3 b f e = 1 := fun q => by have := x_nmc3 q; omega
  have n4 : ¬ x_nm4 b f e = 1 := fun q => by have := x_nmc4 q; omega
  unfold x_ln
  rw [if_neg n0, if_neg n1, if_neg n2, if_neg n3, if_neg n4, if_pos h]
theorem x_ln_of6 {b : Int → Int} {f e : Int} (h : x_nm6 b f e = 1) : x_ln b f e = 6 := by
  have g := x_nmc6 h
  have n0 : ¬ x_nm0 b f e = 1 := fun q => by have := x_nmc0 q; omega
  have n1 : ¬ x_nm1 b f e = 1 := fun q => by have := x_nmc1 q; omega
  have n2 : ¬ x_nm2 b f e = 1 := fun q => by have := x_nmc2 q; omega
  have n3 : ¬ x_nm3 b f e = 1 := fun q => by have := x_nmc3 q; omega
  have n4 : ¬ x_nm4 b f e = 1 := fun q => by have := x_nmc4 q; omega
  have n5 : ¬ x_nm5 b f e = 1 := fun q => by have := x_nmc5 q; omega
  unfold x_ln
  rw [if_neg n0, if_neg n1, if_neg n2, if_neg n3, if_neg n4, if_neg n5, if_pos h]
theorem x_ln_of7 {b : Int → Int} {f e : Int} (h : x_nm7 b f e = 1) : x_ln b f e = 7 := by
  have g := x_nmc7 h
  have n0 : ¬ x_nm0 b f e = 1 := fun q => by have := x_nmc0 q; omega
  have n1 : ¬ x_nm1 b f e = 1 := fun q => by have := x_nmc1 q; omega
  have n2 : ¬ x_nm2 b f e = 1 := fun q => by have := x_nmc2 q; omega
  have n3 : ¬ x_nm3 b f e = 1 := fun q => by have := x_nmc3 q; omega
  have n4 : ¬ x_nm4 b f e = 1 := fun q => by have := x_nmc4 q; omega
  have n5 : ¬ x_nm5 b f e = 1 := fun q => by have := x_nmc5 q; omega
  have n6 : ¬ x_nm6 b f e = 1 := fun q => by have := x_nmc6 q; omega
  unfold x_ln
  rw [if_neg n0, if_neg n1, if_neg n2, if_neg n3, if_neg n4, if_neg n5, if_neg n6, if_pos h]
theorem x_ln_of8 {b : Int → Int} {f e : Int} (h : x_nm8 b f e = 1) : x_ln b f e = 8 := by
  have g := x_nmc8 h
  have n0 : ¬ x_nm0 b f e = 1 := fun q => by have := x_nmc0 q; omega
  have n1 : ¬ x_nm1 b f e = 1 := fun q => by have := x_nmc1 q; omega
  have n2 : ¬ x_nm2 b f e = 1 := fun q => by have := x_nmc2 q; omega
  have n3 : ¬ x_nm3 b f e = 1 := fun q => by have := x_nmc3 q; omega
  have n4 : ¬ x_nm4 b f e = 1 := fun q => by have := x_nmc4 q; omega
  have n5 : ¬ x_nm5 b f e = 1 := fun q => by have := x_nmc5 q; omega
  have n6 : ¬ x_nm6 b f e = 1 := fun q => by have := x_nmc6 q; omega
  have n7 : ¬ x_nm7 b f e = 1 := fun q => by have := x_nmc7 q; omega
  unfold x_ln
  rw [if_neg n0, if_neg n1, if_neg n2, if_neg n3, if_neg n4, if_neg n5, if_neg n6, if_neg n7, if_pos h]
theorem x_ln_of9 {b : Int → Int} {f e : Int} (h : x_nm9 b f e = 1) : x_ln b f e = 9 := by
  have g := x_nmc9 h
  have n0 : ¬ x_nm0 b f e = 1 := fun q => by have := x_nmc0 q; omega
  have n1 : ¬ x_nm1 b f e = 1 := fun q => by have := x_nmc1 q; omega
  have n2 : ¬ x_nm2 b f e = 1 := fun q => by have := x_nmc2 q; omega
  have n3 : ¬ x_nm3 b f e = 1 := fun q => by have := x_nmc3 q; omega
  have n4 : ¬ x_nm4 b f e = 1 := fun q => by have := x_nmc4 q; omega
  have n5 : ¬ x_nm5 b f e = 1 := fun q => by have := x_nmc5 q; omega
  have n6 : ¬ x_nm6 b f e = 1 := fun q => by have := x_nmc6 q; omega
  have n7 : ¬ x_nm7 b f e = 1 := fun q => by have := x_nmc7 q; omega
  have n8 : ¬ x_nm8 b f e = 1 := fun q => by have := x_nmc8 q; omega
  unfold x_ln
  rw [if_neg n0, if_neg n1, if_neg n2, if_neg n3, if_neg n4, if_neg n5, if_neg n6, if_neg n7, if_neg n8, if_pos h]
theorem x_ln_no {b : Int → Int} {f e : Int} (h0 : x_nm0 b f e = 0) (h1 : x_nm1 b f e = 0) (h2 : x_nm2 b f e = 0) (h3 : x_nm3 b f e = 0) (h4 : x_nm4 b f e = 0) (h5 : x_nm5 b f e = 0) (h6 : x_nm6 b f e = 0) (h7 : x_nm7 b f e = 0) (h8 : x_nm8 b f e = 0) (h9 : x_nm9 b f e = 0) : x_ln b f e = -1 := by
  unfold x_ln
  rw [if_neg (by omega), if_neg (by omega), if_neg (by omega), if_neg (by omega), if_neg (by omega), if_neg (by omega), if_neg (by omega), if_neg (by omega), if_neg (by omega), if_neg (by omega)]
def x_nt (b : Int → Int) (f e : Int) : Int := if x_nm10 b f e = 1 then 0 else if x_nm2 b f e = 1 then 1 else if x_nm11 b f e = 1 then 2 else if x_nm12 b f e = 1 then 3 else if x_nm13 b f e = 1 then 4 else -1
theorem x_nt_of0 {b : Int → Int} {f e : Int} (h : x_nm10 b f e = 1) : x_nt b f e = 0 := by
  have g := x_nmc10 h
  unfold x_nt
  rw [if_pos h]
theorem x_nt_of1 {b : Int → Int} {f e : Int} (h : x_nm2 b f e = 1) : x_nt b f e = 1 := by
  have g := x_nmc2 h
  have n0 : ¬ x_nm10 b f e = 1 := fun q => by have := x_nmc10 q; omega
  unfold x_nt
  rw [if_neg n0, if_pos h]
theorem x_nt_of2 {b : Int → Int} {f e : Int} (h : x_nm11 b f e = 1) : x_nt b f e = 2 := by
  have g := x_nmc11 h
  have n0 : ¬ x_nm10 b f e = 1 := fun q => by have := x_nmc10 q; omega
  have n1 : ¬ x_nm2 b f e = 1 := fun q => by have := x_nmc2 q; omega
  unfold x_nt
  rw [if_neg n0, if_neg n1, if_pos h]
theorem x_nt_of3 {b : Int → Int} {f e : Int} (h : x_nm12 b f e = 1) : x_nt b f e = 3 := by
  have g := x_nmc12 h
  have n0 : ¬ x_nm10 b f e = 1 := fun q => by have := x_nmc10 q; omega
  have n1 : ¬ x_nm2 b f e = 1 := fun q => by have := x_nmc2 q; omega
  have n2 : ¬ x_nm11 b f e = 1 := fun q => by have := x_nmc11 q; omega
  unfold x_nt
  rw [if_neg n0, if_neg n1, if_neg n2, if_pos h]
theorem x_nt_of4 {b : Int → Int} {f e : Int} (h : x_nm13 b f e = 1) : x_nt b f e = 4 := by
  have g := x_nmc13 h
  have n0 : ¬ x_nm10 b f e = 1 := fun q => by have := x_nmc10 q; omega
  have n1 : ¬ x_nm2 b f e = 1 := fun q => by have := x_nmc2 q; omega
  have n2 : ¬ x_nm11 b f e = 1 := fun q => by have := x_nmc11 q; omega
  have n3 : ¬ x_nm12 b f e = 1 := fun q => by have := x_nmc12 q; omega
  unfold x_nt
  rw [if_neg n0, if_neg n1, if_neg n2, if_neg n3, if_pos h]
theorem x_nt_no {b : Int → Int} {f e : Int} (h10 : x_nm10 b f e = 0) (h2 : x_nm2 b f e = 0) (h11 : x_nm11 b f e = 0) (h12 : x_nm12 b f e = 0) (h13 : x_nm13 b f e = 0) : x_nt b f e = -1 := by
  unfold x_nt
  rw [if_neg (by omega), if_neg (by omega), if_neg (by omega), if_neg (by omega), if_neg (by omega)]
theorem x_lnR {b : Int → Int} {f e r : Int} (h : r = 0 ∧ x_nm0 b f e = 1 ∨ r = 1 ∧ x_nm6 b f e = 1 ∨ r = 2 ∧ x_nm7 b f e = 1 ∨ r = 3 ∧ x_nm8 b f e = 1 ∨ r = -4 ∧ x_nm0 b f e = 0 ∧ x_nm6 b f e = 0 ∧ x_nm7 b f e = 0 ∧ x_nm8 b f e = 0) (h1 : x_nm1 b f e = 0) (h2 : x_nm2 b f e = 0) (h3 : x_nm3 b f e = 0) (h4 : x_nm4 b f e = 0) (h5 : x_nm5 b f e = 0) (h9 : x_nm9 b f e = 0) : r = 0 ∧ x_ln b f e = 0 ∨ r = 1 ∧ x_ln b f e = 6 ∨ r = 2 ∧ x_ln b f e = 7 ∨ r = 3 ∧ x_ln b f e = 8 ∨ r = -4 ∧ x_ln b f e = -1 := by
  rcases h with h | h | h | h | h
  · have := x_ln_of0 h.2; omega
  · have := x_ln_of6 h.2; omega
  · have := x_ln_of7 h.2; omega
  · have := x_ln_of8 h.2; omega
  · have := x_ln_no (b := b) (f := f) (e := e) (by omega) h1 h2 h3 h4 h5 (by omega) (by omega) (by omega) h9; omega
theorem rn_ge {P : Int → Bool} {b : Int → Int} (p : Int) : p ≤ rn P b p := by
  unfold rn
  generalize (161 - p).toNat = k
  induction k generalizing p with
  | zero => exact Int.le_refl p
  | succ k ih =>
    show p ≤ (if P (b p) = true then rnF P b k (p + 1) else p)
    split
    · have := ih (p + 1); omega
    · exact Int.le_refl p
theorem wr_mul {a b z : Int32} {A B Z : Int} (pa : a.toInt = A) (pb : b.toInt = B) (e : z = a * b) (p : z.toInt = Z) : Z = A * B ∨ A * B < -2147483648 ∨ 2147483648 ≤ A * B := by
  by_cases h : -2147483648 ≤ A * B ∧ A * B < 2147483648
  · left; rw [← p, e]; exact ti_mul pa pb (by omega)
  · omega
theorem wr_add {a b z : Int32} {A B Z : Int} (pa : a.toInt = A) (pb : b.toInt = B) (e : z = a + b) (p : z.toInt = Z) : Z = A + B ∨ A + B < -2147483648 ∨ 2147483648 ≤ A + B := by
  by_cases h : -2147483648 ≤ A + B ∧ A + B < 2147483648
  · left; rw [← p, e]; exact ti_add pa pb (by omega)
  · omega
theorem wr_sub {a b z : Int32} {A B Z : Int} (pa : a.toInt = A) (pb : b.toInt = B) (e : z = a - b) (p : z.toInt = Z) : Z = A - B ∨ A - B < -2147483648 ∨ 2147483648 ≤ A - B := by
  by_cases h : -2147483648 ≤ A - B ∧ A - B < 2147483648
  · left; rw [← p, e]; exact ti_sub pa pb (by omega)
  · omega
end
section
def VFp (b : Int → Int) (t u v : Int) : Prop := u = t ∧ v = 0 ∨ u = t + 1 ∧ v = b t - 48 ∨ u = t + 2 ∧ v = 10 * (b t - 48) + (b (t + 1) - 48) ∨ t + 3 ≤ u
def DFp (b : Int → Int) (t u : Int) : Prop := (u = t ∨ 48 ≤ b t ∧ b t ≤ 57) ∧ (u ≤ t + 1 ∨ 48 ≤ b (t + 1) ∧ b (t + 1) ≤ 57)
theorem VFp_0 {b : Int → Int} {t : Int} : VFp b t t 0 := Or.inl ⟨rfl, rfl⟩
theorem DFp_0 {b : Int → Int} {t : Int} : DFp b t t := ⟨Or.inl rfl, Or.inl (by omega)⟩
theorem DFp_s {b : Int → Int} {t u : Int} (d : DFp b t u) (hu : t ≤ u) (f : 48 ≤ b u ∧ b u ≤ 57) : DFp b t (u + 1) := by
  obtain ⟨d1, d2⟩ := d
  constructor
  · by_cases q : u = t
    · rw [q] at f; exact Or.inr f
    · exact Or.inr (d1.resolve_left q)
  · by_cases q : u ≤ t
    · exact Or.inl (by omega)
    · by_cases q2 : u = t + 1
      · rw [q2] at f; exact Or.inr f
      · exact Or.inr (d2.resolve_left (by omega))
theorem VFp_s {b : Int → Int} {t u v A B C X : Int} (k : VFp b t u v) (d : DFp b t u) (f : 48 ≤ b u ∧ b u ≤ 57) (hx : X = b u) (m : A = 10 * v ∨ 10 * v < -2147483648 ∨ 2147483648 ≤ 10 * v) (a : B = A + X ∨ A + X < -2147483648 ∨ 2147483648 ≤ A + X) (s : C = B - 48 ∨ B - 48 < -2147483648 ∨ 2147483648 ≤ B - 48) : VFp b t (u + 1) C := by
  subst hx
  rcases k with ⟨k1, k2⟩ | ⟨k1, k2⟩ | ⟨k1, k2⟩ | k1
  · have m1 := m.resolve_right (by omega)
    have a1 := a.resolve_right (by omega)
    have s1 := s.resolve_right (by omega)
    rw [k1] at a1
    exact Or.inr (Or.inl ⟨by omega, by omega⟩)
  · have d1 := d.1.resolve_left (by omega)
    have m1 := m.resolve_right (by omega)
    have a1 := a.resolve_right (by omega)
    have s1 := s.resolve_right (by omega)
    rw [k1] at a1
    exact Or.inr (Or.inr (Or.inl ⟨by omega, by omega⟩))
  · exact Or.inr (Or.inr (Or.inr (by omega)))
  · exact Or.inr (Or.inr (Or.inr (by omega)))
theorem VFp_e {b : Int → Int} {t u v : Int} (k : VFp b t u v) (d : DFp b t u) : u - t = 0 ∨ u - t = 1 ∧ v = b t - 48 ∧ 0 ≤ v ∧ v ≤ 9 ∨ u - t = 2 ∧ v = 10 * (b t - 48) + (b (t + 1) - 48) ∧ 0 ≤ v ∧ v ≤ 99 ∨ 2 < u - t := by
  rcases k with ⟨k1, k2⟩ | ⟨k1, k2⟩ | ⟨k1, k2⟩ | k1
  · exact Or.inl (by omega)
  · have d1 := d.1.resolve_left (by omega)
    exact Or.inr (Or.inl ⟨by omega, k2, by omega, by omega⟩)
  · have d1 := d.1.resolve_left (by omega)
    have d2 := d.2.resolve_left (by omega)
    exact Or.inr (Or.inr (Or.inl ⟨by omega, k2, by omega, by omega⟩))
  · exact Or.inr (Or.inr (Or.inr (by omega)))
theorem adv_2 {b : Int → Int} {t s f k u v : Int} (p : f = x_fr b t ∧ k = x_kd b t ∧ (k = 4 ∨ u = x_en b t) ∧ (k ≠ 2 ∨ v = x_vl b t ∧ 0 ≤ v ∧ v ≤ 99) ∧ t ≤ f ∧ f ≤ u ∧ u ≤ s ∧ (k = 0 ∧ f = s ∨ k ≠ 0 ∧ f < s) ∧ 0 ≤ k ∧ k ≤ 4 ∧ (k = 0 ∨ k = 4 ∨ f < u)) (hk : k = 2) : k = 2 ∧ f = x_fr b t ∧ x_kd b t = 2 ∧ u = x_en b t ∧ v = x_vl b t ∧ 0 ≤ v ∧ v ≤ 99 ∧ t ≤ f ∧ f < u ∧ u ≤ s ∧ f < s := by
  obtain ⟨p1, p2, p3, p4, p5, p6, p7, p8, p9, p10, p11⟩ := p
  have q3 := p3.resolve_left (by omega)
  have q4 := p4.resolve_left (by omega)
  have q11 := (p11.resolve_left (by omega)).resolve_left (by omega)
  exact ⟨hk, p1, by omega, q3, q4.1, q4.2.1, q4.2.2, p5, q11, p7, by omega⟩
theorem adv_m {b : Int → Int} {t s f k u v : Int} (m : Int) (p : f = x_fr b t ∧ k = x_kd b t ∧ (k = 4 ∨ u = x_en b t) ∧ (k ≠ 2 ∨ v = x_vl b t ∧ 0 ≤ v ∧ v ≤ 99) ∧ t ≤ f ∧ f ≤ u ∧ u ≤ s ∧ (k = 0 ∧ f = s ∨ k ≠ 0 ∧ f < s) ∧ 0 ≤ k ∧ k ≤ 4 ∧ (k = 0 ∨ k = 4 ∨ f < u)) (hk : k = m) (h0 : m ≠ 0 ∧ m ≠ 4) : k = m ∧ f = x_fr b t ∧ x_kd b t = m ∧ u = x_en b t ∧ t ≤ f ∧ f < u ∧ u ≤ s ∧ f < s := by
  obtain ⟨p1, p2, p3, p4, p5, p6, p7, p8, p9, p10, p11⟩ := p
  have q3 := p3.resolve_left (by omega)
  have q11 := (p11.resolve_left (by omega)).resolve_left (by omega)
  exact ⟨hk, p1, by omega, q3, p5, q11, p7, by omega⟩
theorem adv_0 {b : Int → Int} {t s f k u v : Int} (p : f = x_fr b t ∧ k = x_kd b t ∧ (k = 4 ∨ u = x_en b t) ∧ (k ≠ 2 ∨ v = x_vl b t ∧ 0 ≤ v ∧ v ≤ 99) ∧ t ≤ f ∧ f ≤ u ∧ u ≤ s ∧ (k = 0 ∧ f = s ∨ k ≠ 0 ∧ f < s) ∧ 0 ≤ k ∧ k ≤ 4 ∧ (k = 0 ∨ k = 4 ∨ f < u)) : f = x_fr b t ∧ k = x_kd b t ∧ t ≤ f ∧ f ≤ u ∧ u ≤ s ∧ 0 ≤ k ∧ k ≤ 4 := ⟨p.1, p.2.1, p.2.2.2.2.1, p.2.2.2.2.2.1, p.2.2.2.2.2.2.1, p.2.2.2.2.2.2.2.2.1, p.2.2.2.2.2.2.2.2.2.1⟩
theorem kd_y {k m r e w y a f : Int} (p : k = 4 ∧ r = 0 ∧ e = 1 ∧ y = f ∨ k ≠ 4 ∧ k = m ∧ r = 1 ∧ e = w ∧ y = a ∨ k ≠ 4 ∧ k ≠ m ∧ r = 0 ∧ e = 2 ∧ y = f) (hr : r ≠ 0) : k ≠ 4 ∧ k = m ∧ r = 1 ∧ e = w ∧ y = a := by
  rcases p with ⟨_, p, _⟩ | p | ⟨_, _, p, _⟩
  · exact absurd p hr
  · exact p
  · exact absurd p hr
theorem kd_n {k m r e w y a f : Int} (p : k = 4 ∧ r = 0 ∧ e = 1 ∧ y = f ∨ k ≠ 4 ∧ k = m ∧ r = 1 ∧ e = w ∧ y = a ∨ k ≠ 4 ∧ k ≠ m ∧ r = 0 ∧ e = 2 ∧ y = f) (hr : r = 0) : k = 4 ∧ e = 1 ∧ y = f ∨ k ≠ 4 ∧ k ≠ m ∧ e = 2 ∧ y = f := by
  rcases p with ⟨p1, _, p2, p3⟩ | ⟨_, _, p, _⟩ | ⟨p1, p2, _, p3, p4⟩
  · exact Or.inl ⟨p1, p2, p3⟩
  · omega
  · exact Or.inr ⟨p1, p2, p3, p4⟩
def VQp (b : Int → Int) (f u v : Int) : Prop := u = f ∧ v = 0 ∨ u = f + 1 ∧ v = b f - 48 ∨ f + 2 ≤ u ∧ v = 10 * (b f - 48) + (b (f + 1) - 48)
theorem VQp_0 {b : Int → Int} {f : Int} : VQp b f f 0 := Or.inl ⟨rfl, rfl⟩
theorem VQp_k {b : Int → Int} {f u v : Int} (k : VQp b f u v) (h : f + 2 ≤ u) : VQp b f (u + 1) v := by
  rcases k with ⟨k1, k2⟩ | ⟨k1, k2⟩ | ⟨k1, k2⟩
  · omega
  · omega
  · exact Or.inr (Or.inr ⟨by omega, k2⟩)
theorem VQp_b {b : Int → Int} {f u v : Int} (k : VQp b f u v) (d : DFp b f u) (h : u < f + 2) : 0 ≤ v ∧ v ≤ 9 := by
  rcases k with ⟨k1, k2⟩ | ⟨k1, k2⟩ | ⟨k1, k2⟩
  · omega
  · have d1 := d.1.resolve_left (by omega)
    omega
  · omega
theorem VQp_s {b : Int → Int} {f u v X : Int} (k : VQp b f u v) (hx : X = b u) (h : u < f + 2) : VQp b f (u + 1) (10 * v + X - 48) := by
  subst hx
  rcases k with ⟨k1, k2⟩ | ⟨k1, k2⟩ | ⟨k1, k2⟩
  · rw [k1, k2]
    exact Or.inr (Or.inl ⟨rfl, by omega⟩)
  · rw [k1, k2]
    exact Or.inr (Or.inr ⟨by omega, by omega⟩)
  · omega
theorem VQp_e {b : Int → Int} {f u v : Int} (k : VQp b f u v) (h : u - f = 1 ∨ u - f = 2) : u - f = 1 ∧ v = b f - 48 ∨ u - f = 2 ∧ v = 10 * (b f - 48) + (b (f + 1) - 48) := by
  rcases k with ⟨k1, k2⟩ | ⟨k1, k2⟩ | ⟨k1, k2⟩
  · omega
  · exact Or.inl ⟨by omega, k2⟩
  · exact Or.inr ⟨by omega, k2⟩
theorem VQp_r {b : Int → Int} {f u v : Int} (k : VQp b f u v) (d : DFp b f u) (h : u - f = 1 ∨ u - f = 2) : 0 ≤ v ∧ v ≤ 99 := by
  rcases k with ⟨k1, k2⟩ | ⟨k1, k2⟩ | ⟨k1, k2⟩
  · omega
  · have d1 := d.1.resolve_left (by omega)
    omega
  · have d1 := d.1.resolve_left (by omega)
    have d2 := d.2.resolve_left (by omega)
    omega
end
section
abbrev q_Tape_isLetterX (h : Hp) (c : Int32) (cZ : Int) : Option Value → Hp → Prop := pInt (fun r h' => h = h' ∧ (97 ≤ cZ ∧ cZ ≤ 122 ∧ r.toInt = 1 ∨ (cZ < 97 ∨ 122 < cZ) ∧ r.toInt = 0))
set_option maxRecDepth 100000 in
theorem c_Tape_isLetterX (h : Hp) (c : Int32) (cZ : Int) (cE : c.toInt = cZ) : Ct y_Tape_isLetter b_Tape_isLetter 1 (some .boolean) 0 0 [.int c] h (q_Tape_isLetterX h c cZ) := by
  refine ct_ow R_Tape [some (.int c)] rfl (by decide) rfl (Nat.le_of_ble_eq_true rfl) ?_
  have f0 : fr [] h h := fr_rf
  refine V_iload_n 0 d_Tape_isLetter_0 rfl rfl ?_
  refine V_bipush 97 d_Tape_isLetter_1 (by decide) ?_
  refine V_icmp_lt 16 cE tc_97 d_Tape_isLetter_3 (by decide) (fun c1 => ?_) (fun c1 => ?_)
  ·
    refine V_iconst 0 d_Tape_isLetter_16 (by decide) ?_
    exact V_zret rfl (by decide) d_Tape_isLetter_17 ⟨0, rfl, ⟨rfl, (by (try rw [show Int32.toInt 0 = 0 from rfl]) <;> omega)⟩⟩
  ·
    refine V_iload_n 0 d_Tape_isLetter_6 rfl rfl ?_
    refine V_bipush 122 d_Tape_isLetter_7 (by decide) ?_
    refine V_icmp_gt 16 cE tc_122 d_Tape_isLetter_9 (by decide) (fun c2 => ?_) (fun c2 => ?_)
    ·
      refine V_iconst 0 d_Tape_isLetter_16 (by decide) ?_
      exact V_zret rfl (by decide) d_Tape_isLetter_17 ⟨0, rfl, ⟨rfl, (by (try rw [show Int32.toInt 0 = 0 from rfl]) <;> omega)⟩⟩
    ·
      refine V_iconst 1 d_Tape_isLetter_12 (by decide) ?_
      refine V_goto 17 d_Tape_isLetter_13 (by decide) ?_
      exact V_zret rfl (by decide) d_Tape_isLetter_17 ⟨1, rfl, ⟨rfl, (by (try rw [show Int32.toInt 1 = 1 from rfl]) <;> omega)⟩⟩
abbrev q_Tape_isFigureX (h : Hp) (c : Int32) (cZ : Int) : Option Value → Hp → Prop := pInt (fun r h' => h = h' ∧ (48 ≤ cZ ∧ cZ ≤ 57 ∧ r.toInt = 1 ∨ (cZ < 48 ∨ 57 < cZ) ∧ r.toInt = 0))
set_option maxRecDepth 100000 in
theorem c_Tape_isFigureX (h : Hp) (c : Int32) (cZ : Int) (cE : c.toInt = cZ) : Ct y_Tape_isFigure b_Tape_isFigure 1 (some .boolean) 0 0 [.int c] h (q_Tape_isFigureX h c cZ) := by
  refine ct_ow R_Tape [some (.int c)] rfl (by decide) rfl (Nat.le_of_ble_eq_true rfl) ?_
  have f0 : fr [] h h := fr_rf
  refine V_iload_n 0 d_Tape_isFigure_0 rfl rfl ?_
  refine V_bipush 48 d_Tape_isFigure_1 (by decide) ?_
  refine V_icmp_lt 16 cE tc_48 d_Tape_isFigure_3 (by decide) (fun c1 => ?_) (fun c1 => ?_)
  ·
    refine V_iconst 0 d_Tape_isFigure_16 (by decide) ?_
    exact V_zret rfl (by decide) d_Tape_isFigure_17 ⟨0, rfl, ⟨rfl, (by (try rw [show Int32.toInt 0 = 0 from rfl]) <;> omega)⟩⟩
  ·
    refine V_iload_n 0 d_Tape_isFigure_6 rfl rfl ?_
    refine V_bipush 57 d_Tape_isFigure_7 (by decide) ?_
    refine V_icmp_gt 16 cE tc_57 d_Tape_isFigure_9 (by decide) (fun c2 => ?_) (fun c2 => ?_)
    ·
      refine V_iconst 0 d_Tape_isFigure_16 (by decide) ?_
      exact V_zret rfl (by decide) d_Tape_isFigure_17 ⟨0, rfl, ⟨rfl, (by (try rw [show Int32.toInt 0 = 0 from rfl]) <;> omega)⟩⟩
    ·
      refine V_iconst 1 d_Tape_isFigure_12 (by decide) ?_
      refine V_goto 17 d_Tape_isFigure_13 (by decide) ?_
      exact V_zret rfl (by decide) d_Tape_isFigure_17 ⟨1, rfl, ⟨rfl, (by (try rw [show Int32.toInt 1 = 1 from rfl]) <;> omega)⟩⟩
def S_Tape_passLettersX : List (Nat × Option Nat) := [(89, some 4)]
abbrev q_Tape_passLettersX (h : Hp) (b : Int → Int) (s : Int32) (sZ : Int) (t : Int32) (tZ : Int) : Option Value → Hp → Prop := pVd (fun h' => Inv h' ∧ fr S_Tape_passLettersX h h' ∧ ∃ (u : Int32) (uZ : Int), u.toInt = uZ ∧ h'.1 89 4 = u ∧ (uZ = rn leB b tZ ∧ tZ ≤ uZ ∧ uZ ≤ sZ))
set_option maxRecDepth 100000 in
theorem c_Tape_passLettersX (h : Hp) (b : Int → Int) (hI : Inv h) (s : Int32) (sZ : Int) (sE : s.toInt = sZ) (sK : h.1 89 1 = s) (t : Int32) (tZ : Int) (tE : t.toInt = tZ) (tK : h.1 89 4 = t) (hy0 : TP h 90 sZ b) (hy1 : tZ ≤ sZ) : Ct y_Tape_passLetters b_Tape_passLetters 1 none 1 20 [.ref 89] h (q_Tape_passLettersX h b s sZ t tZ) := by
  refine ct_ow R_Tape [some (.ref 89)] rfl (by decide) rfl (Nat.le_of_ble_eq_true rfl) ?_
  have f0 : fr S_Tape_passLettersX h h := fr_rf
  have g1 : 0 ≤ sZ ∧ sZ ≤ 160 := inv_at hI sE sK.symm rfl
  have g2 : 0 ≤ tZ ∧ tZ ≤ 160 := inv_at hI tE tK.symm rfl
  have L3 : ∀ (nn : Nat) (h5 : Hp) (v7 : Int32) (v7Z : Int), Inv h5 → fr S_Tape_passLettersX h h5 → h5.1 89 1 = s → v7.toInt = v7Z → h5.1 89 4 = v7 → tZ ≤ v7Z ∧ v7Z ≤ sZ → rn leB b v7Z = rn leB b tZ → 160 - v7Z < (nn : Int) → V R_Tape b_Tape_passLetters 1 none 1 20 (q_Tape_passLettersX h b s sZ t tZ) h5 0 [some (.ref 89)] [] := by
    intro nn
    induction nn with
    | zero => intro h5 v7 v7Z Ih5 Fh5 K6 v7E K8 q9 q10 hm11; exact absurd hm11 (by omega)
    | succ nn ihL3 =>
      intro h5 v7 v7Z Ih5 Fh5 K6 v7E K8 q9 q10 hm11
      have g12 : 0 ≤ v7Z ∧ v7Z ≤ 160 := inv_at Ih5 v7E K8.symm rfl
      have g13 := TP_b hy0 v7Z (by omega)
      refine V_aload_n 0 d_Tape_passLetters_0 rfl rfl ?_
      refine N_getK fa_Tape_15 sk_89 rfl d_Tape_passLetters_1 K8 ?_
      refine V_aload_n 0 d_Tape_passLetters_4 rfl rfl ?_
      refine N_getK fa_Tape_22 sk_89 rfl d_Tape_passLetters_5 K6 ?_
      refine V_icmp_ge 39 v7E sE d_Tape_passLetters_8 (by decide) (fun c14 => ?_) (fun c14 => ?_)
      ·
        have g15 := rn_stop (P := leB) (b := b) (p := v7Z) (leB_n (by omega))
        exact V_vret rfl d_Tape_passLetters_39 ⟨rfl, ⟨Ih5, Fh5, v7, v7Z, v7E, K8, (by omega)⟩⟩
      ·
        refine V_aload_n 0 d_Tape_passLetters_11 rfl rfl ?_
        refine V_getR fa_Tape_9 sk_89 rfl d_Tape_passLetters_12 ?_
        refine V_aload_n 0 d_Tape_passLetters_15 rfl rfl ?_
        refine N_getK fa_Tape_15 sk_89 rfl d_Tape_passLetters_16 K8 ?_
        refine N_bald sk_90 v7E (by omega) d_Tape_passLetters_19 (fun z16 z16Z z16E z16e => ?_)
        have g17 : z16Z = b v7Z := TP_rd (TP_fr Fh5 (fun _ => rfl) hy0) (by omega) z16E z16e
        refine N_callSI [.int z16] [] cs_Tape_28 d_Tape_passLetters_20 rfl (Nat.le_of_ble_eq_true rfl) (by decide) (by decide) (c_Tape_isLetterX h5 z16 z16Z z16E) (fun z18 h19 z18Z z18E p20 => ?_)
        obtain ⟨eh19, p20⟩ := p20
        subst eh19
        refine V_if_eq 39 z18E d_Tape_passLetters_23 (by decide) (fun c21 => ?_) (fun c21 => ?_)
        ·
          have g22 := rn_stop (P := leB) (b := b) (p := v7Z) (leB_n (by omega))
          exact V_vret rfl d_Tape_passLetters_39 ⟨rfl, ⟨Ih5, Fh5, v7, v7Z, v7E, K8, (by omega)⟩⟩
        ·
          have g23 := rn_step (P := leB) (b := b) (p := v7Z) (leB_y (by omega)) (by omega)
          refine V_aload_n 0 d_Tape_passLetters_26 rfl rfl ?_
          refine V_dup d_Tape_passLetters_27 rfl ?_
          refine N_getK fa_Tape_15 sk_89 rfl d_Tape_passLetters_28 K8 ?_
          refine V_iconst 1 d_Tape_passLetters_31 (by decide) ?_
          refine V_iadd v7E tc_1 (by omega) d_Tape_passLetters_32 (fun z24 z24e z24E => ?_)
          refine N_putI fp_Tape_15 sk_89 rfl d_Tape_passLetters_33 (fun h25 eh25 => ?_)
          have hI26 : Inv h25 := inv_put (lo := 0) (hi := 160) Ih5 eh25 rfl z24E (by omega)
          have f27 : fr S_Tape_passLettersX h h25 := fr_put Fh5 eh25 rfl
          refine V_goto 0 d_Tape_passLetters_36 (by decide) ?_
          exact ihL3 h25 z24 ((v7Z + 1)) hI26 f27 (kn_nei eh25 K6 (by decide)) z24E (kn_put eh25) (by omega) (by omega) (by omega)
  exact L3 (Int.toNat ((160 - tZ : Int) + 1)) h t tZ hI f0 sK tE tK (by omega) (by omega) (by omega)
def S_Tape_passFiguresX : List (Nat × Option Nat) := [(89, some 4), (89, some 5)]
abbrev q_Tape_passFiguresX (h : Hp) (b : Int → Int) (s : Int32) (sZ : Int) (t : Int32) (tZ : Int) : Option Value → Hp → Prop := pVd (fun h' => Inv h' ∧ fr S_Tape_passFiguresX h h' ∧ ∃ (u : Int32) (uZ : Int), u.toInt = uZ ∧ h'.1 89 4 = u ∧ ∃ (v : Int32) (vZ : Int), v.toInt = vZ ∧ h'.1 89 5 = v ∧ (uZ = rn fiB b tZ ∧ tZ ≤ uZ ∧ uZ ≤ sZ ∧ (uZ - tZ = 0 ∨ uZ - tZ = 1 ∧ vZ = b tZ - 48 ∧ 0 ≤ vZ ∧ vZ ≤ 9 ∨ uZ - tZ = 2 ∧ vZ = 10 * (b tZ - 48) + (b (tZ + 1) - 48) ∧ 0 ≤ vZ ∧ vZ ≤ 99 ∨ 2 < uZ - tZ)))
set_option maxRecDepth 100000 in
theorem c_Tape_passFiguresX (h : Hp) (b : Int → Int) (hI : Inv h) (s : Int32) (sZ : Int) (sE : s.toInt = sZ) (sK : h.1 89 1 = s) (t : Int32) (tZ : Int) (tE : t.toInt = tZ) (tK : h.1 89 4 = t) (hy0 : TP h 90 sZ b) (hy1 : tZ ≤ sZ) : Ct y_Tape_passFigures b_Tape_passFigures 1 none 1 20 [.ref 89] h (q_Tape_passFiguresX h b s sZ t tZ) := by
  refine ct_ow R_Tape [some (.ref 89)] rfl (by decide) rfl (Nat.le_of_ble_eq_true rfl) ?_
  have f0 : fr S_Tape_passFiguresX h h := fr_rf
  have g1 : 0 ≤ sZ ∧ sZ ≤ 160 := inv_at hI sE sK.symm rfl
  have g2 : 0 ≤ tZ ∧ tZ ≤ 160 := inv_at hI tE tK.symm rfl
  refine V_aload_n 0 d_Tape_passFigures_0 rfl rfl ?_
  refine V_iconst 0 d_Tape_passFigures_1 (by decide) ?_
  refine N_putI fp_Tape_51 sk_89 rfl d_Tape_passFigures_2 (fun h3 eh3 => ?_)
  have hI4 : Inv h3 := inv_full hI eh3 rfl
  have f5 : fr S_Tape_passFiguresX h h3 := fr_put f0 eh3 rfl
  have L6 : ∀ (nn : Nat) (h8 : Hp) (v10 : Int32) (v10Z : Int) (v12 : Int32) (v12Z : Int), Inv h8 → fr S_Tape_passFiguresX h h8 → h8.1 89 1 = s → v10.toInt = v10Z → h8.1 89 4 = v10 → v12.toInt = v12Z → h8.1 89 5 = v12 → tZ ≤ v10Z ∧ v10Z ≤ sZ → rn fiB b v10Z = rn fiB b tZ → VFp b tZ v10Z v12Z → DFp b tZ v10Z → 160 - v10Z < (nn : Int) → V R_Tape b_Tape_passFigures 1 none 1 20 (q_Tape_passFiguresX h b s sZ t tZ) h8 5 [some (.ref 89)] [] := by
    intro nn
    induction nn with
    | zero => intro h8 v10 v10Z v12 v12Z Ih8 Fh8 K9 v10E K11 v12E K13 q14 q15 q16 q17 hm18; exact absurd hm18 (by omega)
    | succ nn ihL6 =>
      intro h8 v10 v10Z v12 v12Z Ih8 Fh8 K9 v10E K11 v12E K13 q14 q15 q16 q17 hm18
      have g19 : 0 ≤ v10Z ∧ v10Z ≤ 160 := inv_at Ih8 v10E K11.symm rfl
      have g20 := TP_b hy0 v10Z (by omega)
      refine V_aload_n 0 d_Tape_passFigures_5 rfl rfl ?_
      refine N_getK fa_Tape_15 sk_89 rfl d_Tape_passFigures_6 K11 ?_
      refine V_aload_n 0 d_Tape_passFigures_9 rfl rfl ?_
      refine N_getK fa_Tape_22 sk_89 rfl d_Tape_passFigures_10 K9 ?_
      refine V_icmp_ge 68 v10E sE d_Tape_passFigures_13 (by decide) (fun c21 => ?_) (fun c21 => ?_)
      ·
        have g22 := rn_stop (P := fiB) (b := b) (p := v10Z) (fiB_n (by omega))
        exact V_vret rfl d_Tape_passFigures_68 ⟨rfl, ⟨Ih8, Fh8, v10, v10Z, v10E, K11, v12, v12Z, v12E, K13, ⟨by omega, by omega, by omega, VFp_e (by assumption) (by assumption)⟩⟩⟩
      ·
        refine V_aload_n 0 d_Tape_passFigures_16 rfl rfl ?_
        refine V_getR fa_Tape_9 sk_89 rfl d_Tape_passFigures_17 ?_
        refine V_aload_n 0 d_Tape_passFigures_20 rfl rfl ?_
        refine N_getK fa_Tape_15 sk_89 rfl d_Tape_passFigures_21 K11 ?_
        refine N_bald sk_90 v10E (by omega) d_Tape_passFigures_24 (fun z23 z23Z z23E z23e => ?_)
        have g24 : z23Z = b v10Z := TP_rd (TP_fr Fh8 (fun _ => rfl) hy0) (by omega) z23E z23e
        refine N_callSI [.int z23] [] cs_Tape_35 d_Tape_passFigures_25 rfl (Nat.le_of_ble_eq_true rfl) (by decide) (by decide) (c_Tape_isFigureX h8 z23 z23Z z23E) (fun z25 h26 z25Z z25E p27 => ?_)
        obtain ⟨eh26, p27⟩ := p27
        subst eh26
        refine V_if_eq 68 z25E d_Tape_passFigures_28 (by decide) (fun c28 => ?_) (fun c28 => ?_)
        ·
          have g29 := rn_stop (P := fiB) (b := b) (p := v10Z) (fiB_n (by omega))
          exact V_vret rfl d_Tape_passFigures_68 ⟨rfl, ⟨Ih8, Fh8, v10, v10Z, v10E, K11, v12, v12Z, v12E, K13, ⟨by omega, by omega, by omega, VFp_e (by assumption) (by assumption)⟩⟩⟩
        ·
          have hf9 : 48 ≤ b v10Z ∧ b v10Z ≤ 57 := by omega
          have g30 := rn_step (P := fiB) (b := b) (p := v10Z) (fiB_y hf9) (by omega)
          refine V_aload_n 0 d_Tape_passFigures_31 rfl rfl ?_
          refine V_bipush 10 d_Tape_passFigures_32 (by decide) ?_
          refine V_aload_n 0 d_Tape_passFigures_34 rfl rfl ?_
          refine N_getK fa_Tape_51 sk_89 rfl d_Tape_passFigures_35 K13 ?_
          refine N_imulw d_Tape_passFigures_38 (fun z31 z31Z z31E z31e => ?_)
          have hw1 := wr_mul tc_10 v12E z31e z31E
          refine V_aload_n 0 d_Tape_passFigures_39 rfl rfl ?_
          refine V_getR fa_Tape_9 sk_89 rfl d_Tape_passFigures_40 ?_
          refine V_aload_n 0 d_Tape_passFigures_43 rfl rfl ?_
          refine N_getK fa_Tape_15 sk_89 rfl d_Tape_passFigures_44 K11 ?_
          refine N_bald sk_90 v10E (by omega) d_Tape_passFigures_47 (fun z33 z33Z z33E z33e => ?_)
          have hx9 : z33Z = b v10Z := TP_rd (TP_fr Fh8 (fun _ => rfl) hy0) (by omega) z33E z33e
          refine N_iaddw d_Tape_passFigures_48 (fun z35 z35Z z35E z35e => ?_)
          have hw2 := wr_add z31E z33E z35e z35E
          refine V_bipush 48 d_Tape_passFigures_49 (by decide) ?_
          refine N_isubw d_Tape_passFigures_51 (fun z37 z37Z z37E z37e => ?_)
          have hw3 := wr_sub z35E tc_48 z37e z37E
          refine N_putI fp_Tape_51 sk_89 rfl d_Tape_passFigures_52 (fun h39 eh39 => ?_)
          have hI40 : Inv h39 := inv_full Ih8 eh39 rfl
          have f41 : fr S_Tape_passFiguresX h h39 := fr_put Fh8 eh39 rfl
          refine V_aload_n 0 d_Tape_passFigures_55 rfl rfl ?_
          refine V_dup d_Tape_passFigures_56 rfl ?_
          refine N_getK fa_Tape_15 sk_89 rfl d_Tape_passFigures_57 (kn_nei eh39 K11 (by decide)) ?_
          refine V_iconst 1 d_Tape_passFigures_60 (by decide) ?_
          refine V_iadd v10E tc_1 (by omega) d_Tape_passFigures_61 (fun z42 z42e z42E => ?_)
          refine N_putI fp_Tape_15 sk_89 rfl d_Tape_passFigures_62 (fun h43 eh43 => ?_)
          have hI44 : Inv h43 := inv_put (lo := 0) (hi := 160) hI40 eh43 rfl z42E (by omega)
          have f45 : fr S_Tape_passFiguresX h h43 := fr_put f41 eh43 rfl
          refine V_goto 5 d_Tape_passFigures_65 (by decide) ?_
          exact ihL6 h43 z42 ((v10Z + 1)) z37 z37Z hI44 f45 (kn_nei eh43 (kn_nei eh39 K9 (by decide)) (by decide)) z42E (kn_put eh43) z37E (kn_nei eh43 (kn_put eh39) (by decide)) (by omega) (by omega) (VFp_s (by assumption) (by assumption) hf9 hx9 hw1 hw2 hw3) (DFp_s (by assumption) (by omega) hf9) (by omega)
  exact L6 (Int.toNat ((160 - tZ : Int) + 1)) h3 t tZ 0 0 hI4 f5 (kn_nei eh3 sK (by decide)) tE (kn_nei eh3 tK (by decide)) tc_0 (kn_put eh3) (by omega) (by omega) VFp_0 DFp_0 (by omega)
def S_Tape_advanceX : List (Nat × Option Nat) := [(89, some 2), (89, some 3), (89, some 4), (89, some 5)]
abbrev q_Tape_advanceX (h : Hp) (b : Int → Int) (s : Int32) (sZ : Int) (t : Int32) (tZ : Int) : Option Value → Hp → Prop := pVd (fun h' => Inv h' ∧ fr S_Tape_advanceX h h' ∧ ∃ (k : Int32) (kZ : Int), k.toInt = kZ ∧ h'.1 89 2 = k ∧ ∃ (f : Int32) (fZ : Int), f.toInt = fZ ∧ h'.1 89 3 = f ∧ ∃ (u : Int32) (uZ : Int), u.toInt = uZ ∧ h'.1 89 4 = u ∧ ∃ (v : Int32) (vZ : Int), v.toInt = vZ ∧ h'.1 89 5 = v ∧ (fZ = x_fr b tZ ∧ kZ = x_kd b tZ ∧ (kZ = 4 ∨ uZ = x_en b tZ) ∧ (kZ ≠ 2 ∨ vZ = x_vl b tZ ∧ 0 ≤ vZ ∧ vZ ≤ 99) ∧ tZ ≤ fZ ∧ fZ ≤ uZ ∧ uZ ≤ sZ ∧ (kZ = 0 ∧ fZ = sZ ∨ kZ ≠ 0 ∧ fZ < sZ) ∧ 0 ≤ kZ ∧ kZ ≤ 4 ∧ (kZ = 0 ∨ kZ = 4 ∨ fZ < uZ)))
set_option maxRecDepth 100000 in
theorem c_Tape_advanceX (h : Hp) (b : Int → Int) (hI : Inv h) (s : Int32) (sZ : Int) (sE : s.toInt = sZ) (sK : h.1 89 1 = s) (t : Int32) (tZ : Int) (tE : t.toInt = tZ) (tK : h.1 89 4 = t) (hy0 : TP h 90 sZ b) (hy1 : tZ ≤ sZ) : Ct y_Tape_advance b_Tape_advance 1 none 2 40 [.ref 89] h (q_Tape_advanceX h b s sZ t tZ) := by
  refine ct_ow R_Tape [some (.ref 89)] rfl (by decide) rfl (Nat.le_of_ble_eq_true rfl) ?_
  have f0 : fr S_Tape_advanceX h h := fr_rf
  have g1 : 0 ≤ sZ ∧ sZ ≤ 160 := inv_at hI sE sK.symm rfl
  have g2 : 0 ≤ tZ ∧ tZ ≤ 160 := inv_at hI tE tK.symm rfl
  refine V_aload_n 0 d_Tape_advance_0 rfl rfl ?_
  refine V_aload_n 0 d_Tape_advance_1 rfl rfl ?_
  refine N_getK fa_Tape_15 sk_89 rfl d_Tape_advance_2 tK ?_
  refine N_putI fp_Tape_19 sk_89 rfl d_Tape_advance_5 (fun h3 eh3 => ?_)
  have hI4 : Inv h3 := inv_put (lo := 0) (hi := 160) hI eh3 rfl tE (by omega)
  have f5 : fr S_Tape_advanceX h h3 := fr_put f0 eh3 rfl
  have L6 : ∀ (nn : Nat) (h8 : Hp) (v11 : Int32) (v11Z : Int), Inv h8 → fr S_Tape_advanceX h h8 → h8.1 89 1 = s → h8.1 89 4 = t → v11.toInt = v11Z → h8.1 89 3 = v11 → tZ ≤ v11Z ∧ v11Z ≤ sZ → rn blB b v11Z = rn blB b tZ → 160 - v11Z < (nn : Int) → V R_Tape b_Tape_advance 1 none 2 40 (q_Tape_advanceX h b s sZ t tZ) h8 8 [some (.ref 89)] [] := by
    intro nn
    induction nn with
    | zero => intro h8 v11 v11Z Ih8 Fh8 K9 K10 v11E K12 q13 q14 hm15; exact absurd hm15 (by omega)
    | succ nn ihL6 =>
      intro h8 v11 v11Z Ih8 Fh8 K9 K10 v11E K12 q13 q14 hm15
      have g16 : 0 ≤ v11Z ∧ v11Z ≤ 160 := inv_at Ih8 v11E K12.symm rfl
      have g17 := TP_b hy0 v11Z (by omega)
      refine V_aload_n 0 d_Tape_advance_8 rfl rfl ?_
      refine N_getK fa_Tape_19 sk_89 rfl d_Tape_advance_9 K12 ?_
      refine V_aload_n 0 d_Tape_advance_12 rfl rfl ?_
      refine N_getK fa_Tape_22 sk_89 rfl d_Tape_advance_13 K9 ?_
      refine V_icmp_ge 46 v11E sE d_Tape_advance_16 (by decide) (fun c18 => ?_) (fun c18 => ?_)
      ·
        have g19 := rn_stop (P := blB) (b := b) (p := v11Z) (blB_n (by omega))
        refine V_aload_n 0 d_Tape_advance_46 rfl rfl ?_
        refine V_aload_n 0 d_Tape_advance_47 rfl rfl ?_
        refine N_getK fa_Tape_19 sk_89 rfl d_Tape_advance_48 K12 ?_
        refine N_putI fp_Tape_15 sk_89 rfl d_Tape_advance_51 (fun h20 eh20 => ?_)
        have hI21 : Inv h20 := inv_put (lo := 0) (hi := 160) Ih8 eh20 rfl v11E (by omega)
        have f22 : fr S_Tape_advanceX h h20 := fr_put Fh8 eh20 rfl
        refine V_aload_n 0 d_Tape_advance_54 rfl rfl ?_
        refine N_getK fa_Tape_19 sk_89 rfl d_Tape_advance_55 (kn_nei eh20 K12 (by decide)) ?_
        refine V_aload_n 0 d_Tape_advance_58 rfl rfl ?_
        refine N_getK fa_Tape_22 sk_89 rfl d_Tape_advance_59 (kn_nei eh20 K9 (by decide)) ?_
        refine V_icmp_lt 73 v11E sE d_Tape_advance_62 (by decide) (fun c23 => ?_) (fun c23 => ?_)
        ·
          refine V_aload_n 0 d_Tape_advance_73 rfl rfl ?_
          refine V_getR fa_Tape_9 sk_89 rfl d_Tape_advance_74 ?_
          refine V_aload_n 0 d_Tape_advance_77 rfl rfl ?_
          refine N_getK fa_Tape_19 sk_89 rfl d_Tape_advance_78 (kn_nei eh20 K12 (by decide)) ?_
          refine N_bald sk_90 v11E (by omega) d_Tape_advance_81 (fun z24 z24Z z24E z24e => ?_)
          have g25 : z24Z = b v11Z := TP_rd (TP_fr f22 (fun _ => rfl) hy0) (by omega) z24E z24e
          refine V_bipush 59 d_Tape_advance_82 (by decide) ?_
          refine V_icmp_ne 105 z24E tc_59 d_Tape_advance_84 (by decide) (fun c26 => ?_) (fun c26 => ?_)
          ·
            refine V_aload_n 0 d_Tape_advance_105 rfl rfl ?_
            refine V_getR fa_Tape_9 sk_89 rfl d_Tape_advance_106 ?_
            refine V_aload_n 0 d_Tape_advance_109 rfl rfl ?_
            refine N_getK fa_Tape_19 sk_89 rfl d_Tape_advance_110 (kn_nei eh20 K12 (by decide)) ?_
            refine N_bald sk_90 v11E (by omega) d_Tape_advance_113 (fun z27 z27Z z27E z27e => ?_)
            have g28 : z27Z = b v11Z := TP_rd (TP_fr f22 (fun _ => rfl) hy0) (by omega) z27E z27e
            refine N_callSI [.int z27] [] cs_Tape_28 d_Tape_advance_114 rfl (Nat.le_of_ble_eq_true rfl) (by decide) (by decide) (c_Tape_isLetterX h20 z27 z27Z z27E) (fun z29 h30 z29Z z29E p31 => ?_)
            obtain ⟨eh30, p31⟩ := p31
            subst eh30
            refine V_if_eq 132 z29E d_Tape_advance_117 (by decide) (fun c32 => ?_) (fun c32 => ?_)
            ·
              refine V_aload_n 0 d_Tape_advance_132 rfl rfl ?_
              refine V_getR fa_Tape_9 sk_89 rfl d_Tape_advance_133 ?_
              refine V_aload_n 0 d_Tape_advance_136 rfl rfl ?_
              refine N_getK fa_Tape_19 sk_89 rfl d_Tape_advance_137 (kn_nei eh20 K12 (by decide)) ?_
              refine N_bald sk_90 v11E (by omega) d_Tape_advance_140 (fun z33 z33Z z33E z33e => ?_)
              have g34 : z33Z = b v11Z := TP_rd (TP_fr f22 (fun _ => rfl) hy0) (by omega) z33E z33e
              refine N_callSI [.int z33] [] cs_Tape_35 d_Tape_advance_141 rfl (Nat.le_of_ble_eq_true rfl) (by decide) (by decide) (c_Tape_isFigureX h20 z33 z33Z z33E) (fun z35 h36 z35Z z35E p37 => ?_)
              obtain ⟨eh36, p37⟩ := p37
              subst eh36
              refine V_if_eq 176 z35E d_Tape_advance_144 (by decide) (fun c38 => ?_) (fun c38 => ?_)
              ·
                have g39 := tok_4 (p := tZ) (show v11Z = x_fr b tZ by unfold x_fr; omega) (by omega)
                have g40 : v11Z = x_fr b tZ := by unfold x_fr; omega
                refine V_aload_n 0 d_Tape_advance_176 rfl rfl ?_
                refine V_iconst 4 d_Tape_advance_177 (by decide) ?_
                refine N_putI fp_Tape_25 sk_89 rfl d_Tape_advance_178 (fun h41 eh41 => ?_)
                have hI42 : Inv h41 := inv_full hI21 eh41 rfl
                have f43 : fr S_Tape_advanceX h h41 := fr_put f22 eh41 rfl
                obtain ⟨z44, z44Z, z44E, z44e⟩ : ∃ (y : Int32) (Y : Int), y.toInt = Y ∧ y = h41.1 89 5 := ⟨_, _, rfl, rfl⟩
                exact V_vret rfl d_Tape_advance_181 ⟨rfl, ⟨hI42, f43, 4, 4, tc_4, (kn_put eh41), v11, v11Z, v11E, (kn_nei eh41 (kn_nei eh20 K12 (by decide)) (by decide)), v11, v11Z, v11E, (kn_nei eh41 (kn_put eh20) (by decide)), z44, z44Z, z44E, z44e.symm, (by omega)⟩⟩
              ·
                refine V_aload_n 0 d_Tape_advance_147 rfl rfl ?_
                refine N_callVV [] [] cv_Tape_38 sk_89 rfl d_Tape_advance_148 rfl (Nat.le_of_ble_eq_true rfl) (by decide) (by decide) (c_Tape_passFiguresX h20 b hI21 s sZ sE (kn_nei eh20 K9 (by decide)) v11 v11Z v11E (kn_put eh20) (TP_fr f22 (fun _ => rfl) hy0) (by omega)) (fun h46 p47 => ?_)
                obtain ⟨hI48, fh46, o50, o50Z, o50E, o50K, o51, o51Z, o51E, o51K, p47⟩ := p47
                have f49 : fr S_Tape_advanceX h h46 := fr_call f22 fh46 rfl
                have g52 : 0 ≤ o50Z ∧ o50Z ≤ 160 := inv_at hI48 o50E o50K.symm rfl
                have g53 := tok_2 (p := tZ) (u := o50Z) (show v11Z = x_fr b tZ by unfold x_fr; omega) (by omega) (by omega)
                have g54 : v11Z = x_fr b tZ := by unfold x_fr; omega
                have g55 := rn_step (P := fiB) (b := b) (p := v11Z) (fiB_y (by omega)) (by omega)
                have g56 := rn_ge (P := fiB) (b := b) (v11Z + 1)
                refine V_aload_n 0 d_Tape_advance_151 rfl rfl ?_
                refine V_aload_n 0 d_Tape_advance_152 rfl rfl ?_
                refine N_getK fa_Tape_15 sk_89 rfl d_Tape_advance_153 o50K ?_
                refine V_aload_n 0 d_Tape_advance_156 rfl rfl ?_
                refine N_getK fa_Tape_19 sk_89 rfl d_Tape_advance_157 (kn_call fh46 (kn_nei eh20 K12 (by decide)) rfl) ?_
                refine V_isub o50E v11E (by omega) d_Tape_advance_160 (fun z57 z57e z57E => ?_)
                refine V_iconst 2 d_Tape_advance_161 (by decide) ?_
                refine V_icmp_le 169 z57E tc_2 d_Tape_advance_162 (by decide) (fun c58 => ?_) (fun c58 => ?_)
                ·
                  have g59 := tok_v (p := tZ) (u := o50Z) (v := o51Z) (show v11Z = x_fr b tZ by unfold x_fr; omega) (by omega) (by omega)
                  refine V_iconst 2 d_Tape_advance_169 (by decide) ?_
                  refine N_putI fp_Tape_25 sk_89 rfl d_Tape_advance_170 (fun h60 eh60 => ?_)
                  have hI61 : Inv h60 := inv_full hI48 eh60 rfl
                  have f62 : fr S_Tape_advanceX h h60 := fr_put f49 eh60 rfl
                  refine V_goto 181 d_Tape_advance_173 (by decide) ?_
                  exact V_vret rfl d_Tape_advance_181 ⟨rfl, ⟨hI61, f62, 2, 2, tc_2, (kn_put eh60), v11, v11Z, v11E, (kn_nei eh60 (kn_call fh46 (kn_nei eh20 K12 (by decide)) rfl) (by decide)), o50, o50Z, o50E, (kn_nei eh60 o50K (by decide)), o51, o51Z, o51E, (kn_nei eh60 o51K (by decide)), (by omega)⟩⟩
                ·
                  refine V_iconst 4 d_Tape_advance_165 (by decide) ?_
                  refine V_goto 170 d_Tape_advance_166 (by decide) ?_
                  refine N_putI fp_Tape_25 sk_89 rfl d_Tape_advance_170 (fun h63 eh63 => ?_)
                  have hI64 : Inv h63 := inv_full hI48 eh63 rfl
                  have f65 : fr S_Tape_advanceX h h63 := fr_put f49 eh63 rfl
                  refine V_goto 181 d_Tape_advance_173 (by decide) ?_
                  exact V_vret rfl d_Tape_advance_181 ⟨rfl, ⟨hI64, f65, 4, 4, tc_4, (kn_put eh63), v11, v11Z, v11E, (kn_nei eh63 (kn_call fh46 (kn_nei eh20 K12 (by decide)) rfl) (by decide)), o50, o50Z, o50E, (kn_nei eh63 o50K (by decide)), o51, o51Z, o51E, (kn_nei eh63 o51K (by decide)), (by omega)⟩⟩
            ·
              refine V_aload_n 0 d_Tape_advance_120 rfl rfl ?_
              refine V_iconst 1 d_Tape_advance_121 (by decide) ?_
              refine N_putI fp_Tape_25 sk_89 rfl d_Tape_advance_122 (fun h66 eh66 => ?_)
              have hI67 : Inv h66 := inv_full hI21 eh66 rfl
              have f68 : fr S_Tape_advanceX h h66 := fr_put f22 eh66 rfl
              refine V_aload_n 0 d_Tape_advance_125 rfl rfl ?_
              refine N_callVV [] [] cv_Tape_32 sk_89 rfl d_Tape_advance_126 rfl (Nat.le_of_ble_eq_true rfl) (by decide) (by decide) (c_Tape_passLettersX h66 b hI67 s sZ sE (kn_nei eh66 (kn_nei eh20 K9 (by decide)) (by decide)) v11 v11Z v11E (kn_nei eh66 (kn_put eh20) (by decide)) (TP_fr f68 (fun _ => rfl) hy0) (by omega)) (fun h70 p71 => ?_)
              obtain ⟨hI72, fh70, o74, o74Z, o74E, o74K, p71⟩ := p71
              have f73 : fr S_Tape_advanceX h h70 := fr_call f68 fh70 rfl
              have g75 : 0 ≤ o74Z ∧ o74Z ≤ 160 := inv_at hI72 o74E o74K.symm rfl
              have g76 := tok_1 (p := tZ) (u := o74Z) (show v11Z = x_fr b tZ by unfold x_fr; omega) (by omega) (by omega)
              have g77 : v11Z = x_fr b tZ := by unfold x_fr; omega
              have g78 := rn_step (P := leB) (b := b) (p := v11Z) (leB_y (by omega)) (by omega)
              have g79 := rn_ge (P := leB) (b := b) (v11Z + 1)
              refine V_goto 181 d_Tape_advance_129 (by decide) ?_
              obtain ⟨z80, z80Z, z80E, z80e⟩ : ∃ (y : Int32) (Y : Int), y.toInt = Y ∧ y = h70.1 89 5 := ⟨_, _, rfl, rfl⟩
              exact V_vret rfl d_Tape_advance_181 ⟨rfl, ⟨hI72, f73, 1, 1, tc_1, (kn_call fh70 (kn_put eh66) rfl), v11, v11Z, v11E, (kn_call fh70 (kn_nei eh66 (kn_nei eh20 K12 (by decide)) (by decide)) rfl), o74, o74Z, o74E, o74K, z80, z80Z, z80E, z80e.symm, (by omega)⟩⟩
          ·
            have g81 := tok_3 (p := tZ) (show v11Z = x_fr b tZ by unfold x_fr; omega) (by omega)
            have g82 : v11Z = x_fr b tZ := by unfold x_fr; omega
            refine V_aload_n 0 d_Tape_advance_87 rfl rfl ?_
            refine V_iconst 3 d_Tape_advance_88 (by decide) ?_
            refine N_putI fp_Tape_25 sk_89 rfl d_Tape_advance_89 (fun h83 eh83 => ?_)
            have hI84 : Inv h83 := inv_full hI21 eh83 rfl
            have f85 : fr S_Tape_advanceX h h83 := fr_put f22 eh83 rfl
            refine V_aload_n 0 d_Tape_advance_92 rfl rfl ?_
            refine V_aload_n 0 d_Tape_advance_93 rfl rfl ?_
            refine N_getK fa_Tape_19 sk_89 rfl d_Tape_advance_94 (kn_nei eh83 (kn_nei eh20 K12 (by decide)) (by decide)) ?_
            refine V_iconst 1 d_Tape_advance_97 (by decide) ?_
            refine V_iadd v11E tc_1 (by omega) d_Tape_advance_98 (fun z86 z86e z86E => ?_)
            refine N_putI fp_Tape_15 sk_89 rfl d_Tape_advance_99 (fun h87 eh87 => ?_)
            have hI88 : Inv h87 := inv_put (lo := 0) (hi := 160) hI84 eh87 rfl z86E (by omega)
            have f89 : fr S_Tape_advanceX h h87 := fr_put f85 eh87 rfl
            refine V_goto 181 d_Tape_advance_102 (by decide) ?_
            obtain ⟨z90, z90Z, z90E, z90e⟩ : ∃ (y : Int32) (Y : Int), y.toInt = Y ∧ y = h87.1 89 5 := ⟨_, _, rfl, rfl⟩
            exact V_vret rfl d_Tape_advance_181 ⟨rfl, ⟨hI88, f89, 3, 3, tc_3, (kn_nei eh87 (kn_put eh83) (by decide)), v11, v11Z, v11E, (kn_nei eh87 (kn_nei eh83 (kn_nei eh20 K12 (by decide)) (by decide)) (by decide)), z86, (v11Z + 1), z86E, (kn_put eh87), z90, z90Z, z90E, z90e.symm, (by omega)⟩⟩
        ·
          have g91 := tok_0 (p := tZ) (show v11Z = x_fr b tZ by unfold x_fr; omega) (by omega)
          have g92 : v11Z = x_fr b tZ := by unfold x_fr; omega
          refine V_aload_n 0 d_Tape_advance_65 rfl rfl ?_
          refine V_iconst 0 d_Tape_advance_66 (by decide) ?_
          refine N_putI fp_Tape_25 sk_89 rfl d_Tape_advance_67 (fun h93 eh93 => ?_)
          have hI94 : Inv h93 := inv_full hI21 eh93 rfl
          have f95 : fr S_Tape_advanceX h h93 := fr_put f22 eh93 rfl
          refine V_goto 181 d_Tape_advance_70 (by decide) ?_
          obtain ⟨z96, z96Z, z96E, z96e⟩ : ∃ (y : Int32) (Y : Int), y.toInt = Y ∧ y = h93.1 89 5 := ⟨_, _, rfl, rfl⟩
          exact V_vret rfl d_Tape_advance_181 ⟨rfl, ⟨hI94, f95, 0, 0, tc_0, (kn_put eh93), v11, v11Z, v11E, (kn_nei eh93 (kn_nei eh20 K12 (by decide)) (by decide)), v11, v11Z, v11E, (kn_nei eh93 (kn_put eh20) (by decide)), z96, z96Z, z96E, z96e.symm, (by omega)⟩⟩
      ·
        refine V_aload_n 0 d_Tape_advance_19 rfl rfl ?_
        refine V_getR fa_Tape_9 sk_89 rfl d_Tape_advance_20 ?_
        refine V_aload_n 0 d_Tape_advance_23 rfl rfl ?_
        refine N_getK fa_Tape_19 sk_89 rfl d_Tape_advance_24 K12 ?_
        refine N_bald sk_90 v11E (by omega) d_Tape_advance_27 (fun z97 z97Z z97E z97e => ?_)
        have g98 : z97Z = b v11Z := TP_rd (TP_fr Fh8 (fun _ => rfl) hy0) (by omega) z97E z97e
        refine V_bipush 32 d_Tape_advance_28 (by decide) ?_
        refine V_icmp_ne 46 z97E tc_32 d_Tape_advance_30 (by decide) (fun c99 => ?_) (fun c99 => ?_)
        ·
          have g100 := rn_stop (P := blB) (b := b) (p := v11Z) (blB_n (by omega))
          refine V_aload_n 0 d_Tape_advance_46 rfl rfl ?_
          refine V_aload_n 0 d_Tape_advance_47 rfl rfl ?_
          refine N_getK fa_Tape_19 sk_89 rfl d_Tape_advance_48 K12 ?_
          refine N_putI fp_Tape_15 sk_89 rfl d_Tape_advance_51 (fun h101 eh101 => ?_)
          have hI102 : Inv h101 := inv_put (lo := 0) (hi := 160) Ih8 eh101 rfl v11E (by omega)
          have f103 : fr S_Tape_advanceX h h101 := fr_put Fh8 eh101 rfl
          refine V_aload_n 0 d_Tape_advance_54 rfl rfl ?_
          refine N_getK fa_Tape_19 sk_89 rfl d_Tape_advance_55 (kn_nei eh101 K12 (by decide)) ?_
          refine V_aload_n 0 d_Tape_advance_58 rfl rfl ?_
          refine N_getK fa_Tape_22 sk_89 rfl d_Tape_advance_59 (kn_nei eh101 K9 (by decide)) ?_
          refine V_icmp_lt 73 v11E sE d_Tape_advance_62 (by decide) (fun c104 => ?_) (fun c104 => ?_)
          ·
            refine V_aload_n 0 d_Tape_advance_73 rfl rfl ?_
            refine V_getR fa_Tape_9 sk_89 rfl d_Tape_advance_74 ?_
            refine V_aload_n 0 d_Tape_advance_77 rfl rfl ?_
            refine N_getK fa_Tape_19 sk_89 rfl d_Tape_advance_78 (kn_nei eh101 K12 (by decide)) ?_
            refine N_bald sk_90 v11E (by omega) d_Tape_advance_81 (fun z105 z105Z z105E z105e => ?_)
            have g106 : z105Z = b v11Z := TP_rd (TP_fr f103 (fun _ => rfl) hy0) (by omega) z105E z105e
            refine V_bipush 59 d_Tape_advance_82 (by decide) ?_
            refine V_icmp_ne 105 z105E tc_59 d_Tape_advance_84 (by decide) (fun c107 => ?_) (fun c107 => ?_)
            ·
              refine V_aload_n 0 d_Tape_advance_105 rfl rfl ?_
              refine V_getR fa_Tape_9 sk_89 rfl d_Tape_advance_106 ?_
              refine V_aload_n 0 d_Tape_advance_109 rfl rfl ?_
              refine N_getK fa_Tape_19 sk_89 rfl d_Tape_advance_110 (kn_nei eh101 K12 (by decide)) ?_
              refine N_bald sk_90 v11E (by omega) d_Tape_advance_113 (fun z108 z108Z z108E z108e => ?_)
              have g109 : z108Z = b v11Z := TP_rd (TP_fr f103 (fun _ => rfl) hy0) (by omega) z108E z108e
              refine N_callSI [.int z108] [] cs_Tape_28 d_Tape_advance_114 rfl (Nat.le_of_ble_eq_true rfl) (by decide) (by decide) (c_Tape_isLetterX h101 z108 z108Z z108E) (fun z110 h111 z110Z z110E p112 => ?_)
              obtain ⟨eh111, p112⟩ := p112
              subst eh111
              refine V_if_eq 132 z110E d_Tape_advance_117 (by decide) (fun c113 => ?_) (fun c113 => ?_)
              ·
                refine V_aload_n 0 d_Tape_advance_132 rfl rfl ?_
                refine V_getR fa_Tape_9 sk_89 rfl d_Tape_advance_133 ?_
                refine V_aload_n 0 d_Tape_advance_136 rfl rfl ?_
                refine N_getK fa_Tape_19 sk_89 rfl d_Tape_advance_137 (kn_nei eh101 K12 (by decide)) ?_
                refine N_bald sk_90 v11E (by omega) d_Tape_advance_140 (fun z114 z114Z z114E z114e => ?_)
                have g115 : z114Z = b v11Z := TP_rd (TP_fr f103 (fun _ => rfl) hy0) (by omega) z114E z114e
                refine N_callSI [.int z114] [] cs_Tape_35 d_Tape_advance_141 rfl (Nat.le_of_ble_eq_true rfl) (by decide) (by decide) (c_Tape_isFigureX h101 z114 z114Z z114E) (fun z116 h117 z116Z z116E p118 => ?_)
                obtain ⟨eh117, p118⟩ := p118
                subst eh117
                refine V_if_eq 176 z116E d_Tape_advance_144 (by decide) (fun c119 => ?_) (fun c119 => ?_)
                ·
                  have g120 := tok_4 (p := tZ) (show v11Z = x_fr b tZ by unfold x_fr; omega) (by omega)
                  have g121 : v11Z = x_fr b tZ := by unfold x_fr; omega
                  refine V_aload_n 0 d_Tape_advance_176 rfl rfl ?_
                  refine V_iconst 4 d_Tape_advance_177 (by decide) ?_
                  refine N_putI fp_Tape_25 sk_89 rfl d_Tape_advance_178 (fun h122 eh122 => ?_)
                  have hI123 : Inv h122 := inv_full hI102 eh122 rfl
                  have f124 : fr S_Tape_advanceX h h122 := fr_put f103 eh122 rfl
                  obtain ⟨z125, z125Z, z125E, z125e⟩ : ∃ (y : Int32) (Y : Int), y.toInt = Y ∧ y = h122.1 89 5 := ⟨_, _, rfl, rfl⟩
                  exact V_vret rfl d_Tape_advance_181 ⟨rfl, ⟨hI123, f124, 4, 4, tc_4, (kn_put eh122), v11, v11Z, v11E, (kn_nei eh122 (kn_nei eh101 K12 (by decide)) (by decide)), v11, v11Z, v11E, (kn_nei eh122 (kn_put eh101) (by decide)), z125, z125Z, z125E, z125e.symm, (by omega)⟩⟩
                ·
                  refine V_aload_n 0 d_Tape_advance_147 rfl rfl ?_
                  refine N_callVV [] [] cv_Tape_38 sk_89 rfl d_Tape_advance_148 rfl (Nat.le_of_ble_eq_true rfl) (by decide) (by decide) (c_Tape_passFiguresX h101 b hI102 s sZ sE (kn_nei eh101 K9 (by decide)) v11 v11Z v11E (kn_put eh101) (TP_fr f103 (fun _ => rfl) hy0) (by omega)) (fun h127 p128 => ?_)
                  obtain ⟨hI129, fh127, o131, o131Z, o131E, o131K, o132, o132Z, o132E, o132K, p128⟩ := p128
                  have f130 : fr S_Tape_advanceX h h127 := fr_call f103 fh127 rfl
                  have g133 : 0 ≤ o131Z ∧ o131Z ≤ 160 := inv_at hI129 o131E o131K.symm rfl
                  have g134 := tok_2 (p := tZ) (u := o131Z) (show v11Z = x_fr b tZ by unfold x_fr; omega) (by omega) (by omega)
                  have g135 : v11Z = x_fr b tZ := by unfold x_fr; omega
                  have g136 := rn_step (P := fiB) (b := b) (p := v11Z) (fiB_y (by omega)) (by omega)
                  have g137 := rn_ge (P := fiB) (b := b) (v11Z + 1)
                  refine V_aload_n 0 d_Tape_advance_151 rfl rfl ?_
                  refine V_aload_n 0 d_Tape_advance_152 rfl rfl ?_
                  refine N_getK fa_Tape_15 sk_89 rfl d_Tape_advance_153 o131K ?_
                  refine V_aload_n 0 d_Tape_advance_156 rfl rfl ?_
                  refine N_getK fa_Tape_19 sk_89 rfl d_Tape_advance_157 (kn_call fh127 (kn_nei eh101 K12 (by decide)) rfl) ?_
                  refine V_isub o131E v11E (by omega) d_Tape_advance_160 (fun z138 z138e z138E => ?_)
                  refine V_iconst 2 d_Tape_advance_161 (by decide) ?_
                  refine V_icmp_le 169 z138E tc_2 d_Tape_advance_162 (by decide) (fun c139 => ?_) (fun c139 => ?_)
                  ·
                    have g140 := tok_v (p := tZ) (u := o131Z) (v := o132Z) (show v11Z = x_fr b tZ by unfold x_fr; omega) (by omega) (by omega)
                    refine V_iconst 2 d_Tape_advance_169 (by decide) ?_
                    refine N_putI fp_Tape_25 sk_89 rfl d_Tape_advance_170 (fun h141 eh141 => ?_)
                    have hI142 : Inv h141 := inv_full hI129 eh141 rfl
                    have f143 : fr S_Tape_advanceX h h141 := fr_put f130 eh141 rfl
                    refine V_goto 181 d_Tape_advance_173 (by decide) ?_
                    exact V_vret rfl d_Tape_advance_181 ⟨rfl, ⟨hI142, f143, 2, 2, tc_2, (kn_put eh141), v11, v11Z, v11E, (kn_nei eh141 (kn_call fh127 (kn_nei eh101 K12 (by decide)) rfl) (by decide)), o131, o131Z, o131E, (kn_nei eh141 o131K (by decide)), o132, o132Z, o132E, (kn_nei eh141 o132K (by decide)), (by omega)⟩⟩
                  ·
                    refine V_iconst 4 d_Tape_advance_165 (by decide) ?_
                    refine V_goto 170 d_Tape_advance_166 (by decide) ?_
                    refine N_putI fp_Tape_25 sk_89 rfl d_Tape_advance_170 (fun h144 eh144 => ?_)
                    have hI145 : Inv h144 := inv_full hI129 eh144 rfl
                    have f146 : fr S_Tape_advanceX h h144 := fr_put f130 eh144 rfl
                    refine V_goto 181 d_Tape_advance_173 (by decide) ?_
                    exact V_vret rfl d_Tape_advance_181 ⟨rfl, ⟨hI145, f146, 4, 4, tc_4, (kn_put eh144), v11, v11Z, v11E, (kn_nei eh144 (kn_call fh127 (kn_nei eh101 K12 (by decide)) rfl) (by decide)), o131, o131Z, o131E, (kn_nei eh144 o131K (by decide)), o132, o132Z, o132E, (kn_nei eh144 o132K (by decide)), (by omega)⟩⟩
              ·
                refine V_aload_n 0 d_Tape_advance_120 rfl rfl ?_
                refine V_iconst 1 d_Tape_advance_121 (by decide) ?_
                refine N_putI fp_Tape_25 sk_89 rfl d_Tape_advance_122 (fun h147 eh147 => ?_)
                have hI148 : Inv h147 := inv_full hI102 eh147 rfl
                have f149 : fr S_Tape_advanceX h h147 := fr_put f103 eh147 rfl
                refine V_aload_n 0 d_Tape_advance_125 rfl rfl ?_
                refine N_callVV [] [] cv_Tape_32 sk_89 rfl d_Tape_advance_126 rfl (Nat.le_of_ble_eq_true rfl) (by decide) (by decide) (c_Tape_passLettersX h147 b hI148 s sZ sE (kn_nei eh147 (kn_nei eh101 K9 (by decide)) (by decide)) v11 v11Z v11E (kn_nei eh147 (kn_put eh101) (by decide)) (TP_fr f149 (fun _ => rfl) hy0) (by omega)) (fun h151 p152 => ?_)
                obtain ⟨hI153, fh151, o155, o155Z, o155E, o155K, p152⟩ := p152
                have f154 : fr S_Tape_advanceX h h151 := fr_call f149 fh151 rfl
                have g156 : 0 ≤ o155Z ∧ o155Z ≤ 160 := inv_at hI153 o155E o155K.symm rfl
                have g157 := tok_1 (p := tZ) (u := o155Z) (show v11Z = x_fr b tZ by unfold x_fr; omega) (by omega) (by omega)
                have g158 : v11Z = x_fr b tZ := by unfold x_fr; omega
                have g159 := rn_step (P := leB) (b := b) (p := v11Z) (leB_y (by omega)) (by omega)
                have g160 := rn_ge (P := leB) (b := b) (v11Z + 1)
                refine V_goto 181 d_Tape_advance_129 (by decide) ?_
                obtain ⟨z161, z161Z, z161E, z161e⟩ : ∃ (y : Int32) (Y : Int), y.toInt = Y ∧ y = h151.1 89 5 := ⟨_, _, rfl, rfl⟩
                exact V_vret rfl d_Tape_advance_181 ⟨rfl, ⟨hI153, f154, 1, 1, tc_1, (kn_call fh151 (kn_put eh147) rfl), v11, v11Z, v11E, (kn_call fh151 (kn_nei eh147 (kn_nei eh101 K12 (by decide)) (by decide)) rfl), o155, o155Z, o155E, o155K, z161, z161Z, z161E, z161e.symm, (by omega)⟩⟩
            ·
              have g162 := tok_3 (p := tZ) (show v11Z = x_fr b tZ by unfold x_fr; omega) (by omega)
              have g163 : v11Z = x_fr b tZ := by unfold x_fr; omega
              refine V_aload_n 0 d_Tape_advance_87 rfl rfl ?_
              refine V_iconst 3 d_Tape_advance_88 (by decide) ?_
              refine N_putI fp_Tape_25 sk_89 rfl d_Tape_advance_89 (fun h164 eh164 => ?_)
              have hI165 : Inv h164 := inv_full hI102 eh164 rfl
              have f166 : fr S_Tape_advanceX h h164 := fr_put f103 eh164 rfl
              refine V_aload_n 0 d_Tape_advance_92 rfl rfl ?_
              refine V_aload_n 0 d_Tape_advance_93 rfl rfl ?_
              refine N_getK fa_Tape_19 sk_89 rfl d_Tape_advance_94 (kn_nei eh164 (kn_nei eh101 K12 (by decide)) (by decide)) ?_
              refine V_iconst 1 d_Tape_advance_97 (by decide) ?_
              refine V_iadd v11E tc_1 (by omega) d_Tape_advance_98 (fun z167 z167e z167E => ?_)
              refine N_putI fp_Tape_15 sk_89 rfl d_Tape_advance_99 (fun h168 eh168 => ?_)
              have hI169 : Inv h168 := inv_put (lo := 0) (hi := 160) hI165 eh168 rfl z167E (by omega)
              have f170 : fr S_Tape_advanceX h h168 := fr_put f166 eh168 rfl
              refine V_goto 181 d_Tape_advance_102 (by decide) ?_
              obtain ⟨z171, z171Z, z171E, z171e⟩ : ∃ (y : Int32) (Y : Int), y.toInt = Y ∧ y = h168.1 89 5 := ⟨_, _, rfl, rfl⟩
              exact V_vret rfl d_Tape_advance_181 ⟨rfl, ⟨hI169, f170, 3, 3, tc_3, (kn_nei eh168 (kn_put eh164) (by decide)), v11, v11Z, v11E, (kn_nei eh168 (kn_nei eh164 (kn_nei eh101 K12 (by decide)) (by decide)) (by decide)), z167, (v11Z + 1), z167E, (kn_put eh168), z171, z171Z, z171E, z171e.symm, (by omega)⟩⟩
          ·
            have g172 := tok_0 (p := tZ) (show v11Z = x_fr b tZ by unfold x_fr; omega) (by omega)
            have g173 : v11Z = x_fr b tZ := by unfold x_fr; omega
            refine V_aload_n 0 d_Tape_advance_65 rfl rfl ?_
            refine V_iconst 0 d_Tape_advance_66 (by decide) ?_
            refine N_putI fp_Tape_25 sk_89 rfl d_Tape_advance_67 (fun h174 eh174 => ?_)
            have hI175 : Inv h174 := inv_full hI102 eh174 rfl
            have f176 : fr S_Tape_advanceX h h174 := fr_put f103 eh174 rfl
            refine V_goto 181 d_Tape_advance_70 (by decide) ?_
            obtain ⟨z177, z177Z, z177E, z177e⟩ : ∃ (y : Int32) (Y : Int), y.toInt = Y ∧ y = h174.1 89 5 := ⟨_, _, rfl, rfl⟩
            exact V_vret rfl d_Tape_advance_181 ⟨rfl, ⟨hI175, f176, 0, 0, tc_0, (kn_put eh174), v11, v11Z, v11E, (kn_nei eh174 (kn_nei eh101 K12 (by decide)) (by decide)), v11, v11Z, v11E, (kn_nei eh174 (kn_put eh101) (by decide)), z177, z177Z, z177E, z177e.symm, (by omega)⟩⟩
        ·
          have g178 := rn_step (P := blB) (b := b) (p := v11Z) (blB_y (by omega)) (by omega)
          refine V_aload_n 0 d_Tape_advance_33 rfl rfl ?_
          refine V_dup d_Tape_advance_34 rfl ?_
          refine N_getK fa_Tape_19 sk_89 rfl d_Tape_advance_35 K12 ?_
          refine V_iconst 1 d_Tape_advance_38 (by decide) ?_
          refine V_iadd v11E tc_1 (by omega) d_Tape_advance_39 (fun z179 z179e z179E => ?_)
          refine N_putI fp_Tape_19 sk_89 rfl d_Tape_advance_40 (fun h180 eh180 => ?_)
          have hI181 : Inv h180 := inv_put (lo := 0) (hi := 160) Ih8 eh180 rfl z179E (by omega)
          have f182 : fr S_Tape_advanceX h h180 := fr_put Fh8 eh180 rfl
          refine V_goto 8 d_Tape_advance_43 (by decide) ?_
          exact ihL6 h180 z179 ((v11Z + 1)) hI181 f182 (kn_nei eh180 K9 (by decide)) (kn_nei eh180 K10 (by decide)) z179E (kn_put eh180) (by omega) (by omega) (by omega)
  exact L6 (Int.toNat ((160 - tZ : Int) + 1)) h3 t tZ hI4 f5 (kn_nei eh3 sK (by decide)) (kn_nei eh3 tK (by decide)) tE (kn_put eh3) (by omega) (by omega) (by omega)
end
section
abbrev q_Tape_isNameX_0 (h : Hp) (b : Int → Int) (s : Int32) (sZ : Int) (q : Int32) (qZ : Int) (f : Int32) (fZ : Int) (u : Int32) (uZ : Int) : Option Value → Hp → Prop := pInt (fun r h' => h = h' ∧ (qZ ≠ 1 ∧ r.toInt = 0 ∨ qZ = 1 ∧ r.toInt = x_nm0 b fZ uZ))
set_option maxRecDepth 100000 in
theorem c_Tape_isNameX_0 (h : Hp) (b : Int → Int) (hI : Inv h) (s : Int32) (sZ : Int) (sE : s.toInt = sZ) (sK : h.1 89 1 = s) (q : Int32) (qZ : Int) (qE : q.toInt = qZ) (qK : h.1 89 2 = q) (f : Int32) (fZ : Int) (fE : f.toInt = fZ) (fK : h.1 89 3 = f) (u : Int32) (uZ : Int) (uE : u.toInt = uZ) (uK : h.1 89 4 = u) (hy0 : TP h 90 sZ b) (hy1 : 0 ≤ fZ ∧ fZ ≤ uZ ∧ uZ ≤ sZ ∧ sZ ≤ 160) : Ct y_Tape_isName b_Tape_isName 4 (some .boolean) 4 85 [.ref 89, .ref (135 + 0)] h (q_Tape_isNameX_0 h b s sZ q qZ f fZ u uZ) := by
  refine ct_ow R_Tape [some (.ref 89), some (.ref (135 + 0)), none, none] rfl (by decide) rfl (Nat.le_of_ble_eq_true rfl) ?_
  have f0 : fr [] h h := fr_rf
  have g1 : 0 ≤ sZ ∧ sZ ≤ 160 := inv_at hI sE sK.symm rfl
  have g2 : 0 ≤ fZ ∧ fZ ≤ 160 := inv_at hI fE fK.symm rfl
  have g3 : 0 ≤ uZ ∧ uZ ≤ 160 := inv_at hI uE uK.symm rfl
  have sH : 0 < 14 := by decide
  refine V_aload_n 1 d_Tape_isName_0 rfl rfl ?_
  refine N_callVSI [] [] cv_Tape_41 sH rfl d_Tape_isName_1 rfl (Nat.le_of_ble_eq_true rfl) (by decide) (by decide) (c_Str_length h 0 sH) (fun z4 h5 z4Z z4E p6 => ?_)
  obtain ⟨eh5, p6⟩ := p6
  subst eh5
  rw [z4E] at p6
  obtain rfl : z4 = 6 := (ti_eq z4E (show (6 : Int32).toInt = 6 from rfl)).mpr (p6.trans rfl)
  refine V_istore_n 2 [some (.ref 89), some (.ref (135 + 0)), some (.int 6), none] d_Tape_isName_4 rfl (by decide) rfl rfl ?_
  refine V_aload_n 0 d_Tape_isName_5 rfl rfl ?_
  refine N_getK fa_Tape_25 sk_89 rfl d_Tape_isName_6 qK ?_
  refine V_iconst 1 d_Tape_isName_9 (by decide) ?_
  refine V_icmp_ne 26 qE tc_1 d_Tape_isName_10 (by decide) (fun c7 => ?_) (fun c7 => ?_)
  ·
    refine V_iconst 0 d_Tape_isName_26 (by decide) ?_
    exact V_zret rfl (by decide) d_Tape_isName_27 ⟨0, rfl, ⟨rfl, (if q : qZ = 1 then Or.inr ⟨q, tc_0.trans (x_nmn0 (b := b) (f := fZ) (e := uZ) (by omega)).symm⟩ else Or.inl ⟨q, rfl⟩)⟩⟩
  ·
    refine V_aload_n 0 d_Tape_isName_13 rfl rfl ?_
    refine N_getK fa_Tape_15 sk_89 rfl d_Tape_isName_14 uK ?_
    refine V_aload_n 0 d_Tape_isName_17 rfl rfl ?_
    refine N_getK fa_Tape_19 sk_89 rfl d_Tape_isName_18 fK ?_
    refine V_isub uE fE (by omega) d_Tape_isName_21 (fun z8 z8e z8E => ?_)
    refine V_iload_n 2 d_Tape_isName_22 rfl rfl ?_
    refine V_icmp_eq 28 z8E tc_6 d_Tape_isName_23 (by decide) (fun c9 => ?_) (fun c9 => ?_)
    ·
      refine V_iconst 0 d_Tape_isName_28 (by decide) ?_
      refine V_istore_n 3 [some (.ref 89), some (.ref (135 + 0)), some (.int 6), some (.int 0)] d_Tape_isName_29 rfl (by decide) rfl rfl ?_
      refine V_iload_n 3 d_Tape_isName_30 rfl rfl ?_
      refine V_iload_n 2 d_Tape_isName_31 rfl rfl ?_
      refine V_icmp_ge 62 tc_0 tc_6 d_Tape_isName_32 (by decide) (fun c10 => ?_) (fun c10 => ?_)
      ·
        exact absurd c10 (by decide)
      ·
        refine V_aload_n 0 d_Tape_isName_35 rfl rfl ?_
        refine V_getR fa_Tape_9 sk_89 rfl d_Tape_isName_36 ?_
        refine V_aload_n 0 d_Tape_isName_39 rfl rfl ?_
        refine N_getK fa_Tape_19 sk_89 rfl d_Tape_isName_40 fK ?_
        refine V_iload_n 3 d_Tape_isName_43 rfl rfl ?_
        refine V_iadd fE tc_0 (by omega) d_Tape_isName_44 (fun z11 z11e z11E => ?_)
        refine N_bald sk_90 z11E (by omega) d_Tape_isName_45 (fun z12 z12Z z12E z12e => ?_)
        have g13 : z12Z = b (fZ + 0) := TP_rd (TP_fr f0 (fun _ => rfl) hy0) (by omega) z12E z12e
        refine V_aload_n 1 d_Tape_isName_46 rfl rfl ?_
        refine V_iload_n 3 d_Tape_isName_47 rfl rfl ?_
        refine N_callVSI [.int 0] [.int z12] cv_Tape_47 sH rfl d_Tape_isName_48 rfl (Nat.le_of_ble_eq_true rfl) (by decide) (by decide) (c_Str_charAt h 0 sH 0 0 tc_0 (by decide)) (fun z14 h15 z14Z z14E p16 => ?_)
        obtain ⟨eh15, p16⟩ := p16
        subst eh15
        obtain rfl : z14 = 99 := p16.trans rfl
        refine V_icmp_eq 56 z12E tc_99 d_Tape_isName_51 (by decide) (fun c17 => ?_) (fun c17 => ?_)
        ·
          refine V_iinc (v := 1) 3 [some (.ref 89), some (.ref (135 + 0)), some (.int 6), some (.int 1)] d_Tape_isName_56 rfl (by decide) (by decide) rfl rfl ?_
          refine V_goto 30 d_Tape_isName_59 (by decide) ?_
          refine V_iload_n 3 d_Tape_isName_30 rfl rfl ?_
          refine V_iload_n 2 d_Tape_isName_31 rfl rfl ?_
          refine V_icmp_ge 62 tc_1 tc_6 d_Tape_isName_32 (by decide) (fun c19 => ?_) (fun c19 => ?_)
          ·
            exact absurd c19 (by decide)
          ·
            refine V_aload_n 0 d_Tape_isName_35 rfl rfl ?_
            refine V_getR fa_Tape_9 sk_89 rfl d_Tape_isName_36 ?_
            refine V_aload_n 0 d_Tape_isName_39 rfl rfl ?_
            refine N_getK fa_Tape_19 sk_89 rfl d_Tape_isName_40 fK ?_
            refine V_iload_n 3 d_Tape_isName_43 rfl rfl ?_
            refine V_iadd fE tc_1 (by omega) d_Tape_isName_44 (fun z20 z20e z20E => ?_)
            refine N_bald sk_90 z20E (by omega) d_Tape_isName_45 (fun z21 z21Z z21E z21e => ?_)
            have g22 : z21Z = b (fZ + 1) := TP_rd (TP_fr f0 (fun _ => rfl) hy0) (by omega) z21E z21e
            refine V_aload_n 1 d_Tape_isName_46 rfl rfl ?_
            refine V_iload_n 3 d_Tape_isName_47 rfl rfl ?_
            refine N_callVSI [.int 1] [.int z21] cv_Tape_47 sH rfl d_Tape_isName_48 rfl (Nat.le_of_ble_eq_true rfl) (by decide) (by decide) (c_Str_charAt h 0 sH 1 1 tc_1 (by decide)) (fun z23 h24 z23Z z23E p25 => ?_)
            obtain ⟨eh24, p25⟩ := p25
            subst eh24
            obtain rfl : z23 = 111 := p25.trans rfl
            refine V_icmp_eq 56 z21E tc_111 d_Tape_isName_51 (by decide) (fun c26 => ?_) (fun c26 => ?_)
            ·
              refine V_iinc (v := 2) 3 [some (.ref 89), some (.ref (135 + 0)), some (.int 6), some (.int 2)] d_Tape_isName_56 rfl (by decide) (by decide) rfl rfl ?_
              refine V_goto 30 d_Tape_isName_59 (by decide) ?_
              refine V_iload_n 3 d_Tape_isName_30 rfl rfl ?_
              refine V_iload_n 2 d_Tape_isName_31 rfl rfl ?_
              refine V_icmp_ge 62 tc_2 tc_6 d_Tape_isName_32 (by decide) (fun c28 => ?_) (fun c28 => ?_)
              ·
                exact absurd c28 (by decide)
              ·
                refine V_aload_n 0 d_Tape_isName_35 rfl rfl ?_
                refine V_getR fa_Tape_9 sk_89 rfl d_Tape_isName_36 ?_
                refine V_aload_n 0 d_Tape_isName_39 rfl rfl ?_
                refine N_getK fa_Tape_19 sk_89 rfl d_Tape_isName_40 fK ?_
                refine V_iload_n 3 d_Tape_isName_43 rfl rfl ?_
                refine V_iadd fE tc_2 (by omega) d_Tape_isName_44 (fun z29 z29e z29E => ?_)
                refine N_bald sk_90 z29E (by omega) d_Tape_isName_45 (fun z30 z30Z z30E z30e => ?_)
                have g31 : z30Z = b (fZ + 2) := TP_rd (TP_fr f0 (fun _ => rfl) hy0) (by omega) z30E z30e
                refine V_aload_n 1 d_Tape_isName_46 rfl rfl ?_
                refine V_iload_n 3 d_Tape_isName_47 rfl rfl ?_
                refine N_callVSI [.int 2] [.int z30] cv_Tape_47 sH rfl d_Tape_isName_48 rfl (Nat.le_of_ble_eq_true rfl) (by decide) (by decide) (c_Str_charAt h 0 sH 2 2 tc_2 (by decide)) (fun z32 h33 z32Z z32E p34 => ?_)
                obtain ⟨eh33, p34⟩ := p34
                subst eh33
                obtain rfl : z32 = 117 := p34.trans rfl
                refine V_icmp_eq 56 z30E tc_117 d_Tape_isName_51 (by decide) (fun c35 => ?_) (fun c35 => ?_)
                ·
                  refine V_iinc (v := 3) 3 [some (.ref 89), some (.ref (135 + 0)), some (.int 6), some (.int 3)] d_Tape_isName_56 rfl (by decide) (by decide) rfl rfl ?_
                  refine V_goto 30 d_Tape_isName_59 (by decide) ?_
                  refine V_iload_n 3 d_Tape_isName_30 rfl rfl ?_
                  refine V_iload_n 2 d_Tape_isName_31 rfl rfl ?_
                  refine V_icmp_ge 62 tc_3 tc_6 d_Tape_isName_32 (by decide) (fun c37 => ?_) (fun c37 => ?_)
                  ·
                    exact absurd c37 (by decide)
                  ·
                    refine V_aload_n 0 d_Tape_isName_35 rfl rfl ?_
                    refine V_getR fa_Tape_9 sk_89 rfl d_Tape_isName_36 ?_
                    refine V_aload_n 0 d_Tape_isName_39 rfl rfl ?_
                    refine N_getK fa_Tape_19 sk_89 rfl d_Tape_isName_40 fK ?_
                    refine V_iload_n 3 d_Tape_isName_43 rfl rfl ?_
                    refine V_iadd fE tc_3 (by omega) d_Tape_isName_44 (fun z38 z38e z38E => ?_)
                    refine N_bald sk_90 z38E (by omega) d_Tape_isName_45 (fun z39 z39Z z39E z39e => ?_)
                    have g40 : z39Z = b (fZ + 3) := TP_rd (TP_fr f0 (fun _ => rfl) hy0) (by omega) z39E z39e
                    refine V_aload_n 1 d_Tape_isName_46 rfl rfl ?_
                    refine V_iload_n 3 d_Tape_isName_47 rfl rfl ?_
                    refine N_callVSI [.int 3] [.int z39] cv_Tape_47 sH rfl d_Tape_isName_48 rfl (Nat.le_of_ble_eq_true rfl) (by decide) (by decide) (c_Str_charAt h 0 sH 3 3 tc_3 (by decide)) (fun z41 h42 z41Z z41E p43 => ?_)
                    obtain ⟨eh42, p43⟩ := p43
                    subst eh42
                    obtain rfl : z41 = 110 := p43.trans rfl
                    refine V_icmp_eq 56 z39E tc_110 d_Tape_isName_51 (by decide) (fun c44 => ?_) (fun c44 => ?_)
                    ·
                      refine V_iinc (v := 4) 3 [some (.ref 89), some (.ref (135 + 0)), some (.int 6), some (.int 4)] d_Tape_isName_56 rfl (by decide) (by decide) rfl rfl ?_
                      refine V_goto 30 d_Tape_isName_59 (by decide) ?_
                      refine V_iload_n 3 d_Tape_isName_30 rfl rfl ?_
                      refine V_iload_n 2 d_Tape_isName_31 rfl rfl ?_
                      refine V_icmp_ge 62 tc_4 tc_6 d_Tape_isName_32 (by decide) (fun c46 => ?_) (fun c46 => ?_)
                      ·
                        exact absurd c46 (by decide)
                      ·
                        refine V_aload_n 0 d_Tape_isName_35 rfl rfl ?_
                        refine V_getR fa_Tape_9 sk_89 rfl d_Tape_isName_36 ?_
                        refine V_aload_n 0 d_Tape_isName_39 rfl rfl ?_
                        refine N_getK fa_Tape_19 sk_89 rfl d_Tape_isName_40 fK ?_
                        refine V_iload_n 3 d_Tape_isName_43 rfl rfl ?_
                        refine V_iadd fE tc_4 (by omega) d_Tape_isName_44 (fun z47 z47e z47E => ?_)
                        refine N_bald sk_90 z47E (by omega) d_Tape_isName_45 (fun z48 z48Z z48E z48e => ?_)
                        have g49 : z48Z = b (fZ + 4) := TP_rd (TP_fr f0 (fun _ => rfl) hy0) (by omega) z48E z48e
                        refine V_aload_n 1 d_Tape_isName_46 rfl rfl ?_
                        refine V_iload_n 3 d_Tape_isName_47 rfl rfl ?_
                        refine N_callVSI [.int 4] [.int z48] cv_Tape_47 sH rfl d_Tape_isName_48 rfl (Nat.le_of_ble_eq_true rfl) (by decide) (by decide) (c_Str_charAt h 0 sH 4 4 tc_4 (by decide)) (fun z50 h51 z50Z z50E p52 => ?_)
                        obtain ⟨eh51, p52⟩ := p52
                        subst eh51
                        obtain rfl : z50 = 116 := p52.trans rfl
                        refine V_icmp_eq 56 z48E tc_116 d_Tape_isName_51 (by decide) (fun c53 => ?_) (fun c53 => ?_)
                        ·
                          refine V_iinc (v := 5) 3 [some (.ref 89), some (.ref (135 + 0)), some (.int 6), some (.int 5)] d_Tape_isName_56 rfl (by decide) (by decide) rfl rfl ?_
                          refine V_goto 30 d_Tape_isName_59 (by decide) ?_
                          refine V_iload_n 3 d_Tape_isName_30 rfl rfl ?_
                          refine V_iload_n 2 d_Tape_isName_31 rfl rfl ?_
                          refine V_icmp_ge 62 tc_5 tc_6 d_Tape_isName_32 (by decide) (fun c55 => ?_) (fun c55 => ?_)
                          ·
                            exact absurd c55 (by decide)
                          ·
                            refine V_aload_n 0 d_Tape_isName_35 rfl rfl ?_
                            refine V_getR fa_Tape_9 sk_89 rfl d_Tape_isName_36 ?_
                            refine V_aload_n 0 d_Tape_isName_39 rfl rfl ?_
                            refine N_getK fa_Tape_19 sk_89 rfl d_Tape_isName_40 fK ?_
                            refine V_iload_n 3 d_Tape_isName_43 rfl rfl ?_
                            refine V_iadd fE tc_5 (by omega) d_Tape_isName_44 (fun z56 z56e z56E => ?_)
                            refine N_bald sk_90 z56E (by omega) d_Tape_isName_45 (fun z57 z57Z z57E z57e => ?_)
                            have g58 : z57Z = b (fZ + 5) := TP_rd (TP_fr f0 (fun _ => rfl) hy0) (by omega) z57E z57e
                            refine V_aload_n 1 d_Tape_isName_46 rfl rfl ?_
                            refine V_iload_n 3 d_Tape_isName_47 rfl rfl ?_
                            refine N_callVSI [.int 5] [.int z57] cv_Tape_47 sH rfl d_Tape_isName_48 rfl (Nat.le_of_ble_eq_true rfl) (by decide) (by decide) (c_Str_charAt h 0 sH 5 5 tc_5 (by decide)) (fun z59 h60 z59Z z59E p61 => ?_)
                            obtain ⟨eh60, p61⟩ := p61
                            subst eh60
                            obtain rfl : z59 = 121 := p61.trans rfl
                            refine V_icmp_eq 56 z57E tc_121 d_Tape_isName_51 (by decide) (fun c62 => ?_) (fun c62 => ?_)
                            ·
                              refine V_iinc (v := 6) 3 [some (.ref 89), some (.ref (135 + 0)), some (.int 6), some (.int 6)] d_Tape_isName_56 rfl (by decide) (by decide) rfl rfl ?_
                              refine V_goto 30 d_Tape_isName_59 (by decide) ?_
                              refine V_iload_n 3 d_Tape_isName_30 rfl rfl ?_
                              refine V_iload_n 2 d_Tape_isName_31 rfl rfl ?_
                              refine V_icmp_ge 62 tc_6 tc_6 d_Tape_isName_32 (by decide) (fun c64 => ?_) (fun c64 => ?_)
                              ·
                                refine V_iconst 1 d_Tape_isName_62 (by decide) ?_
                                exact V_zret rfl (by decide) d_Tape_isName_63 ⟨1, rfl, ⟨rfl, (Or.inr ⟨by omega, tc_1.trans (x_nmy0 (b := b) (f := fZ) (e := uZ) (by omega)).symm⟩)⟩⟩
                              ·
                                exact absurd c64 (by decide)
                            ·
                              refine V_iconst 0 d_Tape_isName_54 (by decide) ?_
                              exact V_zret rfl (by decide) d_Tape_isName_55 ⟨0, rfl, ⟨rfl, (Or.inr ⟨by omega, tc_0.trans (x_nmn0 (b := b) (f := fZ) (e := uZ) (by omega)).symm⟩)⟩⟩
                        ·
                          refine V_iconst 0 d_Tape_isName_54 (by decide) ?_
                          exact V_zret rfl (by decide) d_Tape_isName_55 ⟨0, rfl, ⟨rfl, (Or.inr ⟨by omega, tc_0.trans (x_nmn0 (b := b) (f := fZ) (e := uZ) (by omega)).symm⟩)⟩⟩
                    ·
                      refine V_iconst 0 d_Tape_isName_54 (by decide) ?_
                      exact V_zret rfl (by decide) d_Tape_isName_55 ⟨0, rfl, ⟨rfl, (Or.inr ⟨by omega, tc_0.trans (x_nmn0 (b := b) (f := fZ) (e := uZ) (by omega)).symm⟩)⟩⟩
                ·
                  refine V_iconst 0 d_Tape_isName_54 (by decide) ?_
                  exact V_zret rfl (by decide) d_Tape_isName_55 ⟨0, rfl, ⟨rfl, (Or.inr ⟨by omega, tc_0.trans (x_nmn0 (b := b) (f := fZ) (e := uZ) (by omega)).symm⟩)⟩⟩
            ·
              refine V_iconst 0 d_Tape_isName_54 (by decide) ?_
              exact V_zret rfl (by decide) d_Tape_isName_55 ⟨0, rfl, ⟨rfl, (Or.inr ⟨by omega, tc_0.trans (x_nmn0 (b := b) (f := fZ) (e := uZ) (by omega)).symm⟩)⟩⟩
        ·
          refine V_iconst 0 d_Tape_isName_54 (by decide) ?_
          exact V_zret rfl (by decide) d_Tape_isName_55 ⟨0, rfl, ⟨rfl, (Or.inr ⟨by omega, tc_0.trans (x_nmn0 (b := b) (f := fZ) (e := uZ) (by omega)).symm⟩)⟩⟩
    ·
      refine V_iconst 0 d_Tape_isName_26 (by decide) ?_
      exact V_zret rfl (by decide) d_Tape_isName_27 ⟨0, rfl, ⟨rfl, (if q : qZ = 1 then Or.inr ⟨q, tc_0.trans (x_nmn0 (b := b) (f := fZ) (e := uZ) (by omega)).symm⟩ else Or.inl ⟨q, rfl⟩)⟩⟩
abbrev q_Tape_isNameX_1 (h : Hp) (b : Int → Int) (s : Int32) (sZ : Int) (q : Int32) (qZ : Int) (f : Int32) (fZ : Int) (u : Int32) (uZ : Int) : Option Value → Hp → Prop := pInt (fun r h' => h = h' ∧ (qZ ≠ 1 ∧ r.toInt = 0 ∨ qZ = 1 ∧ r.toInt = x_nm1 b fZ uZ))
set_option maxRecDepth 100000 in
theorem c_Tape_isNameX_1 (h : Hp) (b : Int → Int) (hI : Inv h) (s : Int32) (sZ : Int) (sE : s.toInt = sZ) (sK : h.1 89 1 = s) (q : Int32) (qZ : Int) (qE : q.toInt = qZ) (qK : h.1 89 2 = q) (f : Int32) (fZ : Int) (fE : f.toInt = fZ) (fK : h.1 89 3 = f) (u : Int32) (uZ : Int) (uE : u.toInt = uZ) (uK : h.1 89 4 = u) (hy0 : TP h 90 sZ b) (hy1 : 0 ≤ fZ ∧ fZ ≤ uZ ∧ uZ ≤ sZ ∧ sZ ≤ 160) : Ct y_Tape_isName b_Tape_isName 4 (some .boolean) 4 85 [.ref 89, .ref (135 + 1)] h (q_Tape_isNameX_1 h b s sZ q qZ f fZ u uZ) := by
  refine ct_ow R_Tape [some (.ref 89), some (.ref (135 + 1)), none, none] rfl (by decide) rfl (Nat.le_of_ble_eq_true rfl) ?_
  have f0 : fr [] h h := fr_rf
  have g1 : 0 ≤ sZ ∧ sZ ≤ 160 := inv_at hI sE sK.symm rfl
  have g2 : 0 ≤ fZ ∧ fZ ≤ 160 := inv_at hI fE fK.symm rfl
  have g3 : 0 ≤ uZ ∧ uZ ≤ 160 := inv_at hI uE uK.symm rfl
  have sH : 1 < 14 := by decide
  refine V_aload_n 1 d_Tape_isName_0 rfl rfl ?_
  refine N_callVSI [] [] cv_Tape_41 sH rfl d_Tape_isName_1 rfl (Nat.le_of_ble_eq_true rfl) (by decide) (by decide) (c_Str_length h 1 sH) (fun z4 h5 z4Z z4E p6 => ?_)
  obtain ⟨eh5, p6⟩ := p6
  subst eh5
  rw [z4E] at p6
  obtain rfl : z4 = 3 := (ti_eq z4E (show (3 : Int32).toInt = 3 from rfl)).mpr (p6.trans rfl)
  refine V_istore_n 2 [some (.ref 89), some (.ref (135 + 1)), some (.int 3), none] d_Tape_isName_4 rfl (by decide) rfl rfl ?_
  refine V_aload_n 0 d_Tape_isName_5 rfl rfl ?_
  refine N_getK fa_Tape_25 sk_89 rfl d_Tape_isName_6 qK ?_
  refine V_iconst 1 d_Tape_isName_9 (by decide) ?_
  refine V_icmp_ne 26 qE tc_1 d_Tape_isName_10 (by decide) (fun c7 => ?_) (fun c7 => ?_)
  ·
    refine V_iconst 0 d_Tape_isName_26 (by decide) ?_
    exact V_zret rfl (by decide) d_Tape_isName_27 ⟨0, rfl, ⟨rfl, (if q : qZ = 1 then Or.inr ⟨q, tc_0.trans (x_nmn1 (b := b) (f := fZ) (e := uZ) (by omega)).symm⟩ else Or.inl ⟨q, rfl⟩)⟩⟩
  ·
    refine V_aload_n 0 d_Tape_isName_13 rfl rfl ?_
    refine N_getK fa_Tape_15 sk_89 rfl d_Tape_isName_14 uK ?_
    refine V_aload_n 0 d_Tape_isName_17 rfl rfl ?_
    refine N_getK fa_Tape_19 sk_89 rfl d_Tape_isName_18 fK ?_
    refine V_isub uE fE (by omega) d_Tape_isName_21 (fun z8 z8e z8E => ?_)
    refine V_iload_n 2 d_Tape_isName_22 rfl rfl ?_
    refine V_icmp_eq 28 z8E tc_3 d_Tape_isName_23 (by decide) (fun c9 => ?_) (fun c9 => ?_)
    ·
      refine V_iconst 0 d_Tape_isName_28 (by decide) ?_
      refine V_istore_n 3 [some (.ref 89), some (.ref (135 + 1)), some (.int 3), some (.int 0)] d_Tape_isName_29 rfl (by decide) rfl rfl ?_
      refine V_iload_n 3 d_Tape_isName_30 rfl rfl ?_
      refine V_iload_n 2 d_Tape_isName_31 rfl rfl ?_
      refine V_icmp_ge 62 tc_0 tc_3 d_Tape_isName_32 (by decide) (fun c10 => ?_) (fun c10 => ?_)
      ·
        exact absurd c10 (by decide)
      ·
        refine V_aload_n 0 d_Tape_isName_35 rfl rfl ?_
        refine V_getR fa_Tape_9 sk_89 rfl d_Tape_isName_36 ?_
        refine V_aload_n 0 d_Tape_isName_39 rfl rfl ?_
        refine N_getK fa_Tape_19 sk_89 rfl d_Tape_isName_40 fK ?_
        refine V_iload_n 3 d_Tape_isName_43 rfl rfl ?_
        refine V_iadd fE tc_0 (by omega) d_Tape_isName_44 (fun z11 z11e z11E => ?_)
        refine N_bald sk_90 z11E (by omega) d_Tape_isName_45 (fun z12 z12Z z12E z12e => ?_)
        have g13 : z12Z = b (fZ + 0) := TP_rd (TP_fr f0 (fun _ => rfl) hy0) (by omega) z12E z12e
        refine V_aload_n 1 d_Tape_isName_46 rfl rfl ?_
        refine V_iload_n 3 d_Tape_isName_47 rfl rfl ?_
        refine N_callVSI [.int 0] [.int z12] cv_Tape_47 sH rfl d_Tape_isName_48 rfl (Nat.le_of_ble_eq_true rfl) (by decide) (by decide) (c_Str_charAt h 1 sH 0 0 tc_0 (by decide)) (fun z14 h15 z14Z z14E p16 => ?_)
        obtain ⟨eh15, p16⟩ := p16
        subst eh15
        obtain rfl : z14 = 119 := p16.trans rfl
        refine V_icmp_eq 56 z12E tc_119 d_Tape_isName_51 (by decide) (fun c17 => ?_) (fun c17 => ?_)
        ·
          refine V_iinc (v := 1) 3 [some (.ref 89), some (.ref (135 + 1)), some (.int 3), some (.int 1)] d_Tape_isName_56 rfl (by decide) (by decide) rfl rfl ?_
          refine V_goto 30 d_Tape_isName_59 (by decide) ?_
          refine V_iload_n 3 d_Tape_isName_30 rfl rfl ?_
          refine V_iload_n 2 d_Tape_isName_31 rfl rfl ?_
          refine V_icmp_ge 62 tc_1 tc_3 d_Tape_isName_32 (by decide) (fun c19 => ?_) (fun c19 => ?_)
          ·
            exact absurd c19 (by decide)
          ·
            refine V_aload_n 0 d_Tape_isName_35 rfl rfl ?_
            refine V_getR fa_Tape_9 sk_89 rfl d_Tape_isName_36 ?_
            refine V_aload_n 0 d_Tape_isName_39 rfl rfl ?_
            refine N_getK fa_Tape_19 sk_89 rfl d_Tape_isName_40 fK ?_
            refine V_iload_n 3 d_Tape_isName_43 rfl rfl ?_
            refine V_iadd fE tc_1 (by omega) d_Tape_isName_44 (fun z20 z20e z20E => ?_)
            refine N_bald sk_90 z20E (by omega) d_Tape_isName_45 (fun z21 z21Z z21E z21e => ?_)
            have g22 : z21Z = b (fZ + 1) := TP_rd (TP_fr f0 (fun _ => rfl) hy0) (by omega) z21E z21e
            refine V_aload_n 1 d_Tape_isName_46 rfl rfl ?_
            refine V_iload_n 3 d_Tape_isName_47 rfl rfl ?_
            refine N_callVSI [.int 1] [.int z21] cv_Tape_47 sH rfl d_Tape_isName_48 rfl (Nat.le_of_ble_eq_true rfl) (by decide) (by decide) (c_Str_charAt h 1 sH 1 1 tc_1 (by decide)) (fun z23 h24 z23Z z23E p25 => ?_)
            obtain ⟨eh24, p25⟩ := p25
            subst eh24
            obtain rfl : z23 = 101 := p25.trans rfl
            refine V_icmp_eq 56 z21E tc_101 d_Tape_isName_51 (by decide) (fun c26 => ?_) (fun c26 => ?_)
            ·
              refine V_iinc (v := 2) 3 [some (.ref 89), some (.ref (135 + 1)), some (.int 3), some (.int 2)] d_Tape_isName_56 rfl (by decide) (by decide) rfl rfl ?_
              refine V_goto 30 d_Tape_isName_59 (by decide) ?_
              refine V_iload_n 3 d_Tape_isName_30 rfl rfl ?_
              refine V_iload_n 2 d_Tape_isName_31 rfl rfl ?_
              refine V_icmp_ge 62 tc_2 tc_3 d_Tape_isName_32 (by decide) (fun c28 => ?_) (fun c28 => ?_)
              ·
                exact absurd c28 (by decide)
              ·
                refine V_aload_n 0 d_Tape_isName_35 rfl rfl ?_
                refine V_getR fa_Tape_9 sk_89 rfl d_Tape_isName_36 ?_
                refine V_aload_n 0 d_Tape_isName_39 rfl rfl ?_
                refine N_getK fa_Tape_19 sk_89 rfl d_Tape_isName_40 fK ?_
                refine V_iload_n 3 d_Tape_isName_43 rfl rfl ?_
                refine V_iadd fE tc_2 (by omega) d_Tape_isName_44 (fun z29 z29e z29E => ?_)
                refine N_bald sk_90 z29E (by omega) d_Tape_isName_45 (fun z30 z30Z z30E z30e => ?_)
                have g31 : z30Z = b (fZ + 2) := TP_rd (TP_fr f0 (fun _ => rfl) hy0) (by omega) z30E z30e
                refine V_aload_n 1 d_Tape_isName_46 rfl rfl ?_
                refine V_iload_n 3 d_Tape_isName_47 rfl rfl ?_
                refine N_callVSI [.int 2] [.int z30] cv_Tape_47 sH rfl d_Tape_isName_48 rfl (Nat.le_of_ble_eq_true rfl) (by decide) (by decide) (c_Str_charAt h 1 sH 2 2 tc_2 (by decide)) (fun z32 h33 z32Z z32E p34 => ?_)
                obtain ⟨eh33, p34⟩ := p34
                subst eh33
                obtain rfl : z32 = 116 := p34.trans rfl
                refine V_icmp_eq 56 z30E tc_116 d_Tape_isName_51 (by decide) (fun c35 => ?_) (fun c35 => ?_)
                ·
                  refine V_iinc (v := 3) 3 [some (.ref 89), some (.ref (135 + 1)), some (.int 3), some (.int 3)] d_Tape_isName_56 rfl (by decide) (by decide) rfl rfl ?_
                  refine V_goto 30 d_Tape_isName_59 (by decide) ?_
                  refine V_iload_n 3 d_Tape_isName_30 rfl rfl ?_
                  refine V_iload_n 2 d_Tape_isName_31 rfl rfl ?_
                  refine V_icmp_ge 62 tc_3 tc_3 d_Tape_isName_32 (by decide) (fun c37 => ?_) (fun c37 => ?_)
                  ·
                    refine V_iconst 1 d_Tape_isName_62 (by decide) ?_
                    exact V_zret rfl (by decide) d_Tape_isName_63 ⟨1, rfl, ⟨rfl, (Or.inr ⟨by omega, tc_1.trans (x_nmy1 (b := b) (f := fZ) (e := uZ) (by omega)).symm⟩)⟩⟩
                  ·
                    exact absurd c37 (by decide)
                ·
                  refine V_iconst 0 d_Tape_isName_54 (by decide) ?_
                  exact V_zret rfl (by decide) d_Tape_isName_55 ⟨0, rfl, ⟨rfl, (Or.inr ⟨by omega, tc_0.trans (x_nmn1 (b := b) (f := fZ) (e := uZ) (by omega)).symm⟩)⟩⟩
            ·
              refine V_iconst 0 d_Tape_isName_54 (by decide) ?_
              exact V_zret rfl (by decide) d_Tape_isName_55 ⟨0, rfl, ⟨rfl, (Or.inr ⟨by omega, tc_0.trans (x_nmn1 (b := b) (f := fZ) (e := uZ) (by omega)).symm⟩)⟩⟩
        ·
          refine V_iconst 0 d_Tape_isName_54 (by decide) ?_
          exact V_zret rfl (by decide) d_Tape_isName_55 ⟨0, rfl, ⟨rfl, (Or.inr ⟨by omega, tc_0.trans (x_nmn1 (b := b) (f := fZ) (e := uZ) (by omega)).symm⟩)⟩⟩
    ·
      refine V_iconst 0 d_Tape_isName_26 (by decide) ?_
      exact V_zret rfl (by decide) d_Tape_isName_27 ⟨0, rfl, ⟨rfl, (if q : qZ = 1 then Or.inr ⟨q, tc_0.trans (x_nmn1 (b := b) (f := fZ) (e := uZ) (by omega)).symm⟩ else Or.inl ⟨q, rfl⟩)⟩⟩
abbrev q_Tape_isNameX_2 (h : Hp) (b : Int → Int) (s : Int32) (sZ : Int) (q : Int32) (qZ : Int) (f : Int32) (fZ : Int) (u : Int32) (uZ : Int) : Option Value → Hp → Prop := pInt (fun r h' => h = h' ∧ (qZ ≠ 1 ∧ r.toInt = 0 ∨ qZ = 1 ∧ r.toInt = x_nm2 b fZ uZ))
set_option maxRecDepth 100000 in
theorem c_Tape_isNameX_2 (h : Hp) (b : Int → Int) (hI : Inv h) (s : Int32) (sZ : Int) (sE : s.toInt = sZ) (sK : h.1 89 1 = s) (q : Int32) (qZ : Int) (qE : q.toInt = qZ) (qK : h.1 89 2 = q) (f : Int32) (fZ : Int) (fE : f.toInt = fZ) (fK : h.1 89 3 = f) (u : Int32) (uZ : Int) (uE : u.toInt = uZ) (uK : h.1 89 4 = u) (hy0 : TP h 90 sZ b) (hy1 : 0 ≤ fZ ∧ fZ ≤ uZ ∧ uZ ≤ sZ ∧ sZ ≤ 160) : Ct y_Tape_isName b_Tape_isName 4 (some .boolean) 4 85 [.ref 89, .ref (135 + 2)] h (q_Tape_isNameX_2 h b s sZ q qZ f fZ u uZ) := by
  refine ct_ow R_Tape [some (.ref 89), some (.ref (135 + 2)), none, none] rfl (by decide) rfl (Nat.le_of_ble_eq_true rfl) ?_
  have f0 : fr [] h h := fr_rf
  have g1 : 0 ≤ sZ ∧ sZ ≤ 160 := inv_at hI sE sK.symm rfl
  have g2 : 0 ≤ fZ ∧ fZ ≤ 160 := inv_at hI fE fK.symm rfl
  have g3 : 0 ≤ uZ ∧ uZ ≤ 160 := inv_at hI uE uK.symm rfl
  have sH : 2 < 14 := by decide
  refine V_aload_n 1 d_Tape_isName_0 rfl rfl ?_
  refine N_callVSI [] [] cv_Tape_41 sH rfl d_Tape_isName_1 rfl (Nat.le_of_ble_eq_true rfl) (by decide) (by decide) (c_Str_length h 2 sH) (fun z4 h5 z4Z z4E p6 => ?_)
  obtain ⟨eh5, p6⟩ := p6
  subst eh5
  rw [z4E] at p6
  obtain rfl : z4 = 4 := (ti_eq z4E (show (4 : Int32).toInt = 4 from rfl)).mpr (p6.trans rfl)
  refine V_istore_n 2 [some (.ref 89), some (.ref (135 + 2)), some (.int 4), none] d_Tape_isName_4 rfl (by decide) rfl rfl ?_
  refine V_aload_n 0 d_Tape_isName_5 rfl rfl ?_
  refine N_getK fa_Tape_25 sk_89 rfl d_Tape_isName_6 qK ?_
  refine V_iconst 1 d_Tape_isName_9 (by decide) ?_
  refine V_icmp_ne 26 qE tc_1 d_Tape_isName_10 (by decide) (fun c7 => ?_) (fun c7 => ?_)
  ·
    refine V_iconst 0 d_Tape_isName_26 (by decide) ?_
    exact V_zret rfl (by decide) d_Tape_isName_27 ⟨0, rfl, ⟨rfl, (if q : qZ = 1 then Or.inr ⟨q, tc_0.trans (x_nmn2 (b := b) (f := fZ) (e := uZ) (by omega)).symm⟩ else Or.inl ⟨q, rfl⟩)⟩⟩
  ·
    refine V_aload_n 0 d_Tape_isName_13 rfl rfl ?_
    refine N_getK fa_Tape_15 sk_89 rfl d_Tape_isName_14 uK ?_
    refine V_aload_n 0 d_Tape_isName_17 rfl rfl ?_
    refine N_getK fa_Tape_19 sk_89 rfl d_Tape_isName_18 fK ?_
    refine V_isub uE fE (by omega) d_Tape_isName_21 (fun z8 z8e z8E => ?_)
    refine V_iload_n 2 d_Tape_isName_22 rfl rfl ?_
    refine V_icmp_eq 28 z8E tc_4 d_Tape_isName_23 (by decide) (fun c9 => ?_) (fun c9 => ?_)
    ·
      refine V_iconst 0 d_Tape_isName_28 (by decide) ?_
      refine V_istore_n 3 [some (.ref 89), some (.ref (135 + 2)), some (.int 4), some (.int 0)] d_Tape_isName_29 rfl (by decide) rfl rfl ?_
      refine V_iload_n 3 d_Tape_isName_30 rfl rfl ?_
      refine V_iload_n 2 d_Tape_isName_31 rfl rfl ?_
      refine V_icmp_ge 62 tc_0 tc_4 d_Tape_isName_32 (by decide) (fun c10 => ?_) (fun c10 => ?_)
      ·
        exact absurd c10 (by decide)
      ·
        refine V_aload_n 0 d_Tape_isName_35 rfl rfl ?_
        refine V_getR fa_Tape_9 sk_89 rfl d_Tape_isName_36 ?_
        refine V_aload_n 0 d_Tape_isName_39 rfl rfl ?_
        refine N_getK fa_Tape_19 sk_89 rfl d_Tape_isName_40 fK ?_
        refine V_iload_n 3 d_Tape_isName_43 rfl rfl ?_
        refine V_iadd fE tc_0 (by omega) d_Tape_isName_44 (fun z11 z11e z11E => ?_)
        refine N_bald sk_90 z11E (by omega) d_Tape_isName_45 (fun z12 z12Z z12E z12e => ?_)
        have g13 : z12Z = b (fZ + 0) := TP_rd (TP_fr f0 (fun _ => rfl) hy0) (by omega) z12E z12e
        refine V_aload_n 1 d_Tape_isName_46 rfl rfl ?_
        refine V_iload_n 3 d_Tape_isName_47 rfl rfl ?_
        refine N_callVSI [.int 0] [.int z12] cv_Tape_47 sH rfl d_Tape_isName_48 rfl (Nat.le_of_ble_eq_true rfl) (by decide) (by decide) (c_Str_charAt h 2 sH 0 0 tc_0 (by decide)) (fun z14 h15 z14Z z14E p16 => ?_)
        obtain ⟨eh15, p16⟩ := p16
        subst eh15
        obtain rfl : z14 = 105 := p16.trans rfl
        refine V_icmp_eq 56 z12E tc_105 d_Tape_isName_51 (by decide) (fun c17 => ?_) (fun c17 => ?_)
        ·
          refine V_iinc (v := 1) 3 [some (.ref 89), some (.ref (135 + 2)), some (.int 4), some (.int 1)] d_Tape_isName_56 rfl (by decide) (by decide) rfl rfl ?_
          refine V_goto 30 d_Tape_isName_59 (by decide) ?_
          refine V_iload_n 3 d_Tape_isName_30 rfl rfl ?_
          refine V_iload_n 2 d_Tape_isName_31 rfl rfl ?_
          refine V_icmp_ge 62 tc_1 tc_4 d_Tape_isName_32 (by decide) (fun c19 => ?_) (fun c19 => ?_)
          ·
            exact absurd c19 (by decide)
          ·
            refine V_aload_n 0 d_Tape_isName_35 rfl rfl ?_
            refine V_getR fa_Tape_9 sk_89 rfl d_Tape_isName_36 ?_
            refine V_aload_n 0 d_Tape_isName_39 rfl rfl ?_
            refine N_getK fa_Tape_19 sk_89 rfl d_Tape_isName_40 fK ?_
            refine V_iload_n 3 d_Tape_isName_43 rfl rfl ?_
            refine V_iadd fE tc_1 (by omega) d_Tape_isName_44 (fun z20 z20e z20E => ?_)
            refine N_bald sk_90 z20E (by omega) d_Tape_isName_45 (fun z21 z21Z z21E z21e => ?_)
            have g22 : z21Z = b (fZ + 1) := TP_rd (TP_fr f0 (fun _ => rfl) hy0) (by omega) z21E z21e
            refine V_aload_n 1 d_Tape_isName_46 rfl rfl ?_
            refine V_iload_n 3 d_Tape_isName_47 rfl rfl ?_
            refine N_callVSI [.int 1] [.int z21] cv_Tape_47 sH rfl d_Tape_isName_48 rfl (Nat.le_of_ble_eq_true rfl) (by decide) (by decide) (c_Str_charAt h 2 sH 1 1 tc_1 (by decide)) (fun z23 h24 z23Z z23E p25 => ?_)
            obtain ⟨eh24, p25⟩ := p25
            subst eh24
            obtain rfl : z23 = 114 := p25.trans rfl
            refine V_icmp_eq 56 z21E tc_114 d_Tape_isName_51 (by decide) (fun c26 => ?_) (fun c26 => ?_)
            ·
              refine V_iinc (v := 2) 3 [some (.ref 89), some (.ref (135 + 2)), some (.int 4), some (.int 2)] d_Tape_isName_56 rfl (by decide) (by decide) rfl rfl ?_
              refine V_goto 30 d_Tape_isName_59 (by decide) ?_
              refine V_iload_n 3 d_Tape_isName_30 rfl rfl ?_
              refine V_iload_n 2 d_Tape_isName_31 rfl rfl ?_
              refine V_icmp_ge 62 tc_2 tc_4 d_Tape_isName_32 (by decide) (fun c28 => ?_) (fun c28 => ?_)
              ·
                exact absurd c28 (by decide)
              ·
                refine V_aload_n 0 d_Tape_isName_35 rfl rfl ?_
                refine V_getR fa_Tape_9 sk_89 rfl d_Tape_isName_36 ?_
                refine V_aload_n 0 d_Tape_isName_39 rfl rfl ?_
                refine N_getK fa_Tape_19 sk_89 rfl d_Tape_isName_40 fK ?_
                refine V_iload_n 3 d_Tape_isName_43 rfl rfl ?_
                refine V_iadd fE tc_2 (by omega) d_Tape_isName_44 (fun z29 z29e z29E => ?_)
                refine N_bald sk_90 z29E (by omega) d_Tape_isName_45 (fun z30 z30Z z30E z30e => ?_)
                have g31 : z30Z = b (fZ + 2) := TP_rd (TP_fr f0 (fun _ => rfl) hy0) (by omega) z30E z30e
                refine V_aload_n 1 d_Tape_isName_46 rfl rfl ?_
                refine V_iload_n 3 d_Tape_isName_47 rfl rfl ?_
                refine N_callVSI [.int 2] [.int z30] cv_Tape_47 sH rfl d_Tape_isName_48 rfl (Nat.le_of_ble_eq_true rfl) (by decide) (by decide) (c_Str_charAt h 2 sH 2 2 tc_2 (by decide)) (fun z32 h33 z32Z z32E p34 => ?_)
                obtain ⟨eh33, p34⟩ := p34
                subst eh33
                obtain rfl : z32 = 111 := p34.trans rfl
                refine V_icmp_eq 56 z30E tc_111 d_Tape_isName_51 (by decide) (fun c35 => ?_) (fun c35 => ?_)
                ·
                  refine V_iinc (v := 3) 3 [some (.ref 89), some (.ref (135 + 2)), some (.int 4), some (.int 3)] d_Tape_isName_56 rfl (by decide) (by decide) rfl rfl ?_
                  refine V_goto 30 d_Tape_isName_59 (by decide) ?_
                  refine V_iload_n 3 d_Tape_isName_30 rfl rfl ?_
                  refine V_iload_n 2 d_Tape_isName_31 rfl rfl ?_
                  refine V_icmp_ge 62 tc_3 tc_4 d_Tape_isName_32 (by decide) (fun c37 => ?_) (fun c37 => ?_)
                  ·
                    exact absurd c37 (by decide)
                  ·
                    refine V_aload_n 0 d_Tape_isName_35 rfl rfl ?_
                    refine V_getR fa_Tape_9 sk_89 rfl d_Tape_isName_36 ?_
                    refine V_aload_n 0 d_Tape_isName_39 rfl rfl ?_
                    refine N_getK fa_Tape_19 sk_89 rfl d_Tape_isName_40 fK ?_
                    refine V_iload_n 3 d_Tape_isName_43 rfl rfl ?_
                    refine V_iadd fE tc_3 (by omega) d_Tape_isName_44 (fun z38 z38e z38E => ?_)
                    refine N_bald sk_90 z38E (by omega) d_Tape_isName_45 (fun z39 z39Z z39E z39e => ?_)
                    have g40 : z39Z = b (fZ + 3) := TP_rd (TP_fr f0 (fun _ => rfl) hy0) (by omega) z39E z39e
                    refine V_aload_n 1 d_Tape_isName_46 rfl rfl ?_
                    refine V_iload_n 3 d_Tape_isName_47 rfl rfl ?_
                    refine N_callVSI [.int 3] [.int z39] cv_Tape_47 sH rfl d_Tape_isName_48 rfl (Nat.le_of_ble_eq_true rfl) (by decide) (by decide) (c_Str_charAt h 2 sH 3 3 tc_3 (by decide)) (fun z41 h42 z41Z z41E p43 => ?_)
                    obtain ⟨eh42, p43⟩ := p43
                    subst eh42
                    obtain rfl : z41 = 110 := p43.trans rfl
                    refine V_icmp_eq 56 z39E tc_110 d_Tape_isName_51 (by decide) (fun c44 => ?_) (fun c44 => ?_)
                    ·
                      refine V_iinc (v := 4) 3 [some (.ref 89), some (.ref (135 + 2)), some (.int 4), some (.int 4)] d_Tape_isName_56 rfl (by decide) (by decide) rfl rfl ?_
                      refine V_goto 30 d_Tape_isName_59 (by decide) ?_
                      refine V_iload_n 3 d_Tape_isName_30 rfl rfl ?_
                      refine V_iload_n 2 d_Tape_isName_31 rfl rfl ?_
                      refine V_icmp_ge 62 tc_4 tc_4 d_Tape_isName_32 (by decide) (fun c46 => ?_) (fun c46 => ?_)
                      ·
                        refine V_iconst 1 d_Tape_isName_62 (by decide) ?_
                        exact V_zret rfl (by decide) d_Tape_isName_63 ⟨1, rfl, ⟨rfl, (Or.inr ⟨by omega, tc_1.trans (x_nmy2 (b := b) (f := fZ) (e := uZ) (by omega)).symm⟩)⟩⟩
                      ·
                        exact absurd c46 (by decide)
                    ·
                      refine V_iconst 0 d_Tape_isName_54 (by decide) ?_
                      exact V_zret rfl (by decide) d_Tape_isName_55 ⟨0, rfl, ⟨rfl, (Or.inr ⟨by omega, tc_0.trans (x_nmn2 (b := b) (f := fZ) (e := uZ) (by omega)).symm⟩)⟩⟩
                ·
                  refine V_iconst 0 d_Tape_isName_54 (by decide) ?_
                  exact V_zret rfl (by decide) d_Tape_isName_55 ⟨0, rfl, ⟨rfl, (Or.inr ⟨by omega, tc_0.trans (x_nmn2 (b := b) (f := fZ) (e := uZ) (by omega)).symm⟩)⟩⟩
            ·
              refine V_iconst 0 d_Tape_isName_54 (by decide) ?_
              exact V_zret rfl (by decide) d_Tape_isName_55 ⟨0, rfl, ⟨rfl, (Or.inr ⟨by omega, tc_0.trans (x_nmn2 (b := b) (f := fZ) (e := uZ) (by omega)).symm⟩)⟩⟩
        ·
          refine V_iconst 0 d_Tape_isName_54 (by decide) ?_
          exact V_zret rfl (by decide) d_Tape_isName_55 ⟨0, rfl, ⟨rfl, (Or.inr ⟨by omega, tc_0.trans (x_nmn2 (b := b) (f := fZ) (e := uZ) (by omega)).symm⟩)⟩⟩
    ·
      refine V_iconst 0 d_Tape_isName_26 (by decide) ?_
      exact V_zret rfl (by decide) d_Tape_isName_27 ⟨0, rfl, ⟨rfl, (if q : qZ = 1 then Or.inr ⟨q, tc_0.trans (x_nmn2 (b := b) (f := fZ) (e := uZ) (by omega)).symm⟩ else Or.inl ⟨q, rfl⟩)⟩⟩
abbrev q_Tape_isNameX_3 (h : Hp) (b : Int → Int) (s : Int32) (sZ : Int) (q : Int32) (qZ : Int) (f : Int32) (fZ : Int) (u : Int32) (uZ : Int) : Option Value → Hp → Prop := pInt (fun r h' => h = h' ∧ (qZ ≠ 1 ∧ r.toInt = 0 ∨ qZ = 1 ∧ r.toInt = x_nm3 b fZ uZ))
set_option maxRecDepth 100000 in
theorem c_Tape_isNameX_3 (h : Hp) (b : Int → Int) (hI : Inv h) (s : Int32) (sZ : Int) (sE : s.toInt = sZ) (sK : h.1 89 1 = s) (q : Int32) (qZ : Int) (qE : q.toInt = qZ) (qK : h.1 89 2 = q) (f : Int32) (fZ : Int) (fE : f.toInt = fZ) (fK : h.1 89 3 = f) (u : Int32) (uZ : Int) (uE : u.toInt = uZ) (uK : h.1 89 4 = u) (hy0 : TP h 90 sZ b) (hy1 : 0 ≤ fZ ∧ fZ ≤ uZ ∧ uZ ≤ sZ ∧ sZ ≤ 160) : Ct y_Tape_isName b_Tape_isName 4 (some .boolean) 4 85 [.ref 89, .ref (135 + 3)] h (q_Tape_isNameX_3 h b s sZ q qZ f fZ u uZ) := by
  refine ct_ow R_Tape [some (.ref 89), some (.ref (135 + 3)), none, none] rfl (by decide) rfl (Nat.le_of_ble_eq_true rfl) ?_
  have f0 : fr [] h h := fr_rf
  have g1 : 0 ≤ sZ ∧ sZ ≤ 160 := inv_at hI sE sK.symm rfl
  have g2 : 0 ≤ fZ ∧ fZ ≤ 160 := inv_at hI fE fK.symm rfl
  have g3 : 0 ≤ uZ ∧ uZ ≤ 160 := inv_at hI uE uK.symm rfl
  have sH : 3 < 14 := by decide
  refine V_aload_n 1 d_Tape_isName_0 rfl rfl ?_
  refine N_callVSI [] [] cv_Tape_41 sH rfl d_Tape_isName_1 rfl (Nat.le_of_ble_eq_true rfl) (by decide) (by decide) (c_Str_length h 3 sH) (fun z4 h5 z4Z z4E p6 => ?_)
  obtain ⟨eh5, p6⟩ := p6
  subst eh5
  rw [z4E] at p6
  obtain rfl : z4 = 4 := (ti_eq z4E (show (4 : Int32).toInt = 4 from rfl)).mpr (p6.trans rfl)
  refine V_istore_n 2 [some (.ref 89), some (.ref (135 + 3)), some (.int 4), none] d_Tape_isName_4 rfl (by decide) rfl rfl ?_
  refine V_aload_n 0 d_Tape_isName_5 rfl rfl ?_
  refine N_getK fa_Tape_25 sk_89 rfl d_Tape_isName_6 qK ?_
  refine V_iconst 1 d_Tape_isName_9 (by decide) ?_
  refine V_icmp_ne 26 qE tc_1 d_Tape_isName_10 (by decide) (fun c7 => ?_) (fun c7 => ?_)
  ·
    refine V_iconst 0 d_Tape_isName_26 (by decide) ?_
    exact V_zret rfl (by decide) d_Tape_isName_27 ⟨0, rfl, ⟨rfl, (if q : qZ = 1 then Or.inr ⟨q, tc_0.trans (x_nmn3 (b := b) (f := fZ) (e := uZ) (by omega)).symm⟩ else Or.inl ⟨q, rfl⟩)⟩⟩
  ·
    refine V_aload_n 0 d_Tape_isName_13 rfl rfl ?_
    refine N_getK fa_Tape_15 sk_89 rfl d_Tape_isName_14 uK ?_
    refine V_aload_n 0 d_Tape_isName_17 rfl rfl ?_
    refine N_getK fa_Tape_19 sk_89 rfl d_Tape_isName_18 fK ?_
    refine V_isub uE fE (by omega) d_Tape_isName_21 (fun z8 z8e z8E => ?_)
    refine V_iload_n 2 d_Tape_isName_22 rfl rfl ?_
    refine V_icmp_eq 28 z8E tc_4 d_Tape_isName_23 (by decide) (fun c9 => ?_) (fun c9 => ?_)
    ·
      refine V_iconst 0 d_Tape_isName_28 (by decide) ?_
      refine V_istore_n 3 [some (.ref 89), some (.ref (135 + 3)), some (.int 4), some (.int 0)] d_Tape_isName_29 rfl (by decide) rfl rfl ?_
      refine V_iload_n 3 d_Tape_isName_30 rfl rfl ?_
      refine V_iload_n 2 d_Tape_isName_31 rfl rfl ?_
      refine V_icmp_ge 62 tc_0 tc_4 d_Tape_isName_32 (by decide) (fun c10 => ?_) (fun c10 => ?_)
      ·
        exact absurd c10 (by decide)
      ·
        refine V_aload_n 0 d_Tape_isName_35 rfl rfl ?_
        refine V_getR fa_Tape_9 sk_89 rfl d_Tape_isName_36 ?_
        refine V_aload_n 0 d_Tape_isName_39 rfl rfl ?_
        refine N_getK fa_Tape_19 sk_89 rfl d_Tape_isName_40 fK ?_
        refine V_iload_n 3 d_Tape_isName_43 rfl rfl ?_
        refine V_iadd fE tc_0 (by omega) d_Tape_isName_44 (fun z11 z11e z11E => ?_)
        refine N_bald sk_90 z11E (by omega) d_Tape_isName_45 (fun z12 z12Z z12E z12e => ?_)
        have g13 : z12Z = b (fZ + 0) := TP_rd (TP_fr f0 (fun _ => rfl) hy0) (by omega) z12E z12e
        refine V_aload_n 1 d_Tape_isName_46 rfl rfl ?_
        refine V_iload_n 3 d_Tape_isName_47 rfl rfl ?_
        refine N_callVSI [.int 0] [.int z12] cv_Tape_47 sH rfl d_Tape_isName_48 rfl (Nat.le_of_ble_eq_true rfl) (by decide) (by decide) (c_Str_charAt h 3 sH 0 0 tc_0 (by decide)) (fun z14 h15 z14Z z14E p16 => ?_)
        obtain ⟨eh15, p16⟩ := p16
        subst eh15
        obtain rfl : z14 = 111 := p16.trans rfl
        refine V_icmp_eq 56 z12E tc_111 d_Tape_isName_51 (by decide) (fun c17 => ?_) (fun c17 => ?_)
        ·
          refine V_iinc (v := 1) 3 [some (.ref 89), some (.ref (135 + 3)), some (.int 4), some (.int 1)] d_Tape_isName_56 rfl (by decide) (by decide) rfl rfl ?_
          refine V_goto 30 d_Tape_isName_59 (by decide) ?_
          refine V_iload_n 3 d_Tape_isName_30 rfl rfl ?_
          refine V_iload_n 2 d_Tape_isName_31 rfl rfl ?_
          refine V_icmp_ge 62 tc_1 tc_4 d_Tape_isName_32 (by decide) (fun c19 => ?_) (fun c19 => ?_)
          ·
            exact absurd c19 (by decide)
          ·
            refine V_aload_n 0 d_Tape_isName_35 rfl rfl ?_
            refine V_getR fa_Tape_9 sk_89 rfl d_Tape_isName_36 ?_
            refine V_aload_n 0 d_Tape_isName_39 rfl rfl ?_
            refine N_getK fa_Tape_19 sk_89 rfl d_Tape_isName_40 fK ?_
            refine V_iload_n 3 d_Tape_isName_43 rfl rfl ?_
            refine V_iadd fE tc_1 (by omega) d_Tape_isName_44 (fun z20 z20e z20E => ?_)
            refine N_bald sk_90 z20E (by omega) d_Tape_isName_45 (fun z21 z21Z z21E z21e => ?_)
            have g22 : z21Z = b (fZ + 1) := TP_rd (TP_fr f0 (fun _ => rfl) hy0) (by omega) z21E z21e
            refine V_aload_n 1 d_Tape_isName_46 rfl rfl ?_
            refine V_iload_n 3 d_Tape_isName_47 rfl rfl ?_
            refine N_callVSI [.int 1] [.int z21] cv_Tape_47 sH rfl d_Tape_isName_48 rfl (Nat.le_of_ble_eq_true rfl) (by decide) (by decide) (c_Str_charAt h 3 sH 1 1 tc_1 (by decide)) (fun z23 h24 z23Z z23E p25 => ?_)
            obtain ⟨eh24, p25⟩ := p25
            subst eh24
            obtain rfl : z23 = 100 := p25.trans rfl
            refine V_icmp_eq 56 z21E tc_100 d_Tape_isName_51 (by decide) (fun c26 => ?_) (fun c26 => ?_)
            ·
              refine V_iinc (v := 2) 3 [some (.ref 89), some (.ref (135 + 3)), some (.int 4), some (.int 2)] d_Tape_isName_56 rfl (by decide) (by decide) rfl rfl ?_
              refine V_goto 30 d_Tape_isName_59 (by decide) ?_
              refine V_iload_n 3 d_Tape_isName_30 rfl rfl ?_
              refine V_iload_n 2 d_Tape_isName_31 rfl rfl ?_
              refine V_icmp_ge 62 tc_2 tc_4 d_Tape_isName_32 (by decide) (fun c28 => ?_) (fun c28 => ?_)
              ·
                exact absurd c28 (by decide)
              ·
                refine V_aload_n 0 d_Tape_isName_35 rfl rfl ?_
                refine V_getR fa_Tape_9 sk_89 rfl d_Tape_isName_36 ?_
                refine V_aload_n 0 d_Tape_isName_39 rfl rfl ?_
                refine N_getK fa_Tape_19 sk_89 rfl d_Tape_isName_40 fK ?_
                refine V_iload_n 3 d_Tape_isName_43 rfl rfl ?_
                refine V_iadd fE tc_2 (by omega) d_Tape_isName_44 (fun z29 z29e z29E => ?_)
                refine N_bald sk_90 z29E (by omega) d_Tape_isName_45 (fun z30 z30Z z30E z30e => ?_)
                have g31 : z30Z = b (fZ + 2) := TP_rd (TP_fr f0 (fun _ => rfl) hy0) (by omega) z30E z30e
                refine V_aload_n 1 d_Tape_isName_46 rfl rfl ?_
                refine V_iload_n 3 d_Tape_isName_47 rfl rfl ?_
                refine N_callVSI [.int 2] [.int z30] cv_Tape_47 sH rfl d_Tape_isName_48 rfl (Nat.le_of_ble_eq_true rfl) (by decide) (by decide) (c_Str_charAt h 3 sH 2 2 tc_2 (by decide)) (fun z32 h33 z32Z z32E p34 => ?_)
                obtain ⟨eh33, p34⟩ := p34
                subst eh33
                obtain rfl : z32 = 100 := p34.trans rfl
                refine V_icmp_eq 56 z30E tc_100 d_Tape_isName_51 (by decide) (fun c35 => ?_) (fun c35 => ?_)
                ·
                  refine V_iinc (v := 3) 3 [some (.ref 89), some (.ref (135 + 3)), some (.int 4), some (.int 3)] d_Tape_isName_56 rfl (by decide) (by decide) rfl rfl ?_
                  refine V_goto 30 d_Tape_isName_59 (by decide) ?_
                  refine V_iload_n 3 d_Tape_isName_30 rfl rfl ?_
                  refine V_iload_n 2 d_Tape_isName_31 rfl rfl ?_
                  refine V_icmp_ge 62 tc_3 tc_4 d_Tape_isName_32 (by decide) (fun c37 => ?_) (fun c37 => ?_)
                  ·
                    exact absurd c37 (by decide)
                  ·
                    refine V_aload_n 0 d_Tape_isName_35 rfl rfl ?_
                    refine V_getR fa_Tape_9 sk_89 rfl d_Tape_isName_36 ?_
                    refine V_aload_n 0 d_Tape_isName_39 rfl rfl ?_
                    refine N_getK fa_Tape_19 sk_89 rfl d_Tape_isName_40 fK ?_
                    refine V_iload_n 3 d_Tape_isName_43 rfl rfl ?_
                    refine V_iadd fE tc_3 (by omega) d_Tape_isName_44 (fun z38 z38e z38E => ?_)
                    refine N_bald sk_90 z38E (by omega) d_Tape_isName_45 (fun z39 z39Z z39E z39e => ?_)
                    have g40 : z39Z = b (fZ + 3) := TP_rd (TP_fr f0 (fun _ => rfl) hy0) (by omega) z39E z39e
                    refine V_aload_n 1 d_Tape_isName_46 rfl rfl ?_
                    refine V_iload_n 3 d_Tape_isName_47 rfl rfl ?_
                    refine N_callVSI [.int 3] [.int z39] cv_Tape_47 sH rfl d_Tape_isName_48 rfl (Nat.le_of_ble_eq_true rfl) (by decide) (by decide) (c_Str_charAt h 3 sH 3 3 tc_3 (by decide)) (fun z41 h42 z41Z z41E p43 => ?_)
                    obtain ⟨eh42, p43⟩ := p43
                    subst eh42
                    obtain rfl : z41 = 115 := p43.trans rfl
                    refine V_icmp_eq 56 z39E tc_115 d_Tape_isName_51 (by decide) (fun c44 => ?_) (fun c44 => ?_)
                    ·
                      refine V_iinc (v := 4) 3 [some (.ref 89), some (.ref (135 + 3)), some (.int 4), some (.int 4)] d_Tape_isName_56 rfl (by decide) (by decide) rfl rfl ?_
                      refine V_goto 30 d_Tape_isName_59 (by decide) ?_
                      refine V_iload_n 3 d_Tape_isName_30 rfl rfl ?_
                      refine V_iload_n 2 d_Tape_isName_31 rfl rfl ?_
                      refine V_icmp_ge 62 tc_4 tc_4 d_Tape_isName_32 (by decide) (fun c46 => ?_) (fun c46 => ?_)
                      ·
                        refine V_iconst 1 d_Tape_isName_62 (by decide) ?_
                        exact V_zret rfl (by decide) d_Tape_isName_63 ⟨1, rfl, ⟨rfl, (Or.inr ⟨by omega, tc_1.trans (x_nmy3 (b := b) (f := fZ) (e := uZ) (by omega)).symm⟩)⟩⟩
                      ·
                        exact absurd c46 (by decide)
                    ·
                      refine V_iconst 0 d_Tape_isName_54 (by decide) ?_
                      exact V_zret rfl (by decide) d_Tape_isName_55 ⟨0, rfl, ⟨rfl, (Or.inr ⟨by omega, tc_0.trans (x_nmn3 (b := b) (f := fZ) (e := uZ) (by omega)).symm⟩)⟩⟩
                ·
                  refine V_iconst 0 d_Tape_isName_54 (by decide) ?_
                  exact V_zret rfl (by decide) d_Tape_isName_55 ⟨0, rfl, ⟨rfl, (Or.inr ⟨by omega, tc_0.trans (x_nmn3 (b := b) (f := fZ) (e := uZ) (by omega)).symm⟩)⟩⟩
            ·
              refine V_iconst 0 d_Tape_isName_54 (by decide) ?_
              exact V_zret rfl (by decide) d_Tape_isName_55 ⟨0, rfl, ⟨rfl, (Or.inr ⟨by omega, tc_0.trans (x_nmn3 (b := b) (f := fZ) (e := uZ) (by omega)).symm⟩)⟩⟩
        ·
          refine V_iconst 0 d_Tape_isName_54 (by decide) ?_
          exact V_zret rfl (by decide) d_Tape_isName_55 ⟨0, rfl, ⟨rfl, (Or.inr ⟨by omega, tc_0.trans (x_nmn3 (b := b) (f := fZ) (e := uZ) (by omega)).symm⟩)⟩⟩
    ·
      refine V_iconst 0 d_Tape_isName_26 (by decide) ?_
      exact V_zret rfl (by decide) d_Tape_isName_27 ⟨0, rfl, ⟨rfl, (if q : qZ = 1 then Or.inr ⟨q, tc_0.trans (x_nmn3 (b := b) (f := fZ) (e := uZ) (by omega)).symm⟩ else Or.inl ⟨q, rfl⟩)⟩⟩
abbrev q_Tape_isNameX_4 (h : Hp) (b : Int → Int) (s : Int32) (sZ : Int) (q : Int32) (qZ : Int) (f : Int32) (fZ : Int) (u : Int32) (uZ : Int) : Option Value → Hp → Prop := pInt (fun r h' => h = h' ∧ (qZ ≠ 1 ∧ r.toInt = 0 ∨ qZ = 1 ∧ r.toInt = x_nm4 b fZ uZ))
set_option maxRecDepth 100000 in
theorem c_Tape_isNameX_4 (h : Hp) (b : Int → Int) (hI : Inv h) (s : Int32) (sZ : Int) (sE : s.toInt = sZ) (sK : h.1 89 1 = s) (q : Int32) (qZ : Int) (qE : q.toInt = qZ) (qK : h.1 89 2 = q) (f : Int32) (fZ : Int) (fE : f.toInt = fZ) (fK : h.1 89 3 = f) (u : Int32) (uZ : Int) (uE : u.toInt = uZ) (uK : h.1 89 4 = u) (hy0 : TP h 90 sZ b) (hy1 : 0 ≤ fZ ∧ fZ ≤ uZ ∧ uZ ≤ sZ ∧ sZ ≤ 160) : Ct y_Tape_isName b_Tape_isName 4 (some .boolean) 4 85 [.ref 89, .ref (135 + 4)] h (q_Tape_isNameX_4 h b s sZ q qZ f fZ u uZ) := by
  refine ct_ow R_Tape [some (.ref 89), some (.ref (135 + 4)), none, none] rfl (by decide) rfl (Nat.le_of_ble_eq_true rfl) ?_
  have f0 : fr [] h h := fr_rf
  have g1 : 0 ≤ sZ ∧ sZ ≤ 160 := inv_at hI sE sK.symm rfl
  have g2 : 0 ≤ fZ ∧ fZ ≤ 160 := inv_at hI fE fK.symm rfl
  have g3 : 0 ≤ uZ ∧ uZ ≤ 160 := inv_at hI uE uK.symm rfl
  have sH : 4 < 14 := by decide
  refine V_aload_n 1 d_Tape_isName_0 rfl rfl ?_
  refine N_callVSI [] [] cv_Tape_41 sH rfl d_Tape_isName_1 rfl (Nat.le_of_ble_eq_true rfl) (by decide) (by decide) (c_Str_length h 4 sH) (fun z4 h5 z4Z z4E p6 => ?_)
  obtain ⟨eh5, p6⟩ := p6
  subst eh5
  rw [z4E] at p6
  obtain rfl : z4 = 5 := (ti_eq z4E (show (5 : Int32).toInt = 5 from rfl)).mpr (p6.trans rfl)
  refine V_istore_n 2 [some (.ref 89), some (.ref (135 + 4)), some (.int 5), none] d_Tape_isName_4 rfl (by decide) rfl rfl ?_
  refine V_aload_n 0 d_Tape_isName_5 rfl rfl ?_
  refine N_getK fa_Tape_25 sk_89 rfl d_Tape_isName_6 qK ?_
  refine V_iconst 1 d_Tape_isName_9 (by decide) ?_
  refine V_icmp_ne 26 qE tc_1 d_Tape_isName_10 (by decide) (fun c7 => ?_) (fun c7 => ?_)
  ·
    refine V_iconst 0 d_Tape_isName_26 (by decide) ?_
    exact V_zret rfl (by decide) d_Tape_isName_27 ⟨0, rfl, ⟨rfl, (if q : qZ = 1 then Or.inr ⟨q, tc_0.trans (x_nmn4 (b := b) (f := fZ) (e := uZ) (by omega)).symm⟩ else Or.inl ⟨q, rfl⟩)⟩⟩
  ·
    refine V_aload_n 0 d_Tape_isName_13 rfl rfl ?_
    refine N_getK fa_Tape_15 sk_89 rfl d_Tape_isName_14 uK ?_
    refine V_aload_n 0 d_Tape_isName_17 rfl rfl ?_
    refine N_getK fa_Tape_19 sk_89 rfl d_Tape_isName_18 fK ?_
    refine V_isub uE fE (by omega) d_Tape_isName_21 (fun z8 z8e z8E => ?_)
    refine V_iload_n 2 d_Tape_isName_22 rfl rfl ?_
    refine V_icmp_eq 28 z8E tc_5 d_Tape_isName_23 (by decide) (fun c9 => ?_) (fun c9 => ?_)
    ·
      refine V_iconst 0 d_Tape_isName_28 (by decide) ?_
      refine V_istore_n 3 [some (.ref 89), some (.ref (135 + 4)), some (.int 5), some (.int 0)] d_Tape_isName_29 rfl (by decide) rfl rfl ?_
      refine V_iload_n 3 d_Tape_isName_30 rfl rfl ?_
      refine V_iload_n 2 d_Tape_isName_31 rfl rfl ?_
      refine V_icmp_ge 62 tc_0 tc_5 d_Tape_isName_32 (by decide) (fun c10 => ?_) (fun c10 => ?_)
      ·
        exact absurd c10 (by decide)
      ·
        refine V_aload_n 0 d_Tape_isName_35 rfl rfl ?_
        refine V_getR fa_Tape_9 sk_89 rfl d_Tape_isName_36 ?_
        refine V_aload_n 0 d_Tape_isName_39 rfl rfl ?_
        refine N_getK fa_Tape_19 sk_89 rfl d_Tape_isName_40 fK ?_
        refine V_iload_n 3 d_Tape_isName_43 rfl rfl ?_
        refine V_iadd fE tc_0 (by omega) d_Tape_isName_44 (fun z11 z11e z11E => ?_)
        refine N_bald sk_90 z11E (by omega) d_Tape_isName_45 (fun z12 z12Z z12E z12e => ?_)
        have g13 : z12Z = b (fZ + 0) := TP_rd (TP_fr f0 (fun _ => rfl) hy0) (by omega) z12E z12e
        refine V_aload_n 1 d_Tape_isName_46 rfl rfl ?_
        refine V_iload_n 3 d_Tape_isName_47 rfl rfl ?_
        refine N_callVSI [.int 0] [.int z12] cv_Tape_47 sH rfl d_Tape_isName_48 rfl (Nat.le_of_ble_eq_true rfl) (by decide) (by decide) (c_Str_charAt h 4 sH 0 0 tc_0 (by decide)) (fun z14 h15 z14Z z14E p16 => ?_)
        obtain ⟨eh15, p16⟩ := p16
        subst eh15
        obtain rfl : z14 = 99 := p16.trans rfl
        refine V_icmp_eq 56 z12E tc_99 d_Tape_isName_51 (by decide) (fun c17 => ?_) (fun c17 => ?_)
        ·
          refine V_iinc (v := 1) 3 [some (.ref 89), some (.ref (135 + 4)), some (.int 5), some (.int 1)] d_Tape_isName_56 rfl (by decide) (by decide) rfl rfl ?_
          refine V_goto 30 d_Tape_isName_59 (by decide) ?_
          refine V_iload_n 3 d_Tape_isName_30 rfl rfl ?_
          refine V_iload_n 2 d_Tape_isName_31 rfl rfl ?_
          refine V_icmp_ge 62 tc_1 tc_5 d_Tape_isName_32 (by decide) (fun c19 => ?_) (fun c19 => ?_)
          ·
            exact absurd c19 (by decide)
          ·
            refine V_aload_n 0 d_Tape_isName_35 rfl rfl ?_
            refine V_getR fa_Tape_9 sk_89 rfl d_Tape_isName_36 ?_
            refine V_aload_n 0 d_Tape_isName_39 rfl rfl ?_
            refine N_getK fa_Tape_19 sk_89 rfl d_Tape_isName_40 fK ?_
            refine V_iload_n 3 d_Tape_isName_43 rfl rfl ?_
            refine V_iadd fE tc_1 (by omega) d_Tape_isName_44 (fun z20 z20e z20E => ?_)
            refine N_bald sk_90 z20E (by omega) d_Tape_isName_45 (fun z21 z21Z z21E z21e => ?_)
            have g22 : z21Z = b (fZ + 1) := TP_rd (TP_fr f0 (fun _ => rfl) hy0) (by omega) z21E z21e
            refine V_aload_n 1 d_Tape_isName_46 rfl rfl ?_
            refine V_iload_n 3 d_Tape_isName_47 rfl rfl ?_
            refine N_callVSI [.int 1] [.int z21] cv_Tape_47 sH rfl d_Tape_isName_48 rfl (Nat.le_of_ble_eq_true rfl) (by decide) (by decide) (c_Str_charAt h 4 sH 1 1 tc_1 (by decide)) (fun z23 h24 z23Z z23E p25 => ?_)
            obtain ⟨eh24, p25⟩ := p25
            subst eh24
            obtain rfl : z23 = 108 := p25.trans rfl
            refine V_icmp_eq 56 z21E tc_108 d_Tape_isName_51 (by decide) (fun c26 => ?_) (fun c26 => ?_)
            ·
              refine V_iinc (v := 2) 3 [some (.ref 89), some (.ref (135 + 4)), some (.int 5), some (.int 2)] d_Tape_isName_56 rfl (by decide) (by decide) rfl rfl ?_
              refine V_goto 30 d_Tape_isName_59 (by decide) ?_
              refine V_iload_n 3 d_Tape_isName_30 rfl rfl ?_
              refine V_iload_n 2 d_Tape_isName_31 rfl rfl ?_
              refine V_icmp_ge 62 tc_2 tc_5 d_Tape_isName_32 (by decide) (fun c28 => ?_) (fun c28 => ?_)
              ·
                exact absurd c28 (by decide)
              ·
                refine V_aload_n 0 d_Tape_isName_35 rfl rfl ?_
                refine V_getR fa_Tape_9 sk_89 rfl d_Tape_isName_36 ?_
                refine V_aload_n 0 d_Tape_isName_39 rfl rfl ?_
                refine N_getK fa_Tape_19 sk_89 rfl d_Tape_isName_40 fK ?_
                refine V_iload_n 3 d_Tape_isName_43 rfl rfl ?_
                refine V_iadd fE tc_2 (by omega) d_Tape_isName_44 (fun z29 z29e z29E => ?_)
                refine N_bald sk_90 z29E (by omega) d_Tape_isName_45 (fun z30 z30Z z30E z30e => ?_)
                have g31 : z30Z = b (fZ + 2) := TP_rd (TP_fr f0 (fun _ => rfl) hy0) (by omega) z30E z30e
                refine V_aload_n 1 d_Tape_isName_46 rfl rfl ?_
                refine V_iload_n 3 d_Tape_isName_47 rfl rfl ?_
                refine N_callVSI [.int 2] [.int z30] cv_Tape_47 sH rfl d_Tape_isName_48 rfl (Nat.le_of_ble_eq_true rfl) (by decide) (by decide) (c_Str_charAt h 4 sH 2 2 tc_2 (by decide)) (fun z32 h33 z32Z z32E p34 => ?_)
                obtain ⟨eh33, p34⟩ := p34
                subst eh33
                obtain rfl : z32 = 97 := p34.trans rfl
                refine V_icmp_eq 56 z30E tc_97 d_Tape_isName_51 (by decide) (fun c35 => ?_) (fun c35 => ?_)
                ·
                  refine V_iinc (v := 3) 3 [some (.ref 89), some (.ref (135 + 4)), some (.int 5), some (.int 3)] d_Tape_isName_56 rfl (by decide) (by decide) rfl rfl ?_
                  refine V_goto 30 d_Tape_isName_59 (by decide) ?_
                  refine V_iload_n 3 d_Tape_isName_30 rfl rfl ?_
                  refine V_iload_n 2 d_Tape_isName_31 rfl rfl ?_
                  refine V_icmp_ge 62 tc_3 tc_5 d_Tape_isName_32 (by decide) (fun c37 => ?_) (fun c37 => ?_)
                  ·
                    exact absurd c37 (by decide)
                  ·
                    refine V_aload_n 0 d_Tape_isName_35 rfl rfl ?_
                    refine V_getR fa_Tape_9 sk_89 rfl d_Tape_isName_36 ?_
                    refine V_aload_n 0 d_Tape_isName_39 rfl rfl ?_
                    refine N_getK fa_Tape_19 sk_89 rfl d_Tape_isName_40 fK ?_
                    refine V_iload_n 3 d_Tape_isName_43 rfl rfl ?_
                    refine V_iadd fE tc_3 (by omega) d_Tape_isName_44 (fun z38 z38e z38E => ?_)
                    refine N_bald sk_90 z38E (by omega) d_Tape_isName_45 (fun z39 z39Z z39E z39e => ?_)
                    have g40 : z39Z = b (fZ + 3) := TP_rd (TP_fr f0 (fun _ => rfl) hy0) (by omega) z39E z39e
                    refine V_aload_n 1 d_Tape_isName_46 rfl rfl ?_
                    refine V_iload_n 3 d_Tape_isName_47 rfl rfl ?_
                    refine N_callVSI [.int 3] [.int z39] cv_Tape_47 sH rfl d_Tape_isName_48 rfl (Nat.le_of_ble_eq_true rfl) (by decide) (by decide) (c_Str_charAt h 4 sH 3 3 tc_3 (by decide)) (fun z41 h42 z41Z z41E p43 => ?_)
                    obtain ⟨eh42, p43⟩ := p43
                    subst eh42
                    obtain rfl : z41 = 105 := p43.trans rfl
                    refine V_icmp_eq 56 z39E tc_105 d_Tape_isName_51 (by decide) (fun c44 => ?_) (fun c44 => ?_)
                    ·
                      refine V_iinc (v := 4) 3 [some (.ref 89), some (.ref (135 + 4)), some (.int 5), some (.int 4)] d_Tape_isName_56 rfl (by decide) (by decide) rfl rfl ?_
                      refine V_goto 30 d_Tape_isName_59 (by decide) ?_
                      refine V_iload_n 3 d_Tape_isName_30 rfl rfl ?_
                      refine V_iload_n 2 d_Tape_isName_31 rfl rfl ?_
                      refine V_icmp_ge 62 tc_4 tc_5 d_Tape_isName_32 (by decide) (fun c46 => ?_) (fun c46 => ?_)
                      ·
                        exact absurd c46 (by decide)
                      ·
                        refine V_aload_n 0 d_Tape_isName_35 rfl rfl ?_
                        refine V_getR fa_Tape_9 sk_89 rfl d_Tape_isName_36 ?_
                        refine V_aload_n 0 d_Tape_isName_39 rfl rfl ?_
                        refine N_getK fa_Tape_19 sk_89 rfl d_Tape_isName_40 fK ?_
                        refine V_iload_n 3 d_Tape_isName_43 rfl rfl ?_
                        refine V_iadd fE tc_4 (by omega) d_Tape_isName_44 (fun z47 z47e z47E => ?_)
                        refine N_bald sk_90 z47E (by omega) d_Tape_isName_45 (fun z48 z48Z z48E z48e => ?_)
                        have g49 : z48Z = b (fZ + 4) := TP_rd (TP_fr f0 (fun _ => rfl) hy0) (by omega) z48E z48e
                        refine V_aload_n 1 d_Tape_isName_46 rfl rfl ?_
                        refine V_iload_n 3 d_Tape_isName_47 rfl rfl ?_
                        refine N_callVSI [.int 4] [.int z48] cv_Tape_47 sH rfl d_Tape_isName_48 rfl (Nat.le_of_ble_eq_true rfl) (by decide) (by decide) (c_Str_charAt h 4 sH 4 4 tc_4 (by decide)) (fun z50 h51 z50Z z50E p52 => ?_)
                        obtain ⟨eh51, p52⟩ := p52
                        subst eh51
                        obtain rfl : z50 = 109 := p52.trans rfl
                        refine V_icmp_eq 56 z48E tc_109 d_Tape_isName_51 (by decide) (fun c53 => ?_) (fun c53 => ?_)
                        ·
                          refine V_iinc (v := 5) 3 [some (.ref 89), some (.ref (135 + 4)), some (.int 5), some (.int 5)] d_Tape_isName_56 rfl (by decide) (by decide) rfl rfl ?_
                          refine V_goto 30 d_Tape_isName_59 (by decide) ?_
                          refine V_iload_n 3 d_Tape_isName_30 rfl rfl ?_
                          refine V_iload_n 2 d_Tape_isName_31 rfl rfl ?_
                          refine V_icmp_ge 62 tc_5 tc_5 d_Tape_isName_32 (by decide) (fun c55 => ?_) (fun c55 => ?_)
                          ·
                            refine V_iconst 1 d_Tape_isName_62 (by decide) ?_
                            exact V_zret rfl (by decide) d_Tape_isName_63 ⟨1, rfl, ⟨rfl, (Or.inr ⟨by omega, tc_1.trans (x_nmy4 (b := b) (f := fZ) (e := uZ) (by omega)).symm⟩)⟩⟩
                          ·
                            exact absurd c55 (by decide)
                        ·
                          refine V_iconst 0 d_Tape_isName_54 (by decide) ?_
                          exact V_zret rfl (by decide) d_Tape_isName_55 ⟨0, rfl, ⟨rfl, (Or.inr ⟨by omega, tc_0.trans (x_nmn4 (b := b) (f := fZ) (e := uZ) (by omega)).symm⟩)⟩⟩
                    ·
                      refine V_iconst 0 d_Tape_isName_54 (by decide) ?_
                      exact V_zret rfl (by decide) d_Tape_isName_55 ⟨0, rfl, ⟨rfl, (Or.inr ⟨by omega, tc_0.trans (x_nmn4 (b := b) (f := fZ) (e := uZ) (by omega)).symm⟩)⟩⟩
                ·
                  refine V_iconst 0 d_Tape_isName_54 (by decide) ?_
                  exact V_zret rfl (by decide) d_Tape_isName_55 ⟨0, rfl, ⟨rfl, (Or.inr ⟨by omega, tc_0.trans (x_nmn4 (b := b) (f := fZ) (e := uZ) (by omega)).symm⟩)⟩⟩
            ·
              refine V_iconst 0 d_Tape_isName_54 (by decide) ?_
              exact V_zret rfl (by decide) d_Tape_isName_55 ⟨0, rfl, ⟨rfl, (Or.inr ⟨by omega, tc_0.trans (x_nmn4 (b := b) (f := fZ) (e := uZ) (by omega)).symm⟩)⟩⟩
        ·
          refine V_iconst 0 d_Tape_isName_54 (by decide) ?_
          exact V_zret rfl (by decide) d_Tape_isName_55 ⟨0, rfl, ⟨rfl, (Or.inr ⟨by omega, tc_0.trans (x_nmn4 (b := b) (f := fZ) (e := uZ) (by omega)).symm⟩)⟩⟩
    ·
      refine V_iconst 0 d_Tape_isName_26 (by decide) ?_
      exact V_zret rfl (by decide) d_Tape_isName_27 ⟨0, rfl, ⟨rfl, (if q : qZ = 1 then Or.inr ⟨q, tc_0.trans (x_nmn4 (b := b) (f := fZ) (e := uZ) (by omega)).symm⟩ else Or.inl ⟨q, rfl⟩)⟩⟩
abbrev q_Tape_isNameX_5 (h : Hp) (b : Int → Int) (s : Int32) (sZ : Int) (q : Int32) (qZ : Int) (f : Int32) (fZ : Int) (u : Int32) (uZ : Int) : Option Value → Hp → Prop := pInt (fun r h' => h = h' ∧ (qZ ≠ 1 ∧ r.toInt = 0 ∨ qZ = 1 ∧ r.toInt = x_nm5 b fZ uZ))
set_option maxRecDepth 100000 in
theorem c_Tape_isNameX_5 (h : Hp) (b : Int → Int) (hI : Inv h) (s : Int32) (sZ : Int) (sE : s.toInt = sZ) (sK : h.1 89 1 = s) (q : Int32) (qZ : Int) (qE : q.toInt = qZ) (qK : h.1 89 2 = q) (f : Int32) (fZ : Int) (fE : f.toInt = fZ) (fK : h.1 89 3 = f) (u : Int32) (uZ : Int) (uE : u.toInt = uZ) (uK : h.1 89 4 = u) (hy0 : TP h 90 sZ b) (hy1 : 0 ≤ fZ ∧ fZ ≤ uZ ∧ uZ ≤ sZ ∧ sZ ≤ 160) : Ct y_Tape_isName b_Tape_isName 4 (some .boolean) 4 85 [.ref 89, .ref (135 + 5)] h (q_Tape_isNameX_5 h b s sZ q qZ f fZ u uZ) := by
  refine ct_ow R_Tape [some (.ref 89), some (.ref (135 + 5)), none, none] rfl (by decide) rfl (Nat.le_of_ble_eq_true rfl) ?_
  have f0 : fr [] h h := fr_rf
  have g1 : 0 ≤ sZ ∧ sZ ≤ 160 := inv_at hI sE sK.symm rfl
  have g2 : 0 ≤ fZ ∧ fZ ≤ 160 := inv_at hI fE fK.symm rfl
  have g3 : 0 ≤ uZ ∧ uZ ≤ 160 := inv_at hI uE uK.symm rfl
  have sH : 5 < 14 := by decide
  refine V_aload_n 1 d_Tape_isName_0 rfl rfl ?_
  refine N_callVSI [] [] cv_Tape_41 sH rfl d_Tape_isName_1 rfl (Nat.le_of_ble_eq_true rfl) (by decide) (by decide) (c_Str_length h 5 sH) (fun z4 h5 z4Z z4E p6 => ?_)
  obtain ⟨eh5, p6⟩ := p6
  subst eh5
  rw [z4E] at p6
  obtain rfl : z4 = 5 := (ti_eq z4E (show (5 : Int32).toInt = 5 from rfl)).mpr (p6.trans rfl)
  refine V_istore_n 2 [some (.ref 89), some (.ref (135 + 5)), some (.int 5), none] d_Tape_isName_4 rfl (by decide) rfl rfl ?_
  refine V_aload_n 0 d_Tape_isName_5 rfl rfl ?_
  refine N_getK fa_Tape_25 sk_89 rfl d_Tape_isName_6 qK ?_
  refine V_iconst 1 d_Tape_isName_9 (by decide) ?_
  refine V_icmp_ne 26 qE tc_1 d_Tape_isName_10 (by decide) (fun c7 => ?_) (fun c7 => ?_)
  ·
    refine V_iconst 0 d_Tape_isName_26 (by decide) ?_
    exact V_zret rfl (by decide) d_Tape_isName_27 ⟨0, rfl, ⟨rfl, (if q : qZ = 1 then Or.inr ⟨q, tc_0.trans (x_nmn5 (b := b) (f := fZ) (e := uZ) (by omega)).symm⟩ else Or.inl ⟨q, rfl⟩)⟩⟩
  ·
    refine V_aload_n 0 d_Tape_isName_13 rfl rfl ?_
    refine N_getK fa_Tape_15 sk_89 rfl d_Tape_isName_14 uK ?_
    refine V_aload_n 0 d_Tape_isName_17 rfl rfl ?_
    refine N_getK fa_Tape_19 sk_89 rfl d_Tape_isName_18 fK ?_
    refine V_isub uE fE (by omega) d_Tape_isName_21 (fun z8 z8e z8E => ?_)
    refine V_iload_n 2 d_Tape_isName_22 rfl rfl ?_
    refine V_icmp_eq 28 z8E tc_5 d_Tape_isName_23 (by decide) (fun c9 => ?_) (fun c9 => ?_)
    ·
      refine V_iconst 0 d_Tape_isName_28 (by decide) ?_
      refine V_istore_n 3 [some (.ref 89), some (.ref (135 + 5)), some (.int 5), some (.int 0)] d_Tape_isName_29 rfl (by decide) rfl rfl ?_
      refine V_iload_n 3 d_Tape_isName_30 rfl rfl ?_
      refine V_iload_n 2 d_Tape_isName_31 rfl rfl ?_
      refine V_icmp_ge 62 tc_0 tc_5 d_Tape_isName_32 (by decide) (fun c10 => ?_) (fun c10 => ?_)
      ·
        exact absurd c10 (by decide)
      ·
        refine V_aload_n 0 d_Tape_isName_35 rfl rfl ?_
        refine V_getR fa_Tape_9 sk_89 rfl d_Tape_isName_36 ?_
        refine V_aload_n 0 d_Tape_isName_39 rfl rfl ?_
        refine N_getK fa_Tape_19 sk_89 rfl d_Tape_isName_40 fK ?_
        refine V_iload_n 3 d_Tape_isName_43 rfl rfl ?_
        refine V_iadd fE tc_0 (by omega) d_Tape_isName_44 (fun z11 z11e z11E => ?_)
        refine N_bald sk_90 z11E (by omega) d_Tape_isName_45 (fun z12 z12Z z12E z12e => ?_)
        have g13 : z12Z = b (fZ + 0) := TP_rd (TP_fr f0 (fun _ => rfl) hy0) (by omega) z12E z12e
        refine V_aload_n 1 d_Tape_isName_46 rfl rfl ?_
        refine V_iload_n 3 d_Tape_isName_47 rfl rfl ?_
        refine N_callVSI [.int 0] [.int z12] cv_Tape_47 sH rfl d_Tape_isName_48 rfl (Nat.le_of_ble_eq_true rfl) (by decide) (by decide) (c_Str_charAt h 5 sH 0 0 tc_0 (by decide)) (fun z14 h15 z14Z z14E p16 => ?_)
        obtain ⟨eh15, p16⟩ := p16
        subst eh15
        obtain rfl : z14 = 112 := p16.trans rfl
        refine V_icmp_eq 56 z12E tc_112 d_Tape_isName_51 (by decide) (fun c17 => ?_) (fun c17 => ?_)
        ·
          refine V_iinc (v := 1) 3 [some (.ref 89), some (.ref (135 + 5)), some (.int 5), some (.int 1)] d_Tape_isName_56 rfl (by decide) (by decide) rfl rfl ?_
          refine V_goto 30 d_Tape_isName_59 (by decide) ?_
          refine V_iload_n 3 d_Tape_isName_30 rfl rfl ?_
          refine V_iload_n 2 d_Tape_isName_31 rfl rfl ?_
          refine V_icmp_ge 62 tc_1 tc_5 d_Tape_isName_32 (by decide) (fun c19 => ?_) (fun c19 => ?_)
          ·
            exact absurd c19 (by decide)
          ·
            refine V_aload_n 0 d_Tape_isName_35 rfl rfl ?_
            refine V_getR fa_Tape_9 sk_89 rfl d_Tape_isName_36 ?_
            refine V_aload_n 0 d_Tape_isName_39 rfl rfl ?_
            refine N_getK fa_Tape_19 sk_89 rfl d_Tape_isName_40 fK ?_
            refine V_iload_n 3 d_Tape_isName_43 rfl rfl ?_
            refine V_iadd fE tc_1 (by omega) d_Tape_isName_44 (fun z20 z20e z20E => ?_)
            refine N_bald sk_90 z20E (by omega) d_Tape_isName_45 (fun z21 z21Z z21E z21e => ?_)
            have g22 : z21Z = b (fZ + 1) := TP_rd (TP_fr f0 (fun _ => rfl) hy0) (by omega) z21E z21e
            refine V_aload_n 1 d_Tape_isName_46 rfl rfl ?_
            refine V_iload_n 3 d_Tape_isName_47 rfl rfl ?_
            refine N_callVSI [.int 1] [.int z21] cv_Tape_47 sH rfl d_Tape_isName_48 rfl (Nat.le_of_ble_eq_true rfl) (by decide) (by decide) (c_Str_charAt h 5 sH 1 1 tc_1 (by decide)) (fun z23 h24 z23Z z23E p25 => ?_)
            obtain ⟨eh24, p25⟩ := p25
            subst eh24
            obtain rfl : z23 = 117 := p25.trans rfl
            refine V_icmp_eq 56 z21E tc_117 d_Tape_isName_51 (by decide) (fun c26 => ?_) (fun c26 => ?_)
            ·
              refine V_iinc (v := 2) 3 [some (.ref 89), some (.ref (135 + 5)), some (.int 5), some (.int 2)] d_Tape_isName_56 rfl (by decide) (by decide) rfl rfl ?_
              refine V_goto 30 d_Tape_isName_59 (by decide) ?_
              refine V_iload_n 3 d_Tape_isName_30 rfl rfl ?_
              refine V_iload_n 2 d_Tape_isName_31 rfl rfl ?_
              refine V_icmp_ge 62 tc_2 tc_5 d_Tape_isName_32 (by decide) (fun c28 => ?_) (fun c28 => ?_)
              ·
                exact absurd c28 (by decide)
              ·
                refine V_aload_n 0 d_Tape_isName_35 rfl rfl ?_
                refine V_getR fa_Tape_9 sk_89 rfl d_Tape_isName_36 ?_
                refine V_aload_n 0 d_Tape_isName_39 rfl rfl ?_
                refine N_getK fa_Tape_19 sk_89 rfl d_Tape_isName_40 fK ?_
                refine V_iload_n 3 d_Tape_isName_43 rfl rfl ?_
                refine V_iadd fE tc_2 (by omega) d_Tape_isName_44 (fun z29 z29e z29E => ?_)
                refine N_bald sk_90 z29E (by omega) d_Tape_isName_45 (fun z30 z30Z z30E z30e => ?_)
                have g31 : z30Z = b (fZ + 2) := TP_rd (TP_fr f0 (fun _ => rfl) hy0) (by omega) z30E z30e
                refine V_aload_n 1 d_Tape_isName_46 rfl rfl ?_
                refine V_iload_n 3 d_Tape_isName_47 rfl rfl ?_
                refine N_callVSI [.int 2] [.int z30] cv_Tape_47 sH rfl d_Tape_isName_48 rfl (Nat.le_of_ble_eq_true rfl) (by decide) (by decide) (c_Str_charAt h 5 sH 2 2 tc_2 (by decide)) (fun z32 h33 z32Z z32E p34 => ?_)
                obtain ⟨eh33, p34⟩ := p34
                subst eh33
                obtain rfl : z32 = 114 := p34.trans rfl
                refine V_icmp_eq 56 z30E tc_114 d_Tape_isName_51 (by decide) (fun c35 => ?_) (fun c35 => ?_)
                ·
                  refine V_iinc (v := 3) 3 [some (.ref 89), some (.ref (135 + 5)), some (.int 5), some (.int 3)] d_Tape_isName_56 rfl (by decide) (by decide) rfl rfl ?_
                  refine V_goto 30 d_Tape_isName_59 (by decide) ?_
                  refine V_iload_n 3 d_Tape_isName_30 rfl rfl ?_
                  refine V_iload_n 2 d_Tape_isName_31 rfl rfl ?_
                  refine V_icmp_ge 62 tc_3 tc_5 d_Tape_isName_32 (by decide) (fun c37 => ?_) (fun c37 => ?_)
                  ·
                    exact absurd c37 (by decide)
                  ·
                    refine V_aload_n 0 d_Tape_isName_35 rfl rfl ?_
                    refine V_getR fa_Tape_9 sk_89 rfl d_Tape_isName_36 ?_
                    refine V_aload_n 0 d_Tape_isName_39 rfl rfl ?_
                    refine N_getK fa_Tape_19 sk_89 rfl d_Tape_isName_40 fK ?_
                    refine V_iload_n 3 d_Tape_isName_43 rfl rfl ?_
                    refine V_iadd fE tc_3 (by omega) d_Tape_isName_44 (fun z38 z38e z38E => ?_)
                    refine N_bald sk_90 z38E (by omega) d_Tape_isName_45 (fun z39 z39Z z39E z39e => ?_)
                    have g40 : z39Z = b (fZ + 3) := TP_rd (TP_fr f0 (fun _ => rfl) hy0) (by omega) z39E z39e
                    refine V_aload_n 1 d_Tape_isName_46 rfl rfl ?_
                    refine V_iload_n 3 d_Tape_isName_47 rfl rfl ?_
                    refine N_callVSI [.int 3] [.int z39] cv_Tape_47 sH rfl d_Tape_isName_48 rfl (Nat.le_of_ble_eq_true rfl) (by decide) (by decide) (c_Str_charAt h 5 sH 3 3 tc_3 (by decide)) (fun z41 h42 z41Z z41E p43 => ?_)
                    obtain ⟨eh42, p43⟩ := p43
                    subst eh42
                    obtain rfl : z41 = 115 := p43.trans rfl
                    refine V_icmp_eq 56 z39E tc_115 d_Tape_isName_51 (by decide) (fun c44 => ?_) (fun c44 => ?_)
                    ·
                      refine V_iinc (v := 4) 3 [some (.ref 89), some (.ref (135 + 5)), some (.int 5), some (.int 4)] d_Tape_isName_56 rfl (by decide) (by decide) rfl rfl ?_
                      refine V_goto 30 d_Tape_isName_59 (by decide) ?_
                      refine V_iload_n 3 d_Tape_isName_30 rfl rfl ?_
                      refine V_iload_n 2 d_Tape_isName_31 rfl rfl ?_
                      refine V_icmp_ge 62 tc_4 tc_5 d_Tape_isName_32 (by decide) (fun c46 => ?_) (fun c46 => ?_)
                      ·
                        exact absurd c46 (by decide)
                      ·
                        refine V_aload_n 0 d_Tape_isName_35 rfl rfl ?_
                        refine V_getR fa_Tape_9 sk_89 rfl d_Tape_isName_36 ?_
                        refine V_aload_n 0 d_Tape_isName_39 rfl rfl ?_
                        refine N_getK fa_Tape_19 sk_89 rfl d_Tape_isName_40 fK ?_
                        refine V_iload_n 3 d_Tape_isName_43 rfl rfl ?_
                        refine V_iadd fE tc_4 (by omega) d_Tape_isName_44 (fun z47 z47e z47E => ?_)
                        refine N_bald sk_90 z47E (by omega) d_Tape_isName_45 (fun z48 z48Z z48E z48e => ?_)
                        have g49 : z48Z = b (fZ + 4) := TP_rd (TP_fr f0 (fun _ => rfl) hy0) (by omega) z48E z48e
                        refine V_aload_n 1 d_Tape_isName_46 rfl rfl ?_
                        refine V_iload_n 3 d_Tape_isName_47 rfl rfl ?_
                        refine N_callVSI [.int 4] [.int z48] cv_Tape_47 sH rfl d_Tape_isName_48 rfl (Nat.le_of_ble_eq_true rfl) (by decide) (by decide) (c_Str_charAt h 5 sH 4 4 tc_4 (by decide)) (fun z50 h51 z50Z z50E p52 => ?_)
                        obtain ⟨eh51, p52⟩ := p52
                        subst eh51
                        obtain rfl : z50 = 101 := p52.trans rfl
                        refine V_icmp_eq 56 z48E tc_101 d_Tape_isName_51 (by decide) (fun c53 => ?_) (fun c53 => ?_)
                        ·
                          refine V_iinc (v := 5) 3 [some (.ref 89), some (.ref (135 + 5)), some (.int 5), some (.int 5)] d_Tape_isName_56 rfl (by decide) (by decide) rfl rfl ?_
                          refine V_goto 30 d_Tape_isName_59 (by decide) ?_
                          refine V_iload_n 3 d_Tape_isName_30 rfl rfl ?_
                          refine V_iload_n 2 d_Tape_isName_31 rfl rfl ?_
                          refine V_icmp_ge 62 tc_5 tc_5 d_Tape_isName_32 (by decide) (fun c55 => ?_) (fun c55 => ?_)
                          ·
                            refine V_iconst 1 d_Tape_isName_62 (by decide) ?_
                            exact V_zret rfl (by decide) d_Tape_isName_63 ⟨1, rfl, ⟨rfl, (Or.inr ⟨by omega, tc_1.trans (x_nmy5 (b := b) (f := fZ) (e := uZ) (by omega)).symm⟩)⟩⟩
                          ·
                            exact absurd c55 (by decide)
                        ·
                          refine V_iconst 0 d_Tape_isName_54 (by decide) ?_
                          exact V_zret rfl (by decide) d_Tape_isName_55 ⟨0, rfl, ⟨rfl, (Or.inr ⟨by omega, tc_0.trans (x_nmn5 (b := b) (f := fZ) (e := uZ) (by omega)).symm⟩)⟩⟩
                    ·
                      refine V_iconst 0 d_Tape_isName_54 (by decide) ?_
                      exact V_zret rfl (by decide) d_Tape_isName_55 ⟨0, rfl, ⟨rfl, (Or.inr ⟨by omega, tc_0.trans (x_nmn5 (b := b) (f := fZ) (e := uZ) (by omega)).symm⟩)⟩⟩
                ·
                  refine V_iconst 0 d_Tape_isName_54 (by decide) ?_
                  exact V_zret rfl (by decide) d_Tape_isName_55 ⟨0, rfl, ⟨rfl, (Or.inr ⟨by omega, tc_0.trans (x_nmn5 (b := b) (f := fZ) (e := uZ) (by omega)).symm⟩)⟩⟩
            ·
              refine V_iconst 0 d_Tape_isName_54 (by decide) ?_
              exact V_zret rfl (by decide) d_Tape_isName_55 ⟨0, rfl, ⟨rfl, (Or.inr ⟨by omega, tc_0.trans (x_nmn5 (b := b) (f := fZ) (e := uZ) (by omega)).symm⟩)⟩⟩
        ·
          refine V_iconst 0 d_Tape_isName_54 (by decide) ?_
          exact V_zret rfl (by decide) d_Tape_isName_55 ⟨0, rfl, ⟨rfl, (Or.inr ⟨by omega, tc_0.trans (x_nmn5 (b := b) (f := fZ) (e := uZ) (by omega)).symm⟩)⟩⟩
    ·
      refine V_iconst 0 d_Tape_isName_26 (by decide) ?_
      exact V_zret rfl (by decide) d_Tape_isName_27 ⟨0, rfl, ⟨rfl, (if q : qZ = 1 then Or.inr ⟨q, tc_0.trans (x_nmn5 (b := b) (f := fZ) (e := uZ) (by omega)).symm⟩ else Or.inl ⟨q, rfl⟩)⟩⟩
abbrev q_Tape_isNameX_6 (h : Hp) (b : Int → Int) (s : Int32) (sZ : Int) (q : Int32) (qZ : Int) (f : Int32) (fZ : Int) (u : Int32) (uZ : Int) : Option Value → Hp → Prop := pInt (fun r h' => h = h' ∧ (qZ ≠ 1 ∧ r.toInt = 0 ∨ qZ = 1 ∧ r.toInt = x_nm6 b fZ uZ))
set_option maxRecDepth 100000 in
theorem c_Tape_isNameX_6 (h : Hp) (b : Int → Int) (hI : Inv h) (s : Int32) (sZ : Int) (sE : s.toInt = sZ) (sK : h.1 89 1 = s) (q : Int32) (qZ : Int) (qE : q.toInt = qZ) (qK : h.1 89 2 = q) (f : Int32) (fZ : Int) (fE : f.toInt = fZ) (fK : h.1 89 3 = f) (u : Int32) (uZ : Int) (uE : u.toInt = uZ) (uK : h.1 89 4 = u) (hy0 : TP h 90 sZ b) (hy1 : 0 ≤ fZ ∧ fZ ≤ uZ ∧ uZ ≤ sZ ∧ sZ ≤ 160) : Ct y_Tape_isName b_Tape_isName 4 (some .boolean) 4 85 [.ref 89, .ref (135 + 6)] h (q_Tape_isNameX_6 h b s sZ q qZ f fZ u uZ) := by
  refine ct_ow R_Tape [some (.ref 89), some (.ref (135 + 6)), none, none] rfl (by decide) rfl (Nat.le_of_ble_eq_true rfl) ?_
  have f0 : fr [] h h := fr_rf
  have g1 : 0 ≤ sZ ∧ sZ ≤ 160 := inv_at hI sE sK.symm rfl
  have g2 : 0 ≤ fZ ∧ fZ ≤ 160 := inv_at hI fE fK.symm rfl
  have g3 : 0 ≤ uZ ∧ uZ ≤ 160 := inv_at hI uE uK.symm rfl
  have sH : 6 < 14 := by decide
  refine V_aload_n 1 d_Tape_isName_0 rfl rfl ?_
  refine N_callVSI [] [] cv_Tape_41 sH rfl d_Tape_isName_1 rfl (Nat.le_of_ble_eq_true rfl) (by decide) (by decide) (c_Str_length h 6 sH) (fun z4 h5 z4Z z4E p6 => ?_)
  obtain ⟨eh5, p6⟩ := p6
  subst eh5
  rw [z4E] at p6
  obtain rfl : z4 = 4 := (ti_eq z4E (show (4 : Int32).toInt = 4 from rfl)).mpr (p6.trans rfl)
  refine V_istore_n 2 [some (.ref 89), some (.ref (135 + 6)), some (.int 4), none] d_Tape_isName_4 rfl (by decide) rfl rfl ?_
  refine V_aload_n 0 d_Tape_isName_5 rfl rfl ?_
  refine N_getK fa_Tape_25 sk_89 rfl d_Tape_isName_6 qK ?_
  refine V_iconst 1 d_Tape_isName_9 (by decide) ?_
  refine V_icmp_ne 26 qE tc_1 d_Tape_isName_10 (by decide) (fun c7 => ?_) (fun c7 => ?_)
  ·
    refine V_iconst 0 d_Tape_isName_26 (by decide) ?_
    exact V_zret rfl (by decide) d_Tape_isName_27 ⟨0, rfl, ⟨rfl, (if q : qZ = 1 then Or.inr ⟨q, tc_0.trans (x_nmn6 (b := b) (f := fZ) (e := uZ) (by omega)).symm⟩ else Or.inl ⟨q, rfl⟩)⟩⟩
  ·
    refine V_aload_n 0 d_Tape_isName_13 rfl rfl ?_
    refine N_getK fa_Tape_15 sk_89 rfl d_Tape_isName_14 uK ?_
    refine V_aload_n 0 d_Tape_isName_17 rfl rfl ?_
    refine N_getK fa_Tape_19 sk_89 rfl d_Tape_isName_18 fK ?_
    refine V_isub uE fE (by omega) d_Tape_isName_21 (fun z8 z8e z8E => ?_)
    refine V_iload_n 2 d_Tape_isName_22 rfl rfl ?_
    refine V_icmp_eq 28 z8E tc_4 d_Tape_isName_23 (by decide) (fun c9 => ?_) (fun c9 => ?_)
    ·
      refine V_iconst 0 d_Tape_isName_28 (by decide) ?_
      refine V_istore_n 3 [some (.ref 89), some (.ref (135 + 6)), some (.int 4), some (.int 0)] d_Tape_isName_29 rfl (by decide) rfl rfl ?_
      refine V_iload_n 3 d_Tape_isName_30 rfl rfl ?_
      refine V_iload_n 2 d_Tape_isName_31 rfl rfl ?_
      refine V_icmp_ge 62 tc_0 tc_4 d_Tape_isName_32 (by decide) (fun c10 => ?_) (fun c10 => ?_)
      ·
        exact absurd c10 (by decide)
      ·
        refine V_aload_n 0 d_Tape_isName_35 rfl rfl ?_
        refine V_getR fa_Tape_9 sk_89 rfl d_Tape_isName_36 ?_
        refine V_aload_n 0 d_Tape_isName_39 rfl rfl ?_
        refine N_getK fa_Tape_19 sk_89 rfl d_Tape_isName_40 fK ?_
        refine V_iload_n 3 d_Tape_isName_43 rfl rfl ?_
        refine V_iadd fE tc_0 (by omega) d_Tape_isName_44 (fun z11 z11e z11E => ?_)
        refine N_bald sk_90 z11E (by omega) d_Tape_isName_45 (fun z12 z12Z z12E z12e => ?_)
        have g13 : z12Z = b (fZ + 0) := TP_rd (TP_fr f0 (fun _ => rfl) hy0) (by omega) z12E z12e
        refine V_aload_n 1 d_Tape_isName_46 rfl rfl ?_
        refine V_iload_n 3 d_Tape_isName_47 rfl rfl ?_
        refine N_callVSI [.int 0] [.int z12] cv_Tape_47 sH rfl d_Tape_isName_48 rfl (Nat.le_of_ble_eq_true rfl) (by decide) (by decide) (c_Str_charAt h 6 sH 0 0 tc_0 (by decide)) (fun z14 h15 z14Z z14E p16 => ?_)
        obtain ⟨eh15, p16⟩ := p16
        subst eh15
        obtain rfl : z14 = 99 := p16.trans rfl
        refine V_icmp_eq 56 z12E tc_99 d_Tape_isName_51 (by decide) (fun c17 => ?_) (fun c17 => ?_)
        ·
          refine V_iinc (v := 1) 3 [some (.ref 89), some (.ref (135 + 6)), some (.int 4), some (.int 1)] d_Tape_isName_56 rfl (by decide) (by decide) rfl rfl ?_
          refine V_goto 30 d_Tape_isName_59 (by decide) ?_
          refine V_iload_n 3 d_Tape_isName_30 rfl rfl ?_
          refine V_iload_n 2 d_Tape_isName_31 rfl rfl ?_
          refine V_icmp_ge 62 tc_1 tc_4 d_Tape_isName_32 (by decide) (fun c19 => ?_) (fun c19 => ?_)
          ·
            exact absurd c19 (by decide)
          ·
            refine V_aload_n 0 d_Tape_isName_35 rfl rfl ?_
            refine V_getR fa_Tape_9 sk_89 rfl d_Tape_isName_36 ?_
            refine V_aload_n 0 d_Tape_isName_39 rfl rfl ?_
            refine N_getK fa_Tape_19 sk_89 rfl d_Tape_isName_40 fK ?_
            refine V_iload_n 3 d_Tape_isName_43 rfl rfl ?_
            refine V_iadd fE tc_1 (by omega) d_Tape_isName_44 (fun z20 z20e z20E => ?_)
            refine N_bald sk_90 z20E (by omega) d_Tape_isName_45 (fun z21 z21Z z21E z21e => ?_)
            have g22 : z21Z = b (fZ + 1) := TP_rd (TP_fr f0 (fun _ => rfl) hy0) (by omega) z21E z21e
            refine V_aload_n 1 d_Tape_isName_46 rfl rfl ?_
            refine V_iload_n 3 d_Tape_isName_47 rfl rfl ?_
            refine N_callVSI [.int 1] [.int z21] cv_Tape_47 sH rfl d_Tape_isName_48 rfl (Nat.le_of_ble_eq_true rfl) (by decide) (by decide) (c_Str_charAt h 6 sH 1 1 tc_1 (by decide)) (fun z23 h24 z23Z z23E p25 => ?_)
            obtain ⟨eh24, p25⟩ := p25
            subst eh24
            obtain rfl : z23 = 111 := p25.trans rfl
            refine V_icmp_eq 56 z21E tc_111 d_Tape_isName_51 (by decide) (fun c26 => ?_) (fun c26 => ?_)
            ·
              refine V_iinc (v := 2) 3 [some (.ref 89), some (.ref (135 + 6)), some (.int 4), some (.int 2)] d_Tape_isName_56 rfl (by decide) (by decide) rfl rfl ?_
              refine V_goto 30 d_Tape_isName_59 (by decide) ?_
              refine V_iload_n 3 d_Tape_isName_30 rfl rfl ?_
              refine V_iload_n 2 d_Tape_isName_31 rfl rfl ?_
              refine V_icmp_ge 62 tc_2 tc_4 d_Tape_isName_32 (by decide) (fun c28 => ?_) (fun c28 => ?_)
              ·
                exact absurd c28 (by decide)
              ·
                refine V_aload_n 0 d_Tape_isName_35 rfl rfl ?_
                refine V_getR fa_Tape_9 sk_89 rfl d_Tape_isName_36 ?_
                refine V_aload_n 0 d_Tape_isName_39 rfl rfl ?_
                refine N_getK fa_Tape_19 sk_89 rfl d_Tape_isName_40 fK ?_
                refine V_iload_n 3 d_Tape_isName_43 rfl rfl ?_
                refine V_iadd fE tc_2 (by omega) d_Tape_isName_44 (fun z29 z29e z29E => ?_)
                refine N_bald sk_90 z29E (by omega) d_Tape_isName_45 (fun z30 z30Z z30E z30e => ?_)
                have g31 : z30Z = b (fZ + 2) := TP_rd (TP_fr f0 (fun _ => rfl) hy0) (by omega) z30E z30e
                refine V_aload_n 1 d_Tape_isName_46 rfl rfl ?_
                refine V_iload_n 3 d_Tape_isName_47 rfl rfl ?_
                refine N_callVSI [.int 2] [.int z30] cv_Tape_47 sH rfl d_Tape_isName_48 rfl (Nat.le_of_ble_eq_true rfl) (by decide) (by decide) (c_Str_charAt h 6 sH 2 2 tc_2 (by decide)) (fun z32 h33 z32Z z32E p34 => ?_)
                obtain ⟨eh33, p34⟩ := p34
                subst eh33
                obtain rfl : z32 = 115 := p34.trans rfl
                refine V_icmp_eq 56 z30E tc_115 d_Tape_isName_51 (by decide) (fun c35 => ?_) (fun c35 => ?_)
                ·
                  refine V_iinc (v := 3) 3 [some (.ref 89), some (.ref (135 + 6)), some (.int 4), some (.int 3)] d_Tape_isName_56 rfl (by decide) (by decide) rfl rfl ?_
                  refine V_goto 30 d_Tape_isName_59 (by decide) ?_
                  refine V_iload_n 3 d_Tape_isName_30 rfl rfl ?_
                  refine V_iload_n 2 d_Tape_isName_31 rfl rfl ?_
                  refine V_icmp_ge 62 tc_3 tc_4 d_Tape_isName_32 (by decide) (fun c37 => ?_) (fun c37 => ?_)
                  ·
                    exact absurd c37 (by decide)
                  ·
                    refine V_aload_n 0 d_Tape_isName_35 rfl rfl ?_
                    refine V_getR fa_Tape_9 sk_89 rfl d_Tape_isName_36 ?_
                    refine V_aload_n 0 d_Tape_isName_39 rfl rfl ?_
                    refine N_getK fa_Tape_19 sk_89 rfl d_Tape_isName_40 fK ?_
                    refine V_iload_n 3 d_Tape_isName_43 rfl rfl ?_
                    refine V_iadd fE tc_3 (by omega) d_Tape_isName_44 (fun z38 z38e z38E => ?_)
                    refine N_bald sk_90 z38E (by omega) d_Tape_isName_45 (fun z39 z39Z z39E z39e => ?_)
                    have g40 : z39Z = b (fZ + 3) := TP_rd (TP_fr f0 (fun _ => rfl) hy0) (by omega) z39E z39e
                    refine V_aload_n 1 d_Tape_isName_46 rfl rfl ?_
                    refine V_iload_n 3 d_Tape_isName_47 rfl rfl ?_
                    refine N_callVSI [.int 3] [.int z39] cv_Tape_47 sH rfl d_Tape_isName_48 rfl (Nat.le_of_ble_eq_true rfl) (by decide) (by decide) (c_Str_charAt h 6 sH 3 3 tc_3 (by decide)) (fun z41 h42 z41Z z41E p43 => ?_)
                    obtain ⟨eh42, p43⟩ := p43
                    subst eh42
                    obtain rfl : z41 = 116 := p43.trans rfl
                    refine V_icmp_eq 56 z39E tc_116 d_Tape_isName_51 (by decide) (fun c44 => ?_) (fun c44 => ?_)
                    ·
                      refine V_iinc (v := 4) 3 [some (.ref 89), some (.ref (135 + 6)), some (.int 4), some (.int 4)] d_Tape_isName_56 rfl (by decide) (by decide) rfl rfl ?_
                      refine V_goto 30 d_Tape_isName_59 (by decide) ?_
                      refine V_iload_n 3 d_Tape_isName_30 rfl rfl ?_
                      refine V_iload_n 2 d_Tape_isName_31 rfl rfl ?_
                      refine V_icmp_ge 62 tc_4 tc_4 d_Tape_isName_32 (by decide) (fun c46 => ?_) (fun c46 => ?_)
                      ·
                        refine V_iconst 1 d_Tape_isName_62 (by decide) ?_
                        exact V_zret rfl (by decide) d_Tape_isName_63 ⟨1, rfl, ⟨rfl, (Or.inr ⟨by omega, tc_1.trans (x_nmy6 (b := b) (f := fZ) (e := uZ) (by omega)).symm⟩)⟩⟩
                      ·
                        exact absurd c46 (by decide)
                    ·
                      refine V_iconst 0 d_Tape_isName_54 (by decide) ?_
                      exact V_zret rfl (by decide) d_Tape_isName_55 ⟨0, rfl, ⟨rfl, (Or.inr ⟨by omega, tc_0.trans (x_nmn6 (b := b) (f := fZ) (e := uZ) (by omega)).symm⟩)⟩⟩
                ·
                  refine V_iconst 0 d_Tape_isName_54 (by decide) ?_
                  exact V_zret rfl (by decide) d_Tape_isName_55 ⟨0, rfl, ⟨rfl, (Or.inr ⟨by omega, tc_0.trans (x_nmn6 (b := b) (f := fZ) (e := uZ) (by omega)).symm⟩)⟩⟩
            ·
              refine V_iconst 0 d_Tape_isName_54 (by decide) ?_
              exact V_zret rfl (by decide) d_Tape_isName_55 ⟨0, rfl, ⟨rfl, (Or.inr ⟨by omega, tc_0.trans (x_nmn6 (b := b) (f := fZ) (e := uZ) (by omega)).symm⟩)⟩⟩
        ·
          refine V_iconst 0 d_Tape_isName_54 (by decide) ?_
          exact V_zret rfl (by decide) d_Tape_isName_55 ⟨0, rfl, ⟨rfl, (Or.inr ⟨by omega, tc_0.trans (x_nmn6 (b := b) (f := fZ) (e := uZ) (by omega)).symm⟩)⟩⟩
    ·
      refine V_iconst 0 d_Tape_isName_26 (by decide) ?_
      exact V_zret rfl (by decide) d_Tape_isName_27 ⟨0, rfl, ⟨rfl, (if q : qZ = 1 then Or.inr ⟨q, tc_0.trans (x_nmn6 (b := b) (f := fZ) (e := uZ) (by omega)).symm⟩ else Or.inl ⟨q, rfl⟩)⟩⟩
abbrev q_Tape_isNameX_7 (h : Hp) (b : Int → Int) (s : Int32) (sZ : Int) (q : Int32) (qZ : Int) (f : Int32) (fZ : Int) (u : Int32) (uZ : Int) : Option Value → Hp → Prop := pInt (fun r h' => h = h' ∧ (qZ ≠ 1 ∧ r.toInt = 0 ∨ qZ = 1 ∧ r.toInt = x_nm7 b fZ uZ))
set_option maxRecDepth 100000 in
theorem c_Tape_isNameX_7 (h : Hp) (b : Int → Int) (hI : Inv h) (s : Int32) (sZ : Int) (sE : s.toInt = sZ) (sK : h.1 89 1 = s) (q : Int32) (qZ : Int) (qE : q.toInt = qZ) (qK : h.1 89 2 = q) (f : Int32) (fZ : Int) (fE : f.toInt = fZ) (fK : h.1 89 3 = f) (u : Int32) (uZ : Int) (uE : u.toInt = uZ) (uK : h.1 89 4 = u) (hy0 : TP h 90 sZ b) (hy1 : 0 ≤ fZ ∧ fZ ≤ uZ ∧ uZ ≤ sZ ∧ sZ ≤ 160) : Ct y_Tape_isName b_Tape_isName 4 (some .boolean) 4 85 [.ref 89, .ref (135 + 7)] h (q_Tape_isNameX_7 h b s sZ q qZ f fZ u uZ) := by
  refine ct_ow R_Tape [some (.ref 89), some (.ref (135 + 7)), none, none] rfl (by decide) rfl (Nat.le_of_ble_eq_true rfl) ?_
  have f0 : fr [] h h := fr_rf
  have g1 : 0 ≤ sZ ∧ sZ ≤ 160 := inv_at hI sE sK.symm rfl
  have g2 : 0 ≤ fZ ∧ fZ ≤ 160 := inv_at hI fE fK.symm rfl
  have g3 : 0 ≤ uZ ∧ uZ ≤ 160 := inv_at hI uE uK.symm rfl
  have sH : 7 < 14 := by decide
  refine V_aload_n 1 d_Tape_isName_0 rfl rfl ?_
  refine N_callVSI [] [] cv_Tape_41 sH rfl d_Tape_isName_1 rfl (Nat.le_of_ble_eq_true rfl) (by decide) (by decide) (c_Str_length h 7 sH) (fun z4 h5 z4Z z4E p6 => ?_)
  obtain ⟨eh5, p6⟩ := p6
  subst eh5
  rw [z4E] at p6
  obtain rfl : z4 = 5 := (ti_eq z4E (show (5 : Int32).toInt = 5 from rfl)).mpr (p6.trans rfl)
  refine V_istore_n 2 [some (.ref 89), some (.ref (135 + 7)), some (.int 5), none] d_Tape_isName_4 rfl (by decide) rfl rfl ?_
  refine V_aload_n 0 d_Tape_isName_5 rfl rfl ?_
  refine N_getK fa_Tape_25 sk_89 rfl d_Tape_isName_6 qK ?_
  refine V_iconst 1 d_Tape_isName_9 (by decide) ?_
  refine V_icmp_ne 26 qE tc_1 d_Tape_isName_10 (by decide) (fun c7 => ?_) (fun c7 => ?_)
  ·
    refine V_iconst 0 d_Tape_isName_26 (by decide) ?_
    exact V_zret rfl (by decide) d_Tape_isName_27 ⟨0, rfl, ⟨rfl, (if q : qZ = 1 then Or.inr ⟨q, tc_0.trans (x_nmn7 (b := b) (f := fZ) (e := uZ) (by omega)).symm⟩ else Or.inl ⟨q, rfl⟩)⟩⟩
  ·
    refine V_aload_n 0 d_Tape_isName_13 rfl rfl ?_
    refine N_getK fa_Tape_15 sk_89 rfl d_Tape_isName_14 uK ?_
    refine V_aload_n 0 d_Tape_isName_17 rfl rfl ?_
    refine N_getK fa_Tape_19 sk_89 rfl d_Tape_isName_18 fK ?_
    refine V_isub uE fE (by omega) d_Tape_isName_21 (fun z8 z8e z8E => ?_)
    refine V_iload_n 2 d_Tape_isName_22 rfl rfl ?_
    refine V_icmp_eq 28 z8E tc_5 d_Tape_isName_23 (by decide) (fun c9 => ?_) (fun c9 => ?_)
    ·
      refine V_iconst 0 d_Tape_isName_28 (by decide) ?_
      refine V_istore_n 3 [some (.ref 89), some (.ref (135 + 7)), some (.int 5), some (.int 0)] d_Tape_isName_29 rfl (by decide) rfl rfl ?_
      refine V_iload_n 3 d_Tape_isName_30 rfl rfl ?_
      refine V_iload_n 2 d_Tape_isName_31 rfl rfl ?_
      refine V_icmp_ge 62 tc_0 tc_5 d_Tape_isName_32 (by decide) (fun c10 => ?_) (fun c10 => ?_)
      ·
        exact absurd c10 (by decide)
      ·
        refine V_aload_n 0 d_Tape_isName_35 rfl rfl ?_
        refine V_getR fa_Tape_9 sk_89 rfl d_Tape_isName_36 ?_
        refine V_aload_n 0 d_Tape_isName_39 rfl rfl ?_
        refine N_getK fa_Tape_19 sk_89 rfl d_Tape_isName_40 fK ?_
        refine V_iload_n 3 d_Tape_isName_43 rfl rfl ?_
        refine V_iadd fE tc_0 (by omega) d_Tape_isName_44 (fun z11 z11e z11E => ?_)
        refine N_bald sk_90 z11E (by omega) d_Tape_isName_45 (fun z12 z12Z z12E z12e => ?_)
        have g13 : z12Z = b (fZ + 0) := TP_rd (TP_fr f0 (fun _ => rfl) hy0) (by omega) z12E z12e
        refine V_aload_n 1 d_Tape_isName_46 rfl rfl ?_
        refine V_iload_n 3 d_Tape_isName_47 rfl rfl ?_
        refine N_callVSI [.int 0] [.int z12] cv_Tape_47 sH rfl d_Tape_isName_48 rfl (Nat.le_of_ble_eq_true rfl) (by decide) (by decide) (c_Str_charAt h 7 sH 0 0 tc_0 (by decide)) (fun z14 h15 z14Z z14E p16 => ?_)
        obtain ⟨eh15, p16⟩ := p16
        subst eh15
        obtain rfl : z14 = 112 := p16.trans rfl
        refine V_icmp_eq 56 z12E tc_112 d_Tape_isName_51 (by decide) (fun c17 => ?_) (fun c17 => ?_)
        ·
          refine V_iinc (v := 1) 3 [some (.ref 89), some (.ref (135 + 7)), some (.int 5), some (.int 1)] d_Tape_isName_56 rfl (by decide) (by decide) rfl rfl ?_
          refine V_goto 30 d_Tape_isName_59 (by decide) ?_
          refine V_iload_n 3 d_Tape_isName_30 rfl rfl ?_
          refine V_iload_n 2 d_Tape_isName_31 rfl rfl ?_
          refine V_icmp_ge 62 tc_1 tc_5 d_Tape_isName_32 (by decide) (fun c19 => ?_) (fun c19 => ?_)
          ·
            exact absurd c19 (by decide)
          ·
            refine V_aload_n 0 d_Tape_isName_35 rfl rfl ?_
            refine V_getR fa_Tape_9 sk_89 rfl d_Tape_isName_36 ?_
            refine V_aload_n 0 d_Tape_isName_39 rfl rfl ?_
            refine N_getK fa_Tape_19 sk_89 rfl d_Tape_isName_40 fK ?_
            refine V_iload_n 3 d_Tape_isName_43 rfl rfl ?_
            refine V_iadd fE tc_1 (by omega) d_Tape_isName_44 (fun z20 z20e z20E => ?_)
            refine N_bald sk_90 z20E (by omega) d_Tape_isName_45 (fun z21 z21Z z21E z21e => ?_)
            have g22 : z21Z = b (fZ + 1) := TP_rd (TP_fr f0 (fun _ => rfl) hy0) (by omega) z21E z21e
            refine V_aload_n 1 d_Tape_isName_46 rfl rfl ?_
            refine V_iload_n 3 d_Tape_isName_47 rfl rfl ?_
            refine N_callVSI [.int 1] [.int z21] cv_Tape_47 sH rfl d_Tape_isName_48 rfl (Nat.le_of_ble_eq_true rfl) (by decide) (by decide) (c_Str_charAt h 7 sH 1 1 tc_1 (by decide)) (fun z23 h24 z23Z z23E p25 => ?_)
            obtain ⟨eh24, p25⟩ := p25
            subst eh24
            obtain rfl : z23 = 114 := p25.trans rfl
            refine V_icmp_eq 56 z21E tc_114 d_Tape_isName_51 (by decide) (fun c26 => ?_) (fun c26 => ?_)
            ·
              refine V_iinc (v := 2) 3 [some (.ref 89), some (.ref (135 + 7)), some (.int 5), some (.int 2)] d_Tape_isName_56 rfl (by decide) (by decide) rfl rfl ?_
              refine V_goto 30 d_Tape_isName_59 (by decide) ?_
              refine V_iload_n 3 d_Tape_isName_30 rfl rfl ?_
              refine V_iload_n 2 d_Tape_isName_31 rfl rfl ?_
              refine V_icmp_ge 62 tc_2 tc_5 d_Tape_isName_32 (by decide) (fun c28 => ?_) (fun c28 => ?_)
              ·
                exact absurd c28 (by decide)
              ·
                refine V_aload_n 0 d_Tape_isName_35 rfl rfl ?_
                refine V_getR fa_Tape_9 sk_89 rfl d_Tape_isName_36 ?_
                refine V_aload_n 0 d_Tape_isName_39 rfl rfl ?_
                refine N_getK fa_Tape_19 sk_89 rfl d_Tape_isName_40 fK ?_
                refine V_iload_n 3 d_Tape_isName_43 rfl rfl ?_
                refine V_iadd fE tc_2 (by omega) d_Tape_isName_44 (fun z29 z29e z29E => ?_)
                refine N_bald sk_90 z29E (by omega) d_Tape_isName_45 (fun z30 z30Z z30E z30e => ?_)
                have g31 : z30Z = b (fZ + 2) := TP_rd (TP_fr f0 (fun _ => rfl) hy0) (by omega) z30E z30e
                refine V_aload_n 1 d_Tape_isName_46 rfl rfl ?_
                refine V_iload_n 3 d_Tape_isName_47 rfl rfl ?_
                refine N_callVSI [.int 2] [.int z30] cv_Tape_47 sH rfl d_Tape_isName_48 rfl (Nat.le_of_ble_eq_true rfl) (by decide) (by decide) (c_Str_charAt h 7 sH 2 2 tc_2 (by decide)) (fun z32 h33 z32Z z32E p34 => ?_)
                obtain ⟨eh33, p34⟩ := p34
                subst eh33
                obtain rfl : z32 = 105 := p34.trans rfl
                refine V_icmp_eq 56 z30E tc_105 d_Tape_isName_51 (by decide) (fun c35 => ?_) (fun c35 => ?_)
                ·
                  refine V_iinc (v := 3) 3 [some (.ref 89), some (.ref (135 + 7)), some (.int 5), some (.int 3)] d_Tape_isName_56 rfl (by decide) (by decide) rfl rfl ?_
                  refine V_goto 30 d_Tape_isName_59 (by decide) ?_
                  refine V_iload_n 3 d_Tape_isName_30 rfl rfl ?_
                  refine V_iload_n 2 d_Tape_isName_31 rfl rfl ?_
                  refine V_icmp_ge 62 tc_3 tc_5 d_Tape_isName_32 (by decide) (fun c37 => ?_) (fun c37 => ?_)
                  ·
                    exact absurd c37 (by decide)
                  ·
                    refine V_aload_n 0 d_Tape_isName_35 rfl rfl ?_
                    refine V_getR fa_Tape_9 sk_89 rfl d_Tape_isName_36 ?_
                    refine V_aload_n 0 d_Tape_isName_39 rfl rfl ?_
                    refine N_getK fa_Tape_19 sk_89 rfl d_Tape_isName_40 fK ?_
                    refine V_iload_n 3 d_Tape_isName_43 rfl rfl ?_
                    refine V_iadd fE tc_3 (by omega) d_Tape_isName_44 (fun z38 z38e z38E => ?_)
                    refine N_bald sk_90 z38E (by omega) d_Tape_isName_45 (fun z39 z39Z z39E z39e => ?_)
                    have g40 : z39Z = b (fZ + 3) := TP_rd (TP_fr f0 (fun _ => rfl) hy0) (by omega) z39E z39e
                    refine V_aload_n 1 d_Tape_isName_46 rfl rfl ?_
                    refine V_iload_n 3 d_Tape_isName_47 rfl rfl ?_
                    refine N_callVSI [.int 3] [.int z39] cv_Tape_47 sH rfl d_Tape_isName_48 rfl (Nat.le_of_ble_eq_true rfl) (by decide) (by decide) (c_Str_charAt h 7 sH 3 3 tc_3 (by decide)) (fun z41 h42 z41Z z41E p43 => ?_)
                    obtain ⟨eh42, p43⟩ := p43
                    subst eh42
                    obtain rfl : z41 = 99 := p43.trans rfl
                    refine V_icmp_eq 56 z39E tc_99 d_Tape_isName_51 (by decide) (fun c44 => ?_) (fun c44 => ?_)
                    ·
                      refine V_iinc (v := 4) 3 [some (.ref 89), some (.ref (135 + 7)), some (.int 5), some (.int 4)] d_Tape_isName_56 rfl (by decide) (by decide) rfl rfl ?_
                      refine V_goto 30 d_Tape_isName_59 (by decide) ?_
                      refine V_iload_n 3 d_Tape_isName_30 rfl rfl ?_
                      refine V_iload_n 2 d_Tape_isName_31 rfl rfl ?_
                      refine V_icmp_ge 62 tc_4 tc_5 d_Tape_isName_32 (by decide) (fun c46 => ?_) (fun c46 => ?_)
                      ·
                        exact absurd c46 (by decide)
                      ·
                        refine V_aload_n 0 d_Tape_isName_35 rfl rfl ?_
                        refine V_getR fa_Tape_9 sk_89 rfl d_Tape_isName_36 ?_
                        refine V_aload_n 0 d_Tape_isName_39 rfl rfl ?_
                        refine N_getK fa_Tape_19 sk_89 rfl d_Tape_isName_40 fK ?_
                        refine V_iload_n 3 d_Tape_isName_43 rfl rfl ?_
                        refine V_iadd fE tc_4 (by omega) d_Tape_isName_44 (fun z47 z47e z47E => ?_)
                        refine N_bald sk_90 z47E (by omega) d_Tape_isName_45 (fun z48 z48Z z48E z48e => ?_)
                        have g49 : z48Z = b (fZ + 4) := TP_rd (TP_fr f0 (fun _ => rfl) hy0) (by omega) z48E z48e
                        refine V_aload_n 1 d_Tape_isName_46 rfl rfl ?_
                        refine V_iload_n 3 d_Tape_isName_47 rfl rfl ?_
                        refine N_callVSI [.int 4] [.int z48] cv_Tape_47 sH rfl d_Tape_isName_48 rfl (Nat.le_of_ble_eq_true rfl) (by decide) (by decide) (c_Str_charAt h 7 sH 4 4 tc_4 (by decide)) (fun z50 h51 z50Z z50E p52 => ?_)
                        obtain ⟨eh51, p52⟩ := p52
                        subst eh51
                        obtain rfl : z50 = 101 := p52.trans rfl
                        refine V_icmp_eq 56 z48E tc_101 d_Tape_isName_51 (by decide) (fun c53 => ?_) (fun c53 => ?_)
                        ·
                          refine V_iinc (v := 5) 3 [some (.ref 89), some (.ref (135 + 7)), some (.int 5), some (.int 5)] d_Tape_isName_56 rfl (by decide) (by decide) rfl rfl ?_
                          refine V_goto 30 d_Tape_isName_59 (by decide) ?_
                          refine V_iload_n 3 d_Tape_isName_30 rfl rfl ?_
                          refine V_iload_n 2 d_Tape_isName_31 rfl rfl ?_
                          refine V_icmp_ge 62 tc_5 tc_5 d_Tape_isName_32 (by decide) (fun c55 => ?_) (fun c55 => ?_)
                          ·
                            refine V_iconst 1 d_Tape_isName_62 (by decide) ?_
                            exact V_zret rfl (by decide) d_Tape_isName_63 ⟨1, rfl, ⟨rfl, (Or.inr ⟨by omega, tc_1.trans (x_nmy7 (b := b) (f := fZ) (e := uZ) (by omega)).symm⟩)⟩⟩
                          ·
                            exact absurd c55 (by decide)
                        ·
                          refine V_iconst 0 d_Tape_isName_54 (by decide) ?_
                          exact V_zret rfl (by decide) d_Tape_isName_55 ⟨0, rfl, ⟨rfl, (Or.inr ⟨by omega, tc_0.trans (x_nmn7 (b := b) (f := fZ) (e := uZ) (by omega)).symm⟩)⟩⟩
                    ·
                      refine V_iconst 0 d_Tape_isName_54 (by decide) ?_
                      exact V_zret rfl (by decide) d_Tape_isName_55 ⟨0, rfl, ⟨rfl, (Or.inr ⟨by omega, tc_0.trans (x_nmn7 (b := b) (f := fZ) (e := uZ) (by omega)).symm⟩)⟩⟩
                ·
                  refine V_iconst 0 d_Tape_isName_54 (by decide) ?_
                  exact V_zret rfl (by decide) d_Tape_isName_55 ⟨0, rfl, ⟨rfl, (Or.inr ⟨by omega, tc_0.trans (x_nmn7 (b := b) (f := fZ) (e := uZ) (by omega)).symm⟩)⟩⟩
            ·
              refine V_iconst 0 d_Tape_isName_54 (by decide) ?_
              exact V_zret rfl (by decide) d_Tape_isName_55 ⟨0, rfl, ⟨rfl, (Or.inr ⟨by omega, tc_0.trans (x_nmn7 (b := b) (f := fZ) (e := uZ) (by omega)).symm⟩)⟩⟩
        ·
          refine V_iconst 0 d_Tape_isName_54 (by decide) ?_
          exact V_zret rfl (by decide) d_Tape_isName_55 ⟨0, rfl, ⟨rfl, (Or.inr ⟨by omega, tc_0.trans (x_nmn7 (b := b) (f := fZ) (e := uZ) (by omega)).symm⟩)⟩⟩
    ·
      refine V_iconst 0 d_Tape_isName_26 (by decide) ?_
      exact V_zret rfl (by decide) d_Tape_isName_27 ⟨0, rfl, ⟨rfl, (if q : qZ = 1 then Or.inr ⟨q, tc_0.trans (x_nmn7 (b := b) (f := fZ) (e := uZ) (by omega)).symm⟩ else Or.inl ⟨q, rfl⟩)⟩⟩
abbrev q_Tape_isNameX_8 (h : Hp) (b : Int → Int) (s : Int32) (sZ : Int) (q : Int32) (qZ : Int) (f : Int32) (fZ : Int) (u : Int32) (uZ : Int) : Option Value → Hp → Prop := pInt (fun r h' => h = h' ∧ (qZ ≠ 1 ∧ r.toInt = 0 ∨ qZ = 1 ∧ r.toInt = x_nm8 b fZ uZ))
set_option maxRecDepth 100000 in
theorem c_Tape_isNameX_8 (h : Hp) (b : Int → Int) (hI : Inv h) (s : Int32) (sZ : Int) (sE : s.toInt = sZ) (sK : h.1 89 1 = s) (q : Int32) (qZ : Int) (qE : q.toInt = qZ) (qK : h.1 89 2 = q) (f : Int32) (fZ : Int) (fE : f.toInt = fZ) (fK : h.1 89 3 = f) (u : Int32) (uZ : Int) (uE : u.toInt = uZ) (uK : h.1 89 4 = u) (hy0 : TP h 90 sZ b) (hy1 : 0 ≤ fZ ∧ fZ ≤ uZ ∧ uZ ≤ sZ ∧ sZ ≤ 160) : Ct y_Tape_isName b_Tape_isName 4 (some .boolean) 4 85 [.ref 89, .ref (135 + 8)] h (q_Tape_isNameX_8 h b s sZ q qZ f fZ u uZ) := by
  refine ct_ow R_Tape [some (.ref 89), some (.ref (135 + 8)), none, none] rfl (by decide) rfl (Nat.le_of_ble_eq_true rfl) ?_
  have f0 : fr [] h h := fr_rf
  have g1 : 0 ≤ sZ ∧ sZ ≤ 160 := inv_at hI sE sK.symm rfl
  have g2 : 0 ≤ fZ ∧ fZ ≤ 160 := inv_at hI fE fK.symm rfl
  have g3 : 0 ≤ uZ ∧ uZ ≤ 160 := inv_at hI uE uK.symm rfl
  have sH : 8 < 14 := by decide
  refine V_aload_n 1 d_Tape_isName_0 rfl rfl ?_
  refine N_callVSI [] [] cv_Tape_41 sH rfl d_Tape_isName_1 rfl (Nat.le_of_ble_eq_true rfl) (by decide) (by decide) (c_Str_length h 8 sH) (fun z4 h5 z4Z z4E p6 => ?_)
  obtain ⟨eh5, p6⟩ := p6
  subst eh5
  rw [z4E] at p6
  obtain rfl : z4 = 3 := (ti_eq z4E (show (3 : Int32).toInt = 3 from rfl)).mpr (p6.trans rfl)
  refine V_istore_n 2 [some (.ref 89), some (.ref (135 + 8)), some (.int 3), none] d_Tape_isName_4 rfl (by decide) rfl rfl ?_
  refine V_aload_n 0 d_Tape_isName_5 rfl rfl ?_
  refine N_getK fa_Tape_25 sk_89 rfl d_Tape_isName_6 qK ?_
  refine V_iconst 1 d_Tape_isName_9 (by decide) ?_
  refine V_icmp_ne 26 qE tc_1 d_Tape_isName_10 (by decide) (fun c7 => ?_) (fun c7 => ?_)
  ·
    refine V_iconst 0 d_Tape_isName_26 (by decide) ?_
    exact V_zret rfl (by decide) d_Tape_isName_27 ⟨0, rfl, ⟨rfl, (if q : qZ = 1 then Or.inr ⟨q, tc_0.trans (x_nmn8 (b := b) (f := fZ) (e := uZ) (by omega)).symm⟩ else Or.inl ⟨q, rfl⟩)⟩⟩
  ·
    refine V_aload_n 0 d_Tape_isName_13 rfl rfl ?_
    refine N_getK fa_Tape_15 sk_89 rfl d_Tape_isName_14 uK ?_
    refine V_aload_n 0 d_Tape_isName_17 rfl rfl ?_
    refine N_getK fa_Tape_19 sk_89 rfl d_Tape_isName_18 fK ?_
    refine V_isub uE fE (by omega) d_Tape_isName_21 (fun z8 z8e z8E => ?_)
    refine V_iload_n 2 d_Tape_isName_22 rfl rfl ?_
    refine V_icmp_eq 28 z8E tc_3 d_Tape_isName_23 (by decide) (fun c9 => ?_) (fun c9 => ?_)
    ·
      refine V_iconst 0 d_Tape_isName_28 (by decide) ?_
      refine V_istore_n 3 [some (.ref 89), some (.ref (135 + 8)), some (.int 3), some (.int 0)] d_Tape_isName_29 rfl (by decide) rfl rfl ?_
      refine V_iload_n 3 d_Tape_isName_30 rfl rfl ?_
      refine V_iload_n 2 d_Tape_isName_31 rfl rfl ?_
      refine V_icmp_ge 62 tc_0 tc_3 d_Tape_isName_32 (by decide) (fun c10 => ?_) (fun c10 => ?_)
      ·
        exact absurd c10 (by decide)
      ·
        refine V_aload_n 0 d_Tape_isName_35 rfl rfl ?_
        refine V_getR fa_Tape_9 sk_89 rfl d_Tape_isName_36 ?_
        refine V_aload_n 0 d_Tape_isName_39 rfl rfl ?_
        refine N_getK fa_Tape_19 sk_89 rfl d_Tape_isName_40 fK ?_
        refine V_iload_n 3 d_Tape_isName_43 rfl rfl ?_
        refine V_iadd fE tc_0 (by omega) d_Tape_isName_44 (fun z11 z11e z11E => ?_)
        refine N_bald sk_90 z11E (by omega) d_Tape_isName_45 (fun z12 z12Z z12E z12e => ?_)
        have g13 : z12Z = b (fZ + 0) := TP_rd (TP_fr f0 (fun _ => rfl) hy0) (by omega) z12E z12e
        refine V_aload_n 1 d_Tape_isName_46 rfl rfl ?_
        refine V_iload_n 3 d_Tape_isName_47 rfl rfl ?_
        refine N_callVSI [.int 0] [.int z12] cv_Tape_47 sH rfl d_Tape_isName_48 rfl (Nat.le_of_ble_eq_true rfl) (by decide) (by decide) (c_Str_charAt h 8 sH 0 0 tc_0 (by decide)) (fun z14 h15 z14Z z14E p16 => ?_)
        obtain ⟨eh15, p16⟩ := p16
        subst eh15
        obtain rfl : z14 = 114 := p16.trans rfl
        refine V_icmp_eq 56 z12E tc_114 d_Tape_isName_51 (by decide) (fun c17 => ?_) (fun c17 => ?_)
        ·
          refine V_iinc (v := 1) 3 [some (.ref 89), some (.ref (135 + 8)), some (.int 3), some (.int 1)] d_Tape_isName_56 rfl (by decide) (by decide) rfl rfl ?_
          refine V_goto 30 d_Tape_isName_59 (by decide) ?_
          refine V_iload_n 3 d_Tape_isName_30 rfl rfl ?_
          refine V_iload_n 2 d_Tape_isName_31 rfl rfl ?_
          refine V_icmp_ge 62 tc_1 tc_3 d_Tape_isName_32 (by decide) (fun c19 => ?_) (fun c19 => ?_)
          ·
            exact absurd c19 (by decide)
          ·
            refine V_aload_n 0 d_Tape_isName_35 rfl rfl ?_
            refine V_getR fa_Tape_9 sk_89 rfl d_Tape_isName_36 ?_
            refine V_aload_n 0 d_Tape_isName_39 rfl rfl ?_
            refine N_getK fa_Tape_19 sk_89 rfl d_Tape_isName_40 fK ?_
            refine V_iload_n 3 d_Tape_isName_43 rfl rfl ?_
            refine V_iadd fE tc_1 (by omega) d_Tape_isName_44 (fun z20 z20e z20E => ?_)
            refine N_bald sk_90 z20E (by omega) d_Tape_isName_45 (fun z21 z21Z z21E z21e => ?_)
            have g22 : z21Z = b (fZ + 1) := TP_rd (TP_fr f0 (fun _ => rfl) hy0) (by omega) z21E z21e
            refine V_aload_n 1 d_Tape_isName_46 rfl rfl ?_
            refine V_iload_n 3 d_Tape_isName_47 rfl rfl ?_
            refine N_callVSI [.int 1] [.int z21] cv_Tape_47 sH rfl d_Tape_isName_48 rfl (Nat.le_of_ble_eq_true rfl) (by decide) (by decide) (c_Str_charAt h 8 sH 1 1 tc_1 (by decide)) (fun z23 h24 z23Z z23E p25 => ?_)
            obtain ⟨eh24, p25⟩ := p25
            subst eh24
            obtain rfl : z23 = 111 := p25.trans rfl
            refine V_icmp_eq 56 z21E tc_111 d_Tape_isName_51 (by decide) (fun c26 => ?_) (fun c26 => ?_)
            ·
              refine V_iinc (v := 2) 3 [some (.ref 89), some (.ref (135 + 8)), some (.int 3), some (.int 2)] d_Tape_isName_56 rfl (by decide) (by decide) rfl rfl ?_
              refine V_goto 30 d_Tape_isName_59 (by decide) ?_
              refine V_iload_n 3 d_Tape_isName_30 rfl rfl ?_
              refine V_iload_n 2 d_Tape_isName_31 rfl rfl ?_
              refine V_icmp_ge 62 tc_2 tc_3 d_Tape_isName_32 (by decide) (fun c28 => ?_) (fun c28 => ?_)
              ·
                exact absurd c28 (by decide)
              ·
                refine V_aload_n 0 d_Tape_isName_35 rfl rfl ?_
                refine V_getR fa_Tape_9 sk_89 rfl d_Tape_isName_36 ?_
                refine V_aload_n 0 d_Tape_isName_39 rfl rfl ?_
                refine N_getK fa_Tape_19 sk_89 rfl d_Tape_isName_40 fK ?_
                refine V_iload_n 3 d_Tape_isName_43 rfl rfl ?_
                refine V_iadd fE tc_2 (by omega) d_Tape_isName_44 (fun z29 z29e z29E => ?_)
                refine N_bald sk_90 z29E (by omega) d_Tape_isName_45 (fun z30 z30Z z30E z30e => ?_)
                have g31 : z30Z = b (fZ + 2) := TP_rd (TP_fr f0 (fun _ => rfl) hy0) (by omega) z30E z30e
                refine V_aload_n 1 d_Tape_isName_46 rfl rfl ?_
                refine V_iload_n 3 d_Tape_isName_47 rfl rfl ?_
                refine N_callVSI [.int 2] [.int z30] cv_Tape_47 sH rfl d_Tape_isName_48 rfl (Nat.le_of_ble_eq_true rfl) (by decide) (by decide) (c_Str_charAt h 8 sH 2 2 tc_2 (by decide)) (fun z32 h33 z32Z z32E p34 => ?_)
                obtain ⟨eh33, p34⟩ := p34
                subst eh33
                obtain rfl : z32 = 100 := p34.trans rfl
                refine V_icmp_eq 56 z30E tc_100 d_Tape_isName_51 (by decide) (fun c35 => ?_) (fun c35 => ?_)
                ·
                  refine V_iinc (v := 3) 3 [some (.ref 89), some (.ref (135 + 8)), some (.int 3), some (.int 3)] d_Tape_isName_56 rfl (by decide) (by decide) rfl rfl ?_
                  refine V_goto 30 d_Tape_isName_59 (by decide) ?_
                  refine V_iload_n 3 d_Tape_isName_30 rfl rfl ?_
                  refine V_iload_n 2 d_Tape_isName_31 rfl rfl ?_
                  refine V_icmp_ge 62 tc_3 tc_3 d_Tape_isName_32 (by decide) (fun c37 => ?_) (fun c37 => ?_)
                  ·
                    refine V_iconst 1 d_Tape_isName_62 (by decide) ?_
                    exact V_zret rfl (by decide) d_Tape_isName_63 ⟨1, rfl, ⟨rfl, (Or.inr ⟨by omega, tc_1.trans (x_nmy8 (b := b) (f := fZ) (e := uZ) (by omega)).symm⟩)⟩⟩
                  ·
                    exact absurd c37 (by decide)
                ·
                  refine V_iconst 0 d_Tape_isName_54 (by decide) ?_
                  exact V_zret rfl (by decide) d_Tape_isName_55 ⟨0, rfl, ⟨rfl, (Or.inr ⟨by omega, tc_0.trans (x_nmn8 (b := b) (f := fZ) (e := uZ) (by omega)).symm⟩)⟩⟩
            ·
              refine V_iconst 0 d_Tape_isName_54 (by decide) ?_
              exact V_zret rfl (by decide) d_Tape_isName_55 ⟨0, rfl, ⟨rfl, (Or.inr ⟨by omega, tc_0.trans (x_nmn8 (b := b) (f := fZ) (e := uZ) (by omega)).symm⟩)⟩⟩
        ·
          refine V_iconst 0 d_Tape_isName_54 (by decide) ?_
          exact V_zret rfl (by decide) d_Tape_isName_55 ⟨0, rfl, ⟨rfl, (Or.inr ⟨by omega, tc_0.trans (x_nmn8 (b := b) (f := fZ) (e := uZ) (by omega)).symm⟩)⟩⟩
    ·
      refine V_iconst 0 d_Tape_isName_26 (by decide) ?_
      exact V_zret rfl (by decide) d_Tape_isName_27 ⟨0, rfl, ⟨rfl, (if q : qZ = 1 then Or.inr ⟨q, tc_0.trans (x_nmn8 (b := b) (f := fZ) (e := uZ) (by omega)).symm⟩ else Or.inl ⟨q, rfl⟩)⟩⟩
abbrev q_Tape_isNameX_9 (h : Hp) (b : Int → Int) (s : Int32) (sZ : Int) (q : Int32) (qZ : Int) (f : Int32) (fZ : Int) (u : Int32) (uZ : Int) : Option Value → Hp → Prop := pInt (fun r h' => h = h' ∧ (qZ ≠ 1 ∧ r.toInt = 0 ∨ qZ = 1 ∧ r.toInt = x_nm9 b fZ uZ))
set_option maxRecDepth 100000 in
theorem c_Tape_isNameX_9 (h : Hp) (b : Int → Int) (hI : Inv h) (s : Int32) (sZ : Int) (sE : s.toInt = sZ) (sK : h.1 89 1 = s) (q : Int32) (qZ : Int) (qE : q.toInt = qZ) (qK : h.1 89 2 = q) (f : Int32) (fZ : Int) (fE : f.toInt = fZ) (fK : h.1 89 3 = f) (u : Int32) (uZ : Int) (uE : u.toInt = uZ) (uK : h.1 89 4 = u) (hy0 : TP h 90 sZ b) (hy1 : 0 ≤ fZ ∧ fZ ≤ uZ ∧ uZ ≤ sZ ∧ sZ ≤ 160) : Ct y_Tape_isName b_Tape_isName 4 (some .boolean) 4 85 [.ref 89, .ref (135 + 9)] h (q_Tape_isNameX_9 h b s sZ q qZ f fZ u uZ) := by
  refine ct_ow R_Tape [some (.ref 89), some (.ref (135 + 9)), none, none] rfl (by decide) rfl (Nat.le_of_ble_eq_true rfl) ?_
  have f0 : fr [] h h := fr_rf
  have g1 : 0 ≤ sZ ∧ sZ ≤ 160 := inv_at hI sE sK.symm rfl
  have g2 : 0 ≤ fZ ∧ fZ ≤ 160 := inv_at hI fE fK.symm rfl
  have g3 : 0 ≤ uZ ∧ uZ ≤ 160 := inv_at hI uE uK.symm rfl
  have sH : 9 < 14 := by decide
  refine V_aload_n 1 d_Tape_isName_0 rfl rfl ?_
  refine N_callVSI [] [] cv_Tape_41 sH rfl d_Tape_isName_1 rfl (Nat.le_of_ble_eq_true rfl) (by decide) (by decide) (c_Str_length h 9 sH) (fun z4 h5 z4Z z4E p6 => ?_)
  obtain ⟨eh5, p6⟩ := p6
  subst eh5
  rw [z4E] at p6
  obtain rfl : z4 = 3 := (ti_eq z4E (show (3 : Int32).toInt = 3 from rfl)).mpr (p6.trans rfl)
  refine V_istore_n 2 [some (.ref 89), some (.ref (135 + 9)), some (.int 3), none] d_Tape_isName_4 rfl (by decide) rfl rfl ?_
  refine V_aload_n 0 d_Tape_isName_5 rfl rfl ?_
  refine N_getK fa_Tape_25 sk_89 rfl d_Tape_isName_6 qK ?_
  refine V_iconst 1 d_Tape_isName_9 (by decide) ?_
  refine V_icmp_ne 26 qE tc_1 d_Tape_isName_10 (by decide) (fun c7 => ?_) (fun c7 => ?_)
  ·
    refine V_iconst 0 d_Tape_isName_26 (by decide) ?_
    exact V_zret rfl (by decide) d_Tape_isName_27 ⟨0, rfl, ⟨rfl, (if q : qZ = 1 then Or.inr ⟨q, tc_0.trans (x_nmn9 (b := b) (f := fZ) (e := uZ) (by omega)).symm⟩ else Or.inl ⟨q, rfl⟩)⟩⟩
  ·
    refine V_aload_n 0 d_Tape_isName_13 rfl rfl ?_
    refine N_getK fa_Tape_15 sk_89 rfl d_Tape_isName_14 uK ?_
    refine V_aload_n 0 d_Tape_isName_17 rfl rfl ?_
    refine N_getK fa_Tape_19 sk_89 rfl d_Tape_isName_18 fK ?_
    refine V_isub uE fE (by omega) d_Tape_isName_21 (fun z8 z8e z8E => ?_)
    refine V_iload_n 2 d_Tape_isName_22 rfl rfl ?_
    refine V_icmp_eq 28 z8E tc_3 d_Tape_isName_23 (by decide) (fun c9 => ?_) (fun c9 => ?_)
    ·
      refine V_iconst 0 d_Tape_isName_28 (by decide) ?_
      refine V_istore_n 3 [some (.ref 89), some (.ref (135 + 9)), some (.int 3), some (.int 0)] d_Tape_isName_29 rfl (by decide) rfl rfl ?_
      refine V_iload_n 3 d_Tape_isName_30 rfl rfl ?_
      refine V_iload_n 2 d_Tape_isName_31 rfl rfl ?_
      refine V_icmp_ge 62 tc_0 tc_3 d_Tape_isName_32 (by decide) (fun c10 => ?_) (fun c10 => ?_)
      ·
        exact absurd c10 (by decide)
      ·
        refine V_aload_n 0 d_Tape_isName_35 rfl rfl ?_
        refine V_getR fa_Tape_9 sk_89 rfl d_Tape_isName_36 ?_
        refine V_aload_n 0 d_Tape_isName_39 rfl rfl ?_
        refine N_getK fa_Tape_19 sk_89 rfl d_Tape_isName_40 fK ?_
        refine V_iload_n 3 d_Tape_isName_43 rfl rfl ?_
        refine V_iadd fE tc_0 (by omega) d_Tape_isName_44 (fun z11 z11e z11E => ?_)
        refine N_bald sk_90 z11E (by omega) d_Tape_isName_45 (fun z12 z12Z z12E z12e => ?_)
        have g13 : z12Z = b (fZ + 0) := TP_rd (TP_fr f0 (fun _ => rfl) hy0) (by omega) z12E z12e
        refine V_aload_n 1 d_Tape_isName_46 rfl rfl ?_
        refine V_iload_n 3 d_Tape_isName_47 rfl rfl ?_
        refine N_callVSI [.int 0] [.int z12] cv_Tape_47 sH rfl d_Tape_isName_48 rfl (Nat.le_of_ble_eq_true rfl) (by decide) (by decide) (c_Str_charAt h 9 sH 0 0 tc_0 (by decide)) (fun z14 h15 z14Z z14E p16 => ?_)
        obtain ⟨eh15, p16⟩ := p16
        subst eh15
        obtain rfl : z14 = 111 := p16.trans rfl
        refine V_icmp_eq 56 z12E tc_111 d_Tape_isName_51 (by decide) (fun c17 => ?_) (fun c17 => ?_)
        ·
          refine V_iinc (v := 1) 3 [some (.ref 89), some (.ref (135 + 9)), some (.int 3), some (.int 1)] d_Tape_isName_56 rfl (by decide) (by decide) rfl rfl ?_
          refine V_goto 30 d_Tape_isName_59 (by decide) ?_
          refine V_iload_n 3 d_Tape_isName_30 rfl rfl ?_
          refine V_iload_n 2 d_Tape_isName_31 rfl rfl ?_
          refine V_icmp_ge 62 tc_1 tc_3 d_Tape_isName_32 (by decide) (fun c19 => ?_) (fun c19 => ?_)
          ·
            exact absurd c19 (by decide)
          ·
            refine V_aload_n 0 d_Tape_isName_35 rfl rfl ?_
            refine V_getR fa_Tape_9 sk_89 rfl d_Tape_isName_36 ?_
            refine V_aload_n 0 d_Tape_isName_39 rfl rfl ?_
            refine N_getK fa_Tape_19 sk_89 rfl d_Tape_isName_40 fK ?_
            refine V_iload_n 3 d_Tape_isName_43 rfl rfl ?_
            refine V_iadd fE tc_1 (by omega) d_Tape_isName_44 (fun z20 z20e z20E => ?_)
            refine N_bald sk_90 z20E (by omega) d_Tape_isName_45 (fun z21 z21Z z21E z21e => ?_)
            have g22 : z21Z = b (fZ + 1) := TP_rd (TP_fr f0 (fun _ => rfl) hy0) (by omega) z21E z21e
            refine V_aload_n 1 d_Tape_isName_46 rfl rfl ?_
            refine V_iload_n 3 d_Tape_isName_47 rfl rfl ?_
            refine N_callVSI [.int 1] [.int z21] cv_Tape_47 sH rfl d_Tape_isName_48 rfl (Nat.le_of_ble_eq_true rfl) (by decide) (by decide) (c_Str_charAt h 9 sH 1 1 tc_1 (by decide)) (fun z23 h24 z23Z z23E p25 => ?_)
            obtain ⟨eh24, p25⟩ := p25
            subst eh24
            obtain rfl : z23 = 119 := p25.trans rfl
            refine V_icmp_eq 56 z21E tc_119 d_Tape_isName_51 (by decide) (fun c26 => ?_) (fun c26 => ?_)
            ·
              refine V_iinc (v := 2) 3 [some (.ref 89), some (.ref (135 + 9)), some (.int 3), some (.int 2)] d_Tape_isName_56 rfl (by decide) (by decide) rfl rfl ?_
              refine V_goto 30 d_Tape_isName_59 (by decide) ?_
              refine V_iload_n 3 d_Tape_isName_30 rfl rfl ?_
              refine V_iload_n 2 d_Tape_isName_31 rfl rfl ?_
              refine V_icmp_ge 62 tc_2 tc_3 d_Tape_isName_32 (by decide) (fun c28 => ?_) (fun c28 => ?_)
              ·
                exact absurd c28 (by decide)
              ·
                refine V_aload_n 0 d_Tape_isName_35 rfl rfl ?_
                refine V_getR fa_Tape_9 sk_89 rfl d_Tape_isName_36 ?_
                refine V_aload_n 0 d_Tape_isName_39 rfl rfl ?_
                refine N_getK fa_Tape_19 sk_89 rfl d_Tape_isName_40 fK ?_
                refine V_iload_n 3 d_Tape_isName_43 rfl rfl ?_
                refine V_iadd fE tc_2 (by omega) d_Tape_isName_44 (fun z29 z29e z29E => ?_)
                refine N_bald sk_90 z29E (by omega) d_Tape_isName_45 (fun z30 z30Z z30E z30e => ?_)
                have g31 : z30Z = b (fZ + 2) := TP_rd (TP_fr f0 (fun _ => rfl) hy0) (by omega) z30E z30e
                refine V_aload_n 1 d_Tape_isName_46 rfl rfl ?_
                refine V_iload_n 3 d_Tape_isName_47 rfl rfl ?_
                refine N_callVSI [.int 2] [.int z30] cv_Tape_47 sH rfl d_Tape_isName_48 rfl (Nat.le_of_ble_eq_true rfl) (by decide) (by decide) (c_Str_charAt h 9 sH 2 2 tc_2 (by decide)) (fun z32 h33 z32Z z32E p34 => ?_)
                obtain ⟨eh33, p34⟩ := p34
                subst eh33
                obtain rfl : z32 = 101 := p34.trans rfl
                refine V_icmp_eq 56 z30E tc_101 d_Tape_isName_51 (by decide) (fun c35 => ?_) (fun c35 => ?_)
                ·
                  refine V_iinc (v := 3) 3 [some (.ref 89), some (.ref (135 + 9)), some (.int 3), some (.int 3)] d_Tape_isName_56 rfl (by decide) (by decide) rfl rfl ?_
                  refine V_goto 30 d_Tape_isName_59 (by decide) ?_
                  refine V_iload_n 3 d_Tape_isName_30 rfl rfl ?_
                  refine V_iload_n 2 d_Tape_isName_31 rfl rfl ?_
                  refine V_icmp_ge 62 tc_3 tc_3 d_Tape_isName_32 (by decide) (fun c37 => ?_) (fun c37 => ?_)
                  ·
                    refine V_iconst 1 d_Tape_isName_62 (by decide) ?_
                    exact V_zret rfl (by decide) d_Tape_isName_63 ⟨1, rfl, ⟨rfl, (Or.inr ⟨by omega, tc_1.trans (x_nmy9 (b := b) (f := fZ) (e := uZ) (by omega)).symm⟩)⟩⟩
                  ·
                    exact absurd c37 (by decide)
                ·
                  refine V_iconst 0 d_Tape_isName_54 (by decide) ?_
                  exact V_zret rfl (by decide) d_Tape_isName_55 ⟨0, rfl, ⟨rfl, (Or.inr ⟨by omega, tc_0.trans (x_nmn9 (b := b) (f := fZ) (e := uZ) (by omega)).symm⟩)⟩⟩
            ·
              refine V_iconst 0 d_Tape_isName_54 (by decide) ?_
              exact V_zret rfl (by decide) d_Tape_isName_55 ⟨0, rfl, ⟨rfl, (Or.inr ⟨by omega, tc_0.trans (x_nmn9 (b := b) (f := fZ) (e := uZ) (by omega)).symm⟩)⟩⟩
        ·
          refine V_iconst 0 d_Tape_isName_54 (by decide) ?_
          exact V_zret rfl (by decide) d_Tape_isName_55 ⟨0, rfl, ⟨rfl, (Or.inr ⟨by omega, tc_0.trans (x_nmn9 (b := b) (f := fZ) (e := uZ) (by omega)).symm⟩)⟩⟩
    ·
      refine V_iconst 0 d_Tape_isName_26 (by decide) ?_
      exact V_zret rfl (by decide) d_Tape_isName_27 ⟨0, rfl, ⟨rfl, (if q : qZ = 1 then Or.inr ⟨q, tc_0.trans (x_nmn9 (b := b) (f := fZ) (e := uZ) (by omega)).symm⟩ else Or.inl ⟨q, rfl⟩)⟩⟩
abbrev q_Tape_isNameX_10 (h : Hp) (b : Int → Int) (s : Int32) (sZ : Int) (q : Int32) (qZ : Int) (f : Int32) (fZ : Int) (u : Int32) (uZ : Int) : Option Value → Hp → Prop := pInt (fun r h' => h = h' ∧ (qZ ≠ 1 ∧ r.toInt = 0 ∨ qZ = 1 ∧ r.toInt = x_nm10 b fZ uZ))
set_option maxRecDepth 100000 in
theorem c_Tape_isNameX_10 (h : Hp) (b : Int → Int) (hI : Inv h) (s : Int32) (sZ : Int) (sE : s.toInt = sZ) (sK : h.1 89 1 = s) (q : Int32) (qZ : Int) (qE : q.toInt = qZ) (qK : h.1 89 2 = q) (f : Int32) (fZ : Int) (fE : f.toInt = fZ) (fK : h.1 89 3 = f) (u : Int32) (uZ : Int) (uE : u.toInt = uZ) (uK : h.1 89 4 = u) (hy0 : TP h 90 sZ b) (hy1 : 0 ≤ fZ ∧ fZ ≤ uZ ∧ uZ ≤ sZ ∧ sZ ≤ 160) : Ct y_Tape_isName b_Tape_isName 4 (some .boolean) 4 85 [.ref 89, .ref (135 + 10)] h (q_Tape_isNameX_10 h b s sZ q qZ f fZ u uZ) := by
  refine ct_ow R_Tape [some (.ref 89), some (.ref (135 + 10)), none, none] rfl (by decide) rfl (Nat.le_of_ble_eq_true rfl) ?_
  have f0 : fr [] h h := fr_rf
  have g1 : 0 ≤ sZ ∧ sZ ≤ 160 := inv_at hI sE sK.symm rfl
  have g2 : 0 ≤ fZ ∧ fZ ≤ 160 := inv_at hI fE fK.symm rfl
  have g3 : 0 ≤ uZ ∧ uZ ≤ 160 := inv_at hI uE uK.symm rfl
  have sH : 10 < 14 := by decide
  refine V_aload_n 1 d_Tape_isName_0 rfl rfl ?_
  refine N_callVSI [] [] cv_Tape_41 sH rfl d_Tape_isName_1 rfl (Nat.le_of_ble_eq_true rfl) (by decide) (by decide) (c_Str_length h 10 sH) (fun z4 h5 z4Z z4E p6 => ?_)
  obtain ⟨eh5, p6⟩ := p6
  subst eh5
  rw [z4E] at p6
  obtain rfl : z4 = 5 := (ti_eq z4E (show (5 : Int32).toInt = 5 from rfl)).mpr (p6.trans rfl)
  refine V_istore_n 2 [some (.ref 89), some (.ref (135 + 10)), some (.int 5), none] d_Tape_isName_4 rfl (by decide) rfl rfl ?_
  refine V_aload_n 0 d_Tape_isName_5 rfl rfl ?_
  refine N_getK fa_Tape_25 sk_89 rfl d_Tape_isName_6 qK ?_
  refine V_iconst 1 d_Tape_isName_9 (by decide) ?_
  refine V_icmp_ne 26 qE tc_1 d_Tape_isName_10 (by decide) (fun c7 => ?_) (fun c7 => ?_)
  ·
    refine V_iconst 0 d_Tape_isName_26 (by decide) ?_
    exact V_zret rfl (by decide) d_Tape_isName_27 ⟨0, rfl, ⟨rfl, (if q : qZ = 1 then Or.inr ⟨q, tc_0.trans (x_nmn10 (b := b) (f := fZ) (e := uZ) (by omega)).symm⟩ else Or.inl ⟨q, rfl⟩)⟩⟩
  ·
    refine V_aload_n 0 d_Tape_isName_13 rfl rfl ?_
    refine N_getK fa_Tape_15 sk_89 rfl d_Tape_isName_14 uK ?_
    refine V_aload_n 0 d_Tape_isName_17 rfl rfl ?_
    refine N_getK fa_Tape_19 sk_89 rfl d_Tape_isName_18 fK ?_
    refine V_isub uE fE (by omega) d_Tape_isName_21 (fun z8 z8e z8E => ?_)
    refine V_iload_n 2 d_Tape_isName_22 rfl rfl ?_
    refine V_icmp_eq 28 z8E tc_5 d_Tape_isName_23 (by decide) (fun c9 => ?_) (fun c9 => ?_)
    ·
      refine V_iconst 0 d_Tape_isName_28 (by decide) ?_
      refine V_istore_n 3 [some (.ref 89), some (.ref (135 + 10)), some (.int 5), some (.int 0)] d_Tape_isName_29 rfl (by decide) rfl rfl ?_
      refine V_iload_n 3 d_Tape_isName_30 rfl rfl ?_
      refine V_iload_n 2 d_Tape_isName_31 rfl rfl ?_
      refine V_icmp_ge 62 tc_0 tc_5 d_Tape_isName_32 (by decide) (fun c10 => ?_) (fun c10 => ?_)
      ·
        exact absurd c10 (by decide)
      ·
        refine V_aload_n 0 d_Tape_isName_35 rfl rfl ?_
        refine V_getR fa_Tape_9 sk_89 rfl d_Tape_isName_36 ?_
        refine V_aload_n 0 d_Tape_isName_39 rfl rfl ?_
        refine N_getK fa_Tape_19 sk_89 rfl d_Tape_isName_40 fK ?_
        refine V_iload_n 3 d_Tape_isName_43 rfl rfl ?_
        refine V_iadd fE tc_0 (by omega) d_Tape_isName_44 (fun z11 z11e z11E => ?_)
        refine N_bald sk_90 z11E (by omega) d_Tape_isName_45 (fun z12 z12Z z12E z12e => ?_)
        have g13 : z12Z = b (fZ + 0) := TP_rd (TP_fr f0 (fun _ => rfl) hy0) (by omega) z12E z12e
        refine V_aload_n 1 d_Tape_isName_46 rfl rfl ?_
        refine V_iload_n 3 d_Tape_isName_47 rfl rfl ?_
        refine N_callVSI [.int 0] [.int z12] cv_Tape_47 sH rfl d_Tape_isName_48 rfl (Nat.le_of_ble_eq_true rfl) (by decide) (by decide) (c_Str_charAt h 10 sH 0 0 tc_0 (by decide)) (fun z14 h15 z14Z z14E p16 => ?_)
        obtain ⟨eh15, p16⟩ := p16
        subst eh15
        obtain rfl : z14 = 119 := p16.trans rfl
        refine V_icmp_eq 56 z12E tc_119 d_Tape_isName_51 (by decide) (fun c17 => ?_) (fun c17 => ?_)
        ·
          refine V_iinc (v := 1) 3 [some (.ref 89), some (.ref (135 + 10)), some (.int 5), some (.int 1)] d_Tape_isName_56 rfl (by decide) (by decide) rfl rfl ?_
          refine V_goto 30 d_Tape_isName_59 (by decide) ?_
          refine V_iload_n 3 d_Tape_isName_30 rfl rfl ?_
          refine V_iload_n 2 d_Tape_isName_31 rfl rfl ?_
          refine V_icmp_ge 62 tc_1 tc_5 d_Tape_isName_32 (by decide) (fun c19 => ?_) (fun c19 => ?_)
          ·
            exact absurd c19 (by decide)
          ·
            refine V_aload_n 0 d_Tape_isName_35 rfl rfl ?_
            refine V_getR fa_Tape_9 sk_89 rfl d_Tape_isName_36 ?_
            refine V_aload_n 0 d_Tape_isName_39 rfl rfl ?_
            refine N_getK fa_Tape_19 sk_89 rfl d_Tape_isName_40 fK ?_
            refine V_iload_n 3 d_Tape_isName_43 rfl rfl ?_
            refine V_iadd fE tc_1 (by omega) d_Tape_isName_44 (fun z20 z20e z20E => ?_)
            refine N_bald sk_90 z20E (by omega) d_Tape_isName_45 (fun z21 z21Z z21E z21e => ?_)
            have g22 : z21Z = b (fZ + 1) := TP_rd (TP_fr f0 (fun _ => rfl) hy0) (by omega) z21E z21e
            refine V_aload_n 1 d_Tape_isName_46 rfl rfl ?_
            refine V_iload_n 3 d_Tape_isName_47 rfl rfl ?_
            refine N_callVSI [.int 1] [.int z21] cv_Tape_47 sH rfl d_Tape_isName_48 rfl (Nat.le_of_ble_eq_true rfl) (by decide) (by decide) (c_Str_charAt h 10 sH 1 1 tc_1 (by decide)) (fun z23 h24 z23Z z23E p25 => ?_)
            obtain ⟨eh24, p25⟩ := p25
            subst eh24
            obtain rfl : z23 = 97 := p25.trans rfl
            refine V_icmp_eq 56 z21E tc_97 d_Tape_isName_51 (by decide) (fun c26 => ?_) (fun c26 => ?_)
            ·
              refine V_iinc (v := 2) 3 [some (.ref 89), some (.ref (135 + 10)), some (.int 5), some (.int 2)] d_Tape_isName_56 rfl (by decide) (by decide) rfl rfl ?_
              refine V_goto 30 d_Tape_isName_59 (by decide) ?_
              refine V_iload_n 3 d_Tape_isName_30 rfl rfl ?_
              refine V_iload_n 2 d_Tape_isName_31 rfl rfl ?_
              refine V_icmp_ge 62 tc_2 tc_5 d_Tape_isName_32 (by decide) (fun c28 => ?_) (fun c28 => ?_)
              ·
                exact absurd c28 (by decide)
              ·
                refine V_aload_n 0 d_Tape_isName_35 rfl rfl ?_
                refine V_getR fa_Tape_9 sk_89 rfl d_Tape_isName_36 ?_
                refine V_aload_n 0 d_Tape_isName_39 rfl rfl ?_
                refine N_getK fa_Tape_19 sk_89 rfl d_Tape_isName_40 fK ?_
                refine V_iload_n 3 d_Tape_isName_43 rfl rfl ?_
                refine V_iadd fE tc_2 (by omega) d_Tape_isName_44 (fun z29 z29e z29E => ?_)
                refine N_bald sk_90 z29E (by omega) d_Tape_isName_45 (fun z30 z30Z z30E z30e => ?_)
                have g31 : z30Z = b (fZ + 2) := TP_rd (TP_fr f0 (fun _ => rfl) hy0) (by omega) z30E z30e
                refine V_aload_n 1 d_Tape_isName_46 rfl rfl ?_
                refine V_iload_n 3 d_Tape_isName_47 rfl rfl ?_
                refine N_callVSI [.int 2] [.int z30] cv_Tape_47 sH rfl d_Tape_isName_48 rfl (Nat.le_of_ble_eq_true rfl) (by decide) (by decide) (c_Str_charAt h 10 sH 2 2 tc_2 (by decide)) (fun z32 h33 z32Z z32E p34 => ?_)
                obtain ⟨eh33, p34⟩ := p34
                subst eh33
                obtain rfl : z32 = 116 := p34.trans rfl
                refine V_icmp_eq 56 z30E tc_116 d_Tape_isName_51 (by decide) (fun c35 => ?_) (fun c35 => ?_)
                ·
                  refine V_iinc (v := 3) 3 [some (.ref 89), some (.ref (135 + 10)), some (.int 5), some (.int 3)] d_Tape_isName_56 rfl (by decide) (by decide) rfl rfl ?_
                  refine V_goto 30 d_Tape_isName_59 (by decide) ?_
                  refine V_iload_n 3 d_Tape_isName_30 rfl rfl ?_
                  refine V_iload_n 2 d_Tape_isName_31 rfl rfl ?_
                  refine V_icmp_ge 62 tc_3 tc_5 d_Tape_isName_32 (by decide) (fun c37 => ?_) (fun c37 => ?_)
                  ·
                    exact absurd c37 (by decide)
                  ·
                    refine V_aload_n 0 d_Tape_isName_35 rfl rfl ?_
                    refine V_getR fa_Tape_9 sk_89 rfl d_Tape_isName_36 ?_
                    refine V_aload_n 0 d_Tape_isName_39 rfl rfl ?_
                    refine N_getK fa_Tape_19 sk_89 rfl d_Tape_isName_40 fK ?_
                    refine V_iload_n 3 d_Tape_isName_43 rfl rfl ?_
                    refine V_iadd fE tc_3 (by omega) d_Tape_isName_44 (fun z38 z38e z38E => ?_)
                    refine N_bald sk_90 z38E (by omega) d_Tape_isName_45 (fun z39 z39Z z39E z39e => ?_)
                    have g40 : z39Z = b (fZ + 3) := TP_rd (TP_fr f0 (fun _ => rfl) hy0) (by omega) z39E z39e
                    refine V_aload_n 1 d_Tape_isName_46 rfl rfl ?_
                    refine V_iload_n 3 d_Tape_isName_47 rfl rfl ?_
                    refine N_callVSI [.int 3] [.int z39] cv_Tape_47 sH rfl d_Tape_isName_48 rfl (Nat.le_of_ble_eq_true rfl) (by decide) (by decide) (c_Str_charAt h 10 sH 3 3 tc_3 (by decide)) (fun z41 h42 z41Z z41E p43 => ?_)
                    obtain ⟨eh42, p43⟩ := p43
                    subst eh42
                    obtain rfl : z41 = 101 := p43.trans rfl
                    refine V_icmp_eq 56 z39E tc_101 d_Tape_isName_51 (by decide) (fun c44 => ?_) (fun c44 => ?_)
                    ·
                      refine V_iinc (v := 4) 3 [some (.ref 89), some (.ref (135 + 10)), some (.int 5), some (.int 4)] d_Tape_isName_56 rfl (by decide) (by decide) rfl rfl ?_
                      refine V_goto 30 d_Tape_isName_59 (by decide) ?_
                      refine V_iload_n 3 d_Tape_isName_30 rfl rfl ?_
                      refine V_iload_n 2 d_Tape_isName_31 rfl rfl ?_
                      refine V_icmp_ge 62 tc_4 tc_5 d_Tape_isName_32 (by decide) (fun c46 => ?_) (fun c46 => ?_)
                      ·
                        exact absurd c46 (by decide)
                      ·
                        refine V_aload_n 0 d_Tape_isName_35 rfl rfl ?_
                        refine V_getR fa_Tape_9 sk_89 rfl d_Tape_isName_36 ?_
                        refine V_aload_n 0 d_Tape_isName_39 rfl rfl ?_
                        refine N_getK fa_Tape_19 sk_89 rfl d_Tape_isName_40 fK ?_
                        refine V_iload_n 3 d_Tape_isName_43 rfl rfl ?_
                        refine V_iadd fE tc_4 (by omega) d_Tape_isName_44 (fun z47 z47e z47E => ?_)
                        refine N_bald sk_90 z47E (by omega) d_Tape_isName_45 (fun z48 z48Z z48E z48e => ?_)
                        have g49 : z48Z = b (fZ + 4) := TP_rd (TP_fr f0 (fun _ => rfl) hy0) (by omega) z48E z48e
                        refine V_aload_n 1 d_Tape_isName_46 rfl rfl ?_
                        refine V_iload_n 3 d_Tape_isName_47 rfl rfl ?_
                        refine N_callVSI [.int 4] [.int z48] cv_Tape_47 sH rfl d_Tape_isName_48 rfl (Nat.le_of_ble_eq_true rfl) (by decide) (by decide) (c_Str_charAt h 10 sH 4 4 tc_4 (by decide)) (fun z50 h51 z50Z z50E p52 => ?_)
                        obtain ⟨eh51, p52⟩ := p52
                        subst eh51
                        obtain rfl : z50 = 114 := p52.trans rfl
                        refine V_icmp_eq 56 z48E tc_114 d_Tape_isName_51 (by decide) (fun c53 => ?_) (fun c53 => ?_)
                        ·
                          refine V_iinc (v := 5) 3 [some (.ref 89), some (.ref (135 + 10)), some (.int 5), some (.int 5)] d_Tape_isName_56 rfl (by decide) (by decide) rfl rfl ?_
                          refine V_goto 30 d_Tape_isName_59 (by decide) ?_
                          refine V_iload_n 3 d_Tape_isName_30 rfl rfl ?_
                          refine V_iload_n 2 d_Tape_isName_31 rfl rfl ?_
                          refine V_icmp_ge 62 tc_5 tc_5 d_Tape_isName_32 (by decide) (fun c55 => ?_) (fun c55 => ?_)
                          ·
                            refine V_iconst 1 d_Tape_isName_62 (by decide) ?_
                            exact V_zret rfl (by decide) d_Tape_isName_63 ⟨1, rfl, ⟨rfl, (Or.inr ⟨by omega, tc_1.trans (x_nmy10 (b := b) (f := fZ) (e := uZ) (by omega)).symm⟩)⟩⟩
                          ·
                            exact absurd c55 (by decide)
                        ·
                          refine V_iconst 0 d_Tape_isName_54 (by decide) ?_
                          exact V_zret rfl (by decide) d_Tape_isName_55 ⟨0, rfl, ⟨rfl, (Or.inr ⟨by omega, tc_0.trans (x_nmn10 (b := b) (f := fZ) (e := uZ) (by omega)).symm⟩)⟩⟩
                    ·
                      refine V_iconst 0 d_Tape_isName_54 (by decide) ?_
                      exact V_zret rfl (by decide) d_Tape_isName_55 ⟨0, rfl, ⟨rfl, (Or.inr ⟨by omega, tc_0.trans (x_nmn10 (b := b) (f := fZ) (e := uZ) (by omega)).symm⟩)⟩⟩
                ·
                  refine V_iconst 0 d_Tape_isName_54 (by decide) ?_
                  exact V_zret rfl (by decide) d_Tape_isName_55 ⟨0, rfl, ⟨rfl, (Or.inr ⟨by omega, tc_0.trans (x_nmn10 (b := b) (f := fZ) (e := uZ) (by omega)).symm⟩)⟩⟩
            ·
              refine V_iconst 0 d_Tape_isName_54 (by decide) ?_
              exact V_zret rfl (by decide) d_Tape_isName_55 ⟨0, rfl, ⟨rfl, (Or.inr ⟨by omega, tc_0.trans (x_nmn10 (b := b) (f := fZ) (e := uZ) (by omega)).symm⟩)⟩⟩
        ·
          refine V_iconst 0 d_Tape_isName_54 (by decide) ?_
          exact V_zret rfl (by decide) d_Tape_isName_55 ⟨0, rfl, ⟨rfl, (Or.inr ⟨by omega, tc_0.trans (x_nmn10 (b := b) (f := fZ) (e := uZ) (by omega)).symm⟩)⟩⟩
    ·
      refine V_iconst 0 d_Tape_isName_26 (by decide) ?_
      exact V_zret rfl (by decide) d_Tape_isName_27 ⟨0, rfl, ⟨rfl, (if q : qZ = 1 then Or.inr ⟨q, tc_0.trans (x_nmn10 (b := b) (f := fZ) (e := uZ) (by omega)).symm⟩ else Or.inl ⟨q, rfl⟩)⟩⟩
abbrev q_Tape_isNameX_11 (h : Hp) (b : Int → Int) (s : Int32) (sZ : Int) (q : Int32) (qZ : Int) (f : Int32) (fZ : Int) (u : Int32) (uZ : Int) : Option Value → Hp → Prop := pInt (fun r h' => h = h' ∧ (qZ ≠ 1 ∧ r.toInt = 0 ∨ qZ = 1 ∧ r.toInt = x_nm11 b fZ uZ))
set_option maxRecDepth 100000 in
theorem c_Tape_isNameX_11 (h : Hp) (b : Int → Int) (hI : Inv h) (s : Int32) (sZ : Int) (sE : s.toInt = sZ) (sK : h.1 89 1 = s) (q : Int32) (qZ : Int) (qE : q.toInt = qZ) (qK : h.1 89 2 = q) (f : Int32) (fZ : Int) (fE : f.toInt = fZ) (fK : h.1 89 3 = f) (u : Int32) (uZ : Int) (uE : u.toInt = uZ) (uK : h.1 89 4 = u) (hy0 : TP h 90 sZ b) (hy1 : 0 ≤ fZ ∧ fZ ≤ uZ ∧ uZ ≤ sZ ∧ sZ ≤ 160) : Ct y_Tape_isName b_Tape_isName 4 (some .boolean) 4 85 [.ref 89, .ref (135 + 11)] h (q_Tape_isNameX_11 h b s sZ q qZ f fZ u uZ) := by
  refine ct_ow R_Tape [some (.ref 89), some (.ref (135 + 11)), none, none] rfl (by decide) rfl (Nat.le_of_ble_eq_true rfl) ?_
  have f0 : fr [] h h := fr_rf
  have g1 : 0 ≤ sZ ∧ sZ ≤ 160 := inv_at hI sE sK.symm rfl
  have g2 : 0 ≤ fZ ∧ fZ ≤ 160 := inv_at hI fE fK.symm rfl
  have g3 : 0 ≤ uZ ∧ uZ ≤ 160 := inv_at hI uE uK.symm rfl
  have sH : 11 < 14 := by decide
  refine V_aload_n 1 d_Tape_isName_0 rfl rfl ?_
  refine N_callVSI [] [] cv_Tape_41 sH rfl d_Tape_isName_1 rfl (Nat.le_of_ble_eq_true rfl) (by decide) (by decide) (c_Str_length h 11 sH) (fun z4 h5 z4Z z4E p6 => ?_)
  obtain ⟨eh5, p6⟩ := p6
  subst eh5
  rw [z4E] at p6
  obtain rfl : z4 = 5 := (ti_eq z4E (show (5 : Int32).toInt = 5 from rfl)).mpr (p6.trans rfl)
  refine V_istore_n 2 [some (.ref 89), some (.ref (135 + 11)), some (.int 5), none] d_Tape_isName_4 rfl (by decide) rfl rfl ?_
  refine V_aload_n 0 d_Tape_isName_5 rfl rfl ?_
  refine N_getK fa_Tape_25 sk_89 rfl d_Tape_isName_6 qK ?_
  refine V_iconst 1 d_Tape_isName_9 (by decide) ?_
  refine V_icmp_ne 26 qE tc_1 d_Tape_isName_10 (by decide) (fun c7 => ?_) (fun c7 => ?_)
  ·
    refine V_iconst 0 d_Tape_isName_26 (by decide) ?_
    exact V_zret rfl (by decide) d_Tape_isName_27 ⟨0, rfl, ⟨rfl, (if q : qZ = 1 then Or.inr ⟨q, tc_0.trans (x_nmn11 (b := b) (f := fZ) (e := uZ) (by omega)).symm⟩ else Or.inl ⟨q, rfl⟩)⟩⟩
  ·
    refine V_aload_n 0 d_Tape_isName_13 rfl rfl ?_
    refine N_getK fa_Tape_15 sk_89 rfl d_Tape_isName_14 uK ?_
    refine V_aload_n 0 d_Tape_isName_17 rfl rfl ?_
    refine N_getK fa_Tape_19 sk_89 rfl d_Tape_isName_18 fK ?_
    refine V_isub uE fE (by omega) d_Tape_isName_21 (fun z8 z8e z8E => ?_)
    refine V_iload_n 2 d_Tape_isName_22 rfl rfl ?_
    refine V_icmp_eq 28 z8E tc_5 d_Tape_isName_23 (by decide) (fun c9 => ?_) (fun c9 => ?_)
    ·
      refine V_iconst 0 d_Tape_isName_28 (by decide) ?_
      refine V_istore_n 3 [some (.ref 89), some (.ref (135 + 11)), some (.int 5), some (.int 0)] d_Tape_isName_29 rfl (by decide) rfl rfl ?_
      refine V_iload_n 3 d_Tape_isName_30 rfl rfl ?_
      refine V_iload_n 2 d_Tape_isName_31 rfl rfl ?_
      refine V_icmp_ge 62 tc_0 tc_5 d_Tape_isName_32 (by decide) (fun c10 => ?_) (fun c10 => ?_)
      ·
        exact absurd c10 (by decide)
      ·
        refine V_aload_n 0 d_Tape_isName_35 rfl rfl ?_
        refine V_getR fa_Tape_9 sk_89 rfl d_Tape_isName_36 ?_
        refine V_aload_n 0 d_Tape_isName_39 rfl rfl ?_
        refine N_getK fa_Tape_19 sk_89 rfl d_Tape_isName_40 fK ?_
        refine V_iload_n 3 d_Tape_isName_43 rfl rfl ?_
        refine V_iadd fE tc_0 (by omega) d_Tape_isName_44 (fun z11 z11e z11E => ?_)
        refine N_bald sk_90 z11E (by omega) d_Tape_isName_45 (fun z12 z12Z z12E z12e => ?_)
        have g13 : z12Z = b (fZ + 0) := TP_rd (TP_fr f0 (fun _ => rfl) hy0) (by omega) z12E z12e
        refine V_aload_n 1 d_Tape_isName_46 rfl rfl ?_
        refine V_iload_n 3 d_Tape_isName_47 rfl rfl ?_
        refine N_callVSI [.int 0] [.int z12] cv_Tape_47 sH rfl d_Tape_isName_48 rfl (Nat.le_of_ble_eq_true rfl) (by decide) (by decide) (c_Str_charAt h 11 sH 0 0 tc_0 (by decide)) (fun z14 h15 z14Z z14E p16 => ?_)
        obtain ⟨eh15, p16⟩ := p16
        subst eh15
        obtain rfl : z14 = 115 := p16.trans rfl
        refine V_icmp_eq 56 z12E tc_115 d_Tape_isName_51 (by decide) (fun c17 => ?_) (fun c17 => ?_)
        ·
          refine V_iinc (v := 1) 3 [some (.ref 89), some (.ref (135 + 11)), some (.int 5), some (.int 1)] d_Tape_isName_56 rfl (by decide) (by decide) rfl rfl ?_
          refine V_goto 30 d_Tape_isName_59 (by decide) ?_
          refine V_iload_n 3 d_Tape_isName_30 rfl rfl ?_
          refine V_iload_n 2 d_Tape_isName_31 rfl rfl ?_
          refine V_icmp_ge 62 tc_1 tc_5 d_Tape_isName_32 (by decide) (fun c19 => ?_) (fun c19 => ?_)
          ·
            exact absurd c19 (by decide)
          ·
            refine V_aload_n 0 d_Tape_isName_35 rfl rfl ?_
            refine V_getR fa_Tape_9 sk_89 rfl d_Tape_isName_36 ?_
            refine V_aload_n 0 d_Tape_isName_39 rfl rfl ?_
            refine N_getK fa_Tape_19 sk_89 rfl d_Tape_isName_40 fK ?_
            refine V_iload_n 3 d_Tape_isName_43 rfl rfl ?_
            refine V_iadd fE tc_1 (by omega) d_Tape_isName_44 (fun z20 z20e z20E => ?_)
            refine N_bald sk_90 z20E (by omega) d_Tape_isName_45 (fun z21 z21Z z21E z21e => ?_)
            have g22 : z21Z = b (fZ + 1) := TP_rd (TP_fr f0 (fun _ => rfl) hy0) (by omega) z21E z21e
            refine V_aload_n 1 d_Tape_isName_46 rfl rfl ?_
            refine V_iload_n 3 d_Tape_isName_47 rfl rfl ?_
            refine N_callVSI [.int 1] [.int z21] cv_Tape_47 sH rfl d_Tape_isName_48 rfl (Nat.le_of_ble_eq_true rfl) (by decide) (by decide) (c_Str_charAt h 11 sH 1 1 tc_1 (by decide)) (fun z23 h24 z23Z z23E p25 => ?_)
            obtain ⟨eh24, p25⟩ := p25
            subst eh24
            obtain rfl : z23 = 116 := p25.trans rfl
            refine V_icmp_eq 56 z21E tc_116 d_Tape_isName_51 (by decide) (fun c26 => ?_) (fun c26 => ?_)
            ·
              refine V_iinc (v := 2) 3 [some (.ref 89), some (.ref (135 + 11)), some (.int 5), some (.int 2)] d_Tape_isName_56 rfl (by decide) (by decide) rfl rfl ?_
              refine V_goto 30 d_Tape_isName_59 (by decide) ?_
              refine V_iload_n 3 d_Tape_isName_30 rfl rfl ?_
              refine V_iload_n 2 d_Tape_isName_31 rfl rfl ?_
              refine V_icmp_ge 62 tc_2 tc_5 d_Tape_isName_32 (by decide) (fun c28 => ?_) (fun c28 => ?_)
              ·
                exact absurd c28 (by decide)
              ·
                refine V_aload_n 0 d_Tape_isName_35 rfl rfl ?_
                refine V_getR fa_Tape_9 sk_89 rfl d_Tape_isName_36 ?_
                refine V_aload_n 0 d_Tape_isName_39 rfl rfl ?_
                refine N_getK fa_Tape_19 sk_89 rfl d_Tape_isName_40 fK ?_
                refine V_iload_n 3 d_Tape_isName_43 rfl rfl ?_
                refine V_iadd fE tc_2 (by omega) d_Tape_isName_44 (fun z29 z29e z29E => ?_)
                refine N_bald sk_90 z29E (by omega) d_Tape_isName_45 (fun z30 z30Z z30E z30e => ?_)
                have g31 : z30Z = b (fZ + 2) := TP_rd (TP_fr f0 (fun _ => rfl) hy0) (by omega) z30E z30e
                refine V_aload_n 1 d_Tape_isName_46 rfl rfl ?_
                refine V_iload_n 3 d_Tape_isName_47 rfl rfl ?_
                refine N_callVSI [.int 2] [.int z30] cv_Tape_47 sH rfl d_Tape_isName_48 rfl (Nat.le_of_ble_eq_true rfl) (by decide) (by decide) (c_Str_charAt h 11 sH 2 2 tc_2 (by decide)) (fun z32 h33 z32Z z32E p34 => ?_)
                obtain ⟨eh33, p34⟩ := p34
                subst eh33
                obtain rfl : z32 = 101 := p34.trans rfl
                refine V_icmp_eq 56 z30E tc_101 d_Tape_isName_51 (by decide) (fun c35 => ?_) (fun c35 => ?_)
                ·
                  refine V_iinc (v := 3) 3 [some (.ref 89), some (.ref (135 + 11)), some (.int 5), some (.int 3)] d_Tape_isName_56 rfl (by decide) (by decide) rfl rfl ?_
                  refine V_goto 30 d_Tape_isName_59 (by decide) ?_
                  refine V_iload_n 3 d_Tape_isName_30 rfl rfl ?_
                  refine V_iload_n 2 d_Tape_isName_31 rfl rfl ?_
                  refine V_icmp_ge 62 tc_3 tc_5 d_Tape_isName_32 (by decide) (fun c37 => ?_) (fun c37 => ?_)
                  ·
                    exact absurd c37 (by decide)
                  ·
                    refine V_aload_n 0 d_Tape_isName_35 rfl rfl ?_
                    refine V_getR fa_Tape_9 sk_89 rfl d_Tape_isName_36 ?_
                    refine V_aload_n 0 d_Tape_isName_39 rfl rfl ?_
                    refine N_getK fa_Tape_19 sk_89 rfl d_Tape_isName_40 fK ?_
                    refine V_iload_n 3 d_Tape_isName_43 rfl rfl ?_
                    refine V_iadd fE tc_3 (by omega) d_Tape_isName_44 (fun z38 z38e z38E => ?_)
                    refine N_bald sk_90 z38E (by omega) d_Tape_isName_45 (fun z39 z39Z z39E z39e => ?_)
                    have g40 : z39Z = b (fZ + 3) := TP_rd (TP_fr f0 (fun _ => rfl) hy0) (by omega) z39E z39e
                    refine V_aload_n 1 d_Tape_isName_46 rfl rfl ?_
                    refine V_iload_n 3 d_Tape_isName_47 rfl rfl ?_
                    refine N_callVSI [.int 3] [.int z39] cv_Tape_47 sH rfl d_Tape_isName_48 rfl (Nat.le_of_ble_eq_true rfl) (by decide) (by decide) (c_Str_charAt h 11 sH 3 3 tc_3 (by decide)) (fun z41 h42 z41Z z41E p43 => ?_)
                    obtain ⟨eh42, p43⟩ := p43
                    subst eh42
                    obtain rfl : z41 = 112 := p43.trans rfl
                    refine V_icmp_eq 56 z39E tc_112 d_Tape_isName_51 (by decide) (fun c44 => ?_) (fun c44 => ?_)
                    ·
                      refine V_iinc (v := 4) 3 [some (.ref 89), some (.ref (135 + 11)), some (.int 5), some (.int 4)] d_Tape_isName_56 rfl (by decide) (by decide) rfl rfl ?_
                      refine V_goto 30 d_Tape_isName_59 (by decide) ?_
                      refine V_iload_n 3 d_Tape_isName_30 rfl rfl ?_
                      refine V_iload_n 2 d_Tape_isName_31 rfl rfl ?_
                      refine V_icmp_ge 62 tc_4 tc_5 d_Tape_isName_32 (by decide) (fun c46 => ?_) (fun c46 => ?_)
                      ·
                        exact absurd c46 (by decide)
                      ·
                        refine V_aload_n 0 d_Tape_isName_35 rfl rfl ?_
                        refine V_getR fa_Tape_9 sk_89 rfl d_Tape_isName_36 ?_
                        refine V_aload_n 0 d_Tape_isName_39 rfl rfl ?_
                        refine N_getK fa_Tape_19 sk_89 rfl d_Tape_isName_40 fK ?_
                        refine V_iload_n 3 d_Tape_isName_43 rfl rfl ?_
                        refine V_iadd fE tc_4 (by omega) d_Tape_isName_44 (fun z47 z47e z47E => ?_)
                        refine N_bald sk_90 z47E (by omega) d_Tape_isName_45 (fun z48 z48Z z48E z48e => ?_)
                        have g49 : z48Z = b (fZ + 4) := TP_rd (TP_fr f0 (fun _ => rfl) hy0) (by omega) z48E z48e
                        refine V_aload_n 1 d_Tape_isName_46 rfl rfl ?_
                        refine V_iload_n 3 d_Tape_isName_47 rfl rfl ?_
                        refine N_callVSI [.int 4] [.int z48] cv_Tape_47 sH rfl d_Tape_isName_48 rfl (Nat.le_of_ble_eq_true rfl) (by decide) (by decide) (c_Str_charAt h 11 sH 4 4 tc_4 (by decide)) (fun z50 h51 z50Z z50E p52 => ?_)
                        obtain ⟨eh51, p52⟩ := p52
                        subst eh51
                        obtain rfl : z50 = 115 := p52.trans rfl
                        refine V_icmp_eq 56 z48E tc_115 d_Tape_isName_51 (by decide) (fun c53 => ?_) (fun c53 => ?_)
                        ·
                          refine V_iinc (v := 5) 3 [some (.ref 89), some (.ref (135 + 11)), some (.int 5), some (.int 5)] d_Tape_isName_56 rfl (by decide) (by decide) rfl rfl ?_
                          refine V_goto 30 d_Tape_isName_59 (by decide) ?_
                          refine V_iload_n 3 d_Tape_isName_30 rfl rfl ?_
                          refine V_iload_n 2 d_Tape_isName_31 rfl rfl ?_
                          refine V_icmp_ge 62 tc_5 tc_5 d_Tape_isName_32 (by decide) (fun c55 => ?_) (fun c55 => ?_)
                          ·
                            refine V_iconst 1 d_Tape_isName_62 (by decide) ?_
                            exact V_zret rfl (by decide) d_Tape_isName_63 ⟨1, rfl, ⟨rfl, (Or.inr ⟨by omega, tc_1.trans (x_nmy11 (b := b) (f := fZ) (e := uZ) (by omega)).symm⟩)⟩⟩
                          ·
                            exact absurd c55 (by decide)
                        ·
                          refine V_iconst 0 d_Tape_isName_54 (by decide) ?_
                          exact V_zret rfl (by decide) d_Tape_isName_55 ⟨0, rfl, ⟨rfl, (Or.inr ⟨by omega, tc_0.trans (x_nmn11 (b := b) (f := fZ) (e := uZ) (by omega)).symm⟩)⟩⟩
                    ·
                      refine V_iconst 0 d_Tape_isName_54 (by decide) ?_
                      exact V_zret rfl (by decide) d_Tape_isName_55 ⟨0, rfl, ⟨rfl, (Or.inr ⟨by omega, tc_0.trans (x_nmn11 (b := b) (f := fZ) (e := uZ) (by omega)).symm⟩)⟩⟩
                ·
                  refine V_iconst 0 d_Tape_isName_54 (by decide) ?_
                  exact V_zret rfl (by decide) d_Tape_isName_55 ⟨0, rfl, ⟨rfl, (Or.inr ⟨by omega, tc_0.trans (x_nmn11 (b := b) (f := fZ) (e := uZ) (by omega)).symm⟩)⟩⟩
            ·
              refine V_iconst 0 d_Tape_isName_54 (by decide) ?_
              exact V_zret rfl (by decide) d_Tape_isName_55 ⟨0, rfl, ⟨rfl, (Or.inr ⟨by omega, tc_0.trans (x_nmn11 (b := b) (f := fZ) (e := uZ) (by omega)).symm⟩)⟩⟩
        ·
          refine V_iconst 0 d_Tape_isName_54 (by decide) ?_
          exact V_zret rfl (by decide) d_Tape_isName_55 ⟨0, rfl, ⟨rfl, (Or.inr ⟨by omega, tc_0.trans (x_nmn11 (b := b) (f := fZ) (e := uZ) (by omega)).symm⟩)⟩⟩
    ·
      refine V_iconst 0 d_Tape_isName_26 (by decide) ?_
      exact V_zret rfl (by decide) d_Tape_isName_27 ⟨0, rfl, ⟨rfl, (if q : qZ = 1 then Or.inr ⟨q, tc_0.trans (x_nmn11 (b := b) (f := fZ) (e := uZ) (by omega)).symm⟩ else Or.inl ⟨q, rfl⟩)⟩⟩
abbrev q_Tape_isNameX_12 (h : Hp) (b : Int → Int) (s : Int32) (sZ : Int) (q : Int32) (qZ : Int) (f : Int32) (fZ : Int) (u : Int32) (uZ : Int) : Option Value → Hp → Prop := pInt (fun r h' => h = h' ∧ (qZ ≠ 1 ∧ r.toInt = 0 ∨ qZ = 1 ∧ r.toInt = x_nm12 b fZ uZ))
set_option maxRecDepth 100000 in
theorem c_Tape_isNameX_12 (h : Hp) (b : Int → Int) (hI : Inv h) (s : Int32) (sZ : Int) (sE : s.toInt = sZ) (sK : h.1 89 1 = s) (q : Int32) (qZ : Int) (qE : q.toInt = qZ) (qK : h.1 89 2 = q) (f : Int32) (fZ : Int) (fE : f.toInt = fZ) (fK : h.1 89 3 = f) (u : Int32) (uZ : Int) (uE : u.toInt = uZ) (uK : h.1 89 4 = u) (hy0 : TP h 90 sZ b) (hy1 : 0 ≤ fZ ∧ fZ ≤ uZ ∧ uZ ≤ sZ ∧ sZ ≤ 160) : Ct y_Tape_isName b_Tape_isName 4 (some .boolean) 4 85 [.ref 89, .ref (135 + 12)] h (q_Tape_isNameX_12 h b s sZ q qZ f fZ u uZ) := by
  refine ct_ow R_Tape [some (.ref 89), some (.ref (135 + 12)), none, none] rfl (by decide) rfl (Nat.le_of_ble_eq_true rfl) ?_
  have f0 : fr [] h h := fr_rf
  have g1 : 0 ≤ sZ ∧ sZ ≤ 160 := inv_at hI sE sK.symm rfl
  have g2 : 0 ≤ fZ ∧ fZ ≤ 160 := inv_at hI fE fK.symm rfl
  have g3 : 0 ≤ uZ ∧ uZ ≤ 160 := inv_at hI uE uK.symm rfl
  have sH : 12 < 14 := by decide
  refine V_aload_n 1 d_Tape_isName_0 rfl rfl ?_
  refine N_callVSI [] [] cv_Tape_41 sH rfl d_Tape_isName_1 rfl (Nat.le_of_ble_eq_true rfl) (by decide) (by decide) (c_Str_length h 12 sH) (fun z4 h5 z4Z z4E p6 => ?_)
  obtain ⟨eh5, p6⟩ := p6
  subst eh5
  rw [z4E] at p6
  obtain rfl : z4 = 6 := (ti_eq z4E (show (6 : Int32).toInt = 6 from rfl)).mpr (p6.trans rfl)
  refine V_istore_n 2 [some (.ref 89), some (.ref (135 + 12)), some (.int 6), none] d_Tape_isName_4 rfl (by decide) rfl rfl ?_
  refine V_aload_n 0 d_Tape_isName_5 rfl rfl ?_
  refine N_getK fa_Tape_25 sk_89 rfl d_Tape_isName_6 qK ?_
  refine V_iconst 1 d_Tape_isName_9 (by decide) ?_
  refine V_icmp_ne 26 qE tc_1 d_Tape_isName_10 (by decide) (fun c7 => ?_) (fun c7 => ?_)
  ·
    refine V_iconst 0 d_Tape_isName_26 (by decide) ?_
    exact V_zret rfl (by decide) d_Tape_isName_27 ⟨0, rfl, ⟨rfl, (if q : qZ = 1 then Or.inr ⟨q, tc_0.trans (x_nmn12 (b := b) (f := fZ) (e := uZ) (by omega)).symm⟩ else Or.inl ⟨q, rfl⟩)⟩⟩
  ·
    refine V_aload_n 0 d_Tape_isName_13 rfl rfl ?_
    refine N_getK fa_Tape_15 sk_89 rfl d_Tape_isName_14 uK ?_
    refine V_aload_n 0 d_Tape_isName_17 rfl rfl ?_
    refine N_getK fa_Tape_19 sk_89 rfl d_Tape_isName_18 fK ?_
    refine V_isub uE fE (by omega) d_Tape_isName_21 (fun z8 z8e z8E => ?_)
    refine V_iload_n 2 d_Tape_isName_22 rfl rfl ?_
    refine V_icmp_eq 28 z8E tc_6 d_Tape_isName_23 (by decide) (fun c9 => ?_) (fun c9 => ?_)
    ·
      refine V_iconst 0 d_Tape_isName_28 (by decide) ?_
      refine V_istore_n 3 [some (.ref 89), some (.ref (135 + 12)), some (.int 6), some (.int 0)] d_Tape_isName_29 rfl (by decide) rfl rfl ?_
      refine V_iload_n 3 d_Tape_isName_30 rfl rfl ?_
      refine V_iload_n 2 d_Tape_isName_31 rfl rfl ?_
      refine V_icmp_ge 62 tc_0 tc_6 d_Tape_isName_32 (by decide) (fun c10 => ?_) (fun c10 => ?_)
      ·
        exact absurd c10 (by decide)
      ·
        refine V_aload_n 0 d_Tape_isName_35 rfl rfl ?_
        refine V_getR fa_Tape_9 sk_89 rfl d_Tape_isName_36 ?_
        refine V_aload_n 0 d_Tape_isName_39 rfl rfl ?_
        refine N_getK fa_Tape_19 sk_89 rfl d_Tape_isName_40 fK ?_
        refine V_iload_n 3 d_Tape_isName_43 rfl rfl ?_
        refine V_iadd fE tc_0 (by omega) d_Tape_isName_44 (fun z11 z11e z11E => ?_)
        refine N_bald sk_90 z11E (by omega) d_Tape_isName_45 (fun z12 z12Z z12E z12e => ?_)
        have g13 : z12Z = b (fZ + 0) := TP_rd (TP_fr f0 (fun _ => rfl) hy0) (by omega) z12E z12e
        refine V_aload_n 1 d_Tape_isName_46 rfl rfl ?_
        refine V_iload_n 3 d_Tape_isName_47 rfl rfl ?_
        refine N_callVSI [.int 0] [.int z12] cv_Tape_47 sH rfl d_Tape_isName_48 rfl (Nat.le_of_ble_eq_true rfl) (by decide) (by decide) (c_Str_charAt h 12 sH 0 0 tc_0 (by decide)) (fun z14 h15 z14Z z14E p16 => ?_)
        obtain ⟨eh15, p16⟩ := p16
        subst eh15
        obtain rfl : z14 = 119 := p16.trans rfl
        refine V_icmp_eq 56 z12E tc_119 d_Tape_isName_51 (by decide) (fun c17 => ?_) (fun c17 => ?_)
        ·
          refine V_iinc (v := 1) 3 [some (.ref 89), some (.ref (135 + 12)), some (.int 6), some (.int 1)] d_Tape_isName_56 rfl (by decide) (by decide) rfl rfl ?_
          refine V_goto 30 d_Tape_isName_59 (by decide) ?_
          refine V_iload_n 3 d_Tape_isName_30 rfl rfl ?_
          refine V_iload_n 2 d_Tape_isName_31 rfl rfl ?_
          refine V_icmp_ge 62 tc_1 tc_6 d_Tape_isName_32 (by decide) (fun c19 => ?_) (fun c19 => ?_)
          ·
            exact absurd c19 (by decide)
          ·
            refine V_aload_n 0 d_Tape_isName_35 rfl rfl ?_
            refine V_getR fa_Tape_9 sk_89 rfl d_Tape_isName_36 ?_
            refine V_aload_n 0 d_Tape_isName_39 rfl rfl ?_
            refine N_getK fa_Tape_19 sk_89 rfl d_Tape_isName_40 fK ?_
            refine V_iload_n 3 d_Tape_isName_43 rfl rfl ?_
            refine V_iadd fE tc_1 (by omega) d_Tape_isName_44 (fun z20 z20e z20E => ?_)
            refine N_bald sk_90 z20E (by omega) d_Tape_isName_45 (fun z21 z21Z z21E z21e => ?_)
            have g22 : z21Z = b (fZ + 1) := TP_rd (TP_fr f0 (fun _ => rfl) hy0) (by omega) z21E z21e
            refine V_aload_n 1 d_Tape_isName_46 rfl rfl ?_
            refine V_iload_n 3 d_Tape_isName_47 rfl rfl ?_
            refine N_callVSI [.int 1] [.int z21] cv_Tape_47 sH rfl d_Tape_isName_48 rfl (Nat.le_of_ble_eq_true rfl) (by decide) (by decide) (c_Str_charAt h 12 sH 1 1 tc_1 (by decide)) (fun z23 h24 z23Z z23E p25 => ?_)
            obtain ⟨eh24, p25⟩ := p25
            subst eh24
            obtain rfl : z23 = 105 := p25.trans rfl
            refine V_icmp_eq 56 z21E tc_105 d_Tape_isName_51 (by decide) (fun c26 => ?_) (fun c26 => ?_)
            ·
              refine V_iinc (v := 2) 3 [some (.ref 89), some (.ref (135 + 12)), some (.int 6), some (.int 2)] d_Tape_isName_56 rfl (by decide) (by decide) rfl rfl ?_
              refine V_goto 30 d_Tape_isName_59 (by decide) ?_
              refine V_iload_n 3 d_Tape_isName_30 rfl rfl ?_
              refine V_iload_n 2 d_Tape_isName_31 rfl rfl ?_
              refine V_icmp_ge 62 tc_2 tc_6 d_Tape_isName_32 (by decide) (fun c28 => ?_) (fun c28 => ?_)
              ·
                exact absurd c28 (by decide)
              ·
                refine V_aload_n 0 d_Tape_isName_35 rfl rfl ?_
                refine V_getR fa_Tape_9 sk_89 rfl d_Tape_isName_36 ?_
                refine V_aload_n 0 d_Tape_isName_39 rfl rfl ?_
                refine N_getK fa_Tape_19 sk_89 rfl d_Tape_isName_40 fK ?_
                refine V_iload_n 3 d_Tape_isName_43 rfl rfl ?_
                refine V_iadd fE tc_2 (by omega) d_Tape_isName_44 (fun z29 z29e z29E => ?_)
                refine N_bald sk_90 z29E (by omega) d_Tape_isName_45 (fun z30 z30Z z30E z30e => ?_)
                have g31 : z30Z = b (fZ + 2) := TP_rd (TP_fr f0 (fun _ => rfl) hy0) (by omega) z30E z30e
                refine V_aload_n 1 d_Tape_isName_46 rfl rfl ?_
                refine V_iload_n 3 d_Tape_isName_47 rfl rfl ?_
                refine N_callVSI [.int 2] [.int z30] cv_Tape_47 sH rfl d_Tape_isName_48 rfl (Nat.le_of_ble_eq_true rfl) (by decide) (by decide) (c_Str_charAt h 12 sH 2 2 tc_2 (by decide)) (fun z32 h33 z32Z z32E p34 => ?_)
                obtain ⟨eh33, p34⟩ := p34
                subst eh33
                obtain rfl : z32 = 115 := p34.trans rfl
                refine V_icmp_eq 56 z30E tc_115 d_Tape_isName_51 (by decide) (fun c35 => ?_) (fun c35 => ?_)
                ·
                  refine V_iinc (v := 3) 3 [some (.ref 89), some (.ref (135 + 12)), some (.int 6), some (.int 3)] d_Tape_isName_56 rfl (by decide) (by decide) rfl rfl ?_
                  refine V_goto 30 d_Tape_isName_59 (by decide) ?_
                  refine V_iload_n 3 d_Tape_isName_30 rfl rfl ?_
                  refine V_iload_n 2 d_Tape_isName_31 rfl rfl ?_
                  refine V_icmp_ge 62 tc_3 tc_6 d_Tape_isName_32 (by decide) (fun c37 => ?_) (fun c37 => ?_)
                  ·
                    exact absurd c37 (by decide)
                  ·
                    refine V_aload_n 0 d_Tape_isName_35 rfl rfl ?_
                    refine V_getR fa_Tape_9 sk_89 rfl d_Tape_isName_36 ?_
                    refine V_aload_n 0 d_Tape_isName_39 rfl rfl ?_
                    refine N_getK fa_Tape_19 sk_89 rfl d_Tape_isName_40 fK ?_
                    refine V_iload_n 3 d_Tape_isName_43 rfl rfl ?_
                    refine V_iadd fE tc_3 (by omega) d_Tape_isName_44 (fun z38 z38e z38E => ?_)
                    refine N_bald sk_90 z38E (by omega) d_Tape_isName_45 (fun z39 z39Z z39E z39e => ?_)
                    have g40 : z39Z = b (fZ + 3) := TP_rd (TP_fr f0 (fun _ => rfl) hy0) (by omega) z39E z39e
                    refine V_aload_n 1 d_Tape_isName_46 rfl rfl ?_
                    refine V_iload_n 3 d_Tape_isName_47 rfl rfl ?_
                    refine N_callVSI [.int 3] [.int z39] cv_Tape_47 sH rfl d_Tape_isName_48 rfl (Nat.le_of_ble_eq_true rfl) (by decide) (by decide) (c_Str_charAt h 12 sH 3 3 tc_3 (by decide)) (fun z41 h42 z41Z z41E p43 => ?_)
                    obtain ⟨eh42, p43⟩ := p43
                    subst eh42
                    obtain rfl : z41 = 104 := p43.trans rfl
                    refine V_icmp_eq 56 z39E tc_104 d_Tape_isName_51 (by decide) (fun c44 => ?_) (fun c44 => ?_)
                    ·
                      refine V_iinc (v := 4) 3 [some (.ref 89), some (.ref (135 + 12)), some (.int 6), some (.int 4)] d_Tape_isName_56 rfl (by decide) (by decide) rfl rfl ?_
                      refine V_goto 30 d_Tape_isName_59 (by decide) ?_
                      refine V_iload_n 3 d_Tape_isName_30 rfl rfl ?_
                      refine V_iload_n 2 d_Tape_isName_31 rfl rfl ?_
                      refine V_icmp_ge 62 tc_4 tc_6 d_Tape_isName_32 (by decide) (fun c46 => ?_) (fun c46 => ?_)
                      ·
                        exact absurd c46 (by decide)
                      ·
                        refine V_aload_n 0 d_Tape_isName_35 rfl rfl ?_
                        refine V_getR fa_Tape_9 sk_89 rfl d_Tape_isName_36 ?_
                        refine V_aload_n 0 d_Tape_isName_39 rfl rfl ?_
                        refine N_getK fa_Tape_19 sk_89 rfl d_Tape_isName_40 fK ?_
                        refine V_iload_n 3 d_Tape_isName_43 rfl rfl ?_
                        refine V_iadd fE tc_4 (by omega) d_Tape_isName_44 (fun z47 z47e z47E => ?_)
                        refine N_bald sk_90 z47E (by omega) d_Tape_isName_45 (fun z48 z48Z z48E z48e => ?_)
                        have g49 : z48Z = b (fZ + 4) := TP_rd (TP_fr f0 (fun _ => rfl) hy0) (by omega) z48E z48e
                        refine V_aload_n 1 d_Tape_isName_46 rfl rfl ?_
                        refine V_iload_n 3 d_Tape_isName_47 rfl rfl ?_
                        refine N_callVSI [.int 4] [.int z48] cv_Tape_47 sH rfl d_Tape_isName_48 rfl (Nat.le_of_ble_eq_true rfl) (by decide) (by decide) (c_Str_charAt h 12 sH 4 4 tc_4 (by decide)) (fun z50 h51 z50Z z50E p52 => ?_)
                        obtain ⟨eh51, p52⟩ := p52
                        subst eh51
                        obtain rfl : z50 = 101 := p52.trans rfl
                        refine V_icmp_eq 56 z48E tc_101 d_Tape_isName_51 (by decide) (fun c53 => ?_) (fun c53 => ?_)
                        ·
                          refine V_iinc (v := 5) 3 [some (.ref 89), some (.ref (135 + 12)), some (.int 6), some (.int 5)] d_Tape_isName_56 rfl (by decide) (by decide) rfl rfl ?_
                          refine V_goto 30 d_Tape_isName_59 (by decide) ?_
                          refine V_iload_n 3 d_Tape_isName_30 rfl rfl ?_
                          refine V_iload_n 2 d_Tape_isName_31 rfl rfl ?_
                          refine V_icmp_ge 62 tc_5 tc_6 d_Tape_isName_32 (by decide) (fun c55 => ?_) (fun c55 => ?_)
                          ·
                            exact absurd c55 (by decide)
                          ·
                            refine V_aload_n 0 d_Tape_isName_35 rfl rfl ?_
                            refine V_getR fa_Tape_9 sk_89 rfl d_Tape_isName_36 ?_
                            refine V_aload_n 0 d_Tape_isName_39 rfl rfl ?_
                            refine N_getK fa_Tape_19 sk_89 rfl d_Tape_isName_40 fK ?_
                            refine V_iload_n 3 d_Tape_isName_43 rfl rfl ?_
                            refine V_iadd fE tc_5 (by omega) d_Tape_isName_44 (fun z56 z56e z56E => ?_)
                            refine N_bald sk_90 z56E (by omega) d_Tape_isName_45 (fun z57 z57Z z57E z57e => ?_)
                            have g58 : z57Z = b (fZ + 5) := TP_rd (TP_fr f0 (fun _ => rfl) hy0) (by omega) z57E z57e
                            refine V_aload_n 1 d_Tape_isName_46 rfl rfl ?_
                            refine V_iload_n 3 d_Tape_isName_47 rfl rfl ?_
                            refine N_callVSI [.int 5] [.int z57] cv_Tape_47 sH rfl d_Tape_isName_48 rfl (Nat.le_of_ble_eq_true rfl) (by decide) (by decide) (c_Str_charAt h 12 sH 5 5 tc_5 (by decide)) (fun z59 h60 z59Z z59E p61 => ?_)
                            obtain ⟨eh60, p61⟩ := p61
                            subst eh60
                            obtain rfl : z59 = 115 := p61.trans rfl
                            refine V_icmp_eq 56 z57E tc_115 d_Tape_isName_51 (by decide) (fun c62 => ?_) (fun c62 => ?_)
                            ·
                              refine V_iinc (v := 6) 3 [some (.ref 89), some (.ref (135 + 12)), some (.int 6), some (.int 6)] d_Tape_isName_56 rfl (by decide) (by decide) rfl rfl ?_
                              refine V_goto 30 d_Tape_isName_59 (by decide) ?_
                              refine V_iload_n 3 d_Tape_isName_30 rfl rfl ?_
                              refine V_iload_n 2 d_Tape_isName_31 rfl rfl ?_
                              refine V_icmp_ge 62 tc_6 tc_6 d_Tape_isName_32 (by decide) (fun c64 => ?_) (fun c64 => ?_)
                              ·
                                refine V_iconst 1 d_Tape_isName_62 (by decide) ?_
                                exact V_zret rfl (by decide) d_Tape_isName_63 ⟨1, rfl, ⟨rfl, (Or.inr ⟨by omega, tc_1.trans (x_nmy12 (b := b) (f := fZ) (e := uZ) (by omega)).symm⟩)⟩⟩
                              ·
                                exact absurd c64 (by decide)
                            ·
                              refine V_iconst 0 d_Tape_isName_54 (by decide) ?_
                              exact V_zret rfl (by decide) d_Tape_isName_55 ⟨0, rfl, ⟨rfl, (Or.inr ⟨by omega, tc_0.trans (x_nmn12 (b := b) (f := fZ) (e := uZ) (by omega)).symm⟩)⟩⟩
                        ·
                          refine V_iconst 0 d_Tape_isName_54 (by decide) ?_
                          exact V_zret rfl (by decide) d_Tape_isName_55 ⟨0, rfl, ⟨rfl, (Or.inr ⟨by omega, tc_0.trans (x_nmn12 (b := b) (f := fZ) (e := uZ) (by omega)).symm⟩)⟩⟩
                    ·
                      refine V_iconst 0 d_Tape_isName_54 (by decide) ?_
                      exact V_zret rfl (by decide) d_Tape_isName_55 ⟨0, rfl, ⟨rfl, (Or.inr ⟨by omega, tc_0.trans (x_nmn12 (b := b) (f := fZ) (e := uZ) (by omega)).symm⟩)⟩⟩
                ·
                  refine V_iconst 0 d_Tape_isName_54 (by decide) ?_
                  exact V_zret rfl (by decide) d_Tape_isName_55 ⟨0, rfl, ⟨rfl, (Or.inr ⟨by omega, tc_0.trans (x_nmn12 (b := b) (f := fZ) (e := uZ) (by omega)).symm⟩)⟩⟩
            ·
              refine V_iconst 0 d_Tape_isName_54 (by decide) ?_
              exact V_zret rfl (by decide) d_Tape_isName_55 ⟨0, rfl, ⟨rfl, (Or.inr ⟨by omega, tc_0.trans (x_nmn12 (b := b) (f := fZ) (e := uZ) (by omega)).symm⟩)⟩⟩
        ·
          refine V_iconst 0 d_Tape_isName_54 (by decide) ?_
          exact V_zret rfl (by decide) d_Tape_isName_55 ⟨0, rfl, ⟨rfl, (Or.inr ⟨by omega, tc_0.trans (x_nmn12 (b := b) (f := fZ) (e := uZ) (by omega)).symm⟩)⟩⟩
    ·
      refine V_iconst 0 d_Tape_isName_26 (by decide) ?_
      exact V_zret rfl (by decide) d_Tape_isName_27 ⟨0, rfl, ⟨rfl, (if q : qZ = 1 then Or.inr ⟨q, tc_0.trans (x_nmn12 (b := b) (f := fZ) (e := uZ) (by omega)).symm⟩ else Or.inl ⟨q, rfl⟩)⟩⟩
abbrev q_Tape_isNameX_13 (h : Hp) (b : Int → Int) (s : Int32) (sZ : Int) (q : Int32) (qZ : Int) (f : Int32) (fZ : Int) (u : Int32) (uZ : Int) : Option Value → Hp → Prop := pInt (fun r h' => h = h' ∧ (qZ ≠ 1 ∧ r.toInt = 0 ∨ qZ = 1 ∧ r.toInt = x_nm13 b fZ uZ))
set_option maxRecDepth 100000 in
theorem c_Tape_isNameX_13 (h : Hp) (b : Int → Int) (hI : Inv h) (s : Int32) (sZ : Int) (sE : s.toInt = sZ) (sK : h.1 89 1 = s) (q : Int32) (qZ : Int) (qE : q.toInt = qZ) (qK : h.1 89 2 = q) (f : Int32) (fZ : Int) (fE : f.toInt = fZ) (fK : h.1 89 3 = f) (u : Int32) (uZ : Int) (uE : u.toInt = uZ) (uK : h.1 89 4 = u) (hy0 : TP h 90 sZ b) (hy1 : 0 ≤ fZ ∧ fZ ≤ uZ ∧ uZ ≤ sZ ∧ sZ ≤ 160) : Ct y_Tape_isName b_Tape_isName 4 (some .boolean) 4 85 [.ref 89, .ref (135 + 13)] h (q_Tape_isNameX_13 h b s sZ q qZ f fZ u uZ) := by
  refine ct_ow R_Tape [some (.ref 89), some (.ref (135 + 13)), none, none] rfl (by decide) rfl (Nat.le_of_ble_eq_true rfl) ?_
  have f0 : fr [] h h := fr_rf
  have g1 : 0 ≤ sZ ∧ sZ ≤ 160 := inv_at hI sE sK.symm rfl
  have g2 : 0 ≤ fZ ∧ fZ ≤ 160 := inv_at hI fE fK.symm rfl
  have g3 : 0 ≤ uZ ∧ uZ ≤ 160 := inv_at hI uE uK.symm rfl
  have sH : 13 < 14 := by decide
  refine V_aload_n 1 d_Tape_isName_0 rfl rfl ?_
  refine N_callVSI [] [] cv_Tape_41 sH rfl d_Tape_isName_1 rfl (Nat.le_of_ble_eq_true rfl) (by decide) (by decide) (c_Str_length h 13 sH) (fun z4 h5 z4Z z4E p6 => ?_)
  obtain ⟨eh5, p6⟩ := p6
  subst eh5
  rw [z4E] at p6
  obtain rfl : z4 = 4 := (ti_eq z4E (show (4 : Int32).toInt = 4 from rfl)).mpr (p6.trans rfl)
  refine V_istore_n 2 [some (.ref 89), some (.ref (135 + 13)), some (.int 4), none] d_Tape_isName_4 rfl (by decide) rfl rfl ?_
  refine V_aload_n 0 d_Tape_isName_5 rfl rfl ?_
  refine N_getK fa_Tape_25 sk_89 rfl d_Tape_isName_6 qK ?_
  refine V_iconst 1 d_Tape_isName_9 (by decide) ?_
  refine V_icmp_ne 26 qE tc_1 d_Tape_isName_10 (by decide) (fun c7 => ?_) (fun c7 => ?_)
  ·
    refine V_iconst 0 d_Tape_isName_26 (by decide) ?_
    exact V_zret rfl (by decide) d_Tape_isName_27 ⟨0, rfl, ⟨rfl, (if q : qZ = 1 then Or.inr ⟨q, tc_0.trans (x_nmn13 (b := b) (f := fZ) (e := uZ) (by omega)).symm⟩ else Or.inl ⟨q, rfl⟩)⟩⟩
  ·
    refine V_aload_n 0 d_Tape_isName_13 rfl rfl ?_
    refine N_getK fa_Tape_15 sk_89 rfl d_Tape_isName_14 uK ?_
    refine V_aload_n 0 d_Tape_isName_17 rfl rfl ?_
    refine N_getK fa_Tape_19 sk_89 rfl d_Tape_isName_18 fK ?_
    refine V_isub uE fE (by omega) d_Tape_isName_21 (fun z8 z8e z8E => ?_)
    refine V_iload_n 2 d_Tape_isName_22 rfl rfl ?_
    refine V_icmp_eq 28 z8E tc_4 d_Tape_isName_23 (by decide) (fun c9 => ?_) (fun c9 => ?_)
    ·
      refine V_iconst 0 d_Tape_isName_28 (by decide) ?_
      refine V_istore_n 3 [some (.ref 89), some (.ref (135 + 13)), some (.int 4), some (.int 0)] d_Tape_isName_29 rfl (by decide) rfl rfl ?_
      refine V_iload_n 3 d_Tape_isName_30 rfl rfl ?_
      refine V_iload_n 2 d_Tape_isName_31 rfl rfl ?_
      refine V_icmp_ge 62 tc_0 tc_4 d_Tape_isName_32 (by decide) (fun c10 => ?_) (fun c10 => ?_)
      ·
        exact absurd c10 (by decide)
      ·
        refine V_aload_n 0 d_Tape_isName_35 rfl rfl ?_
        refine V_getR fa_Tape_9 sk_89 rfl d_Tape_isName_36 ?_
        refine V_aload_n 0 d_Tape_isName_39 rfl rfl ?_
        refine N_getK fa_Tape_19 sk_89 rfl d_Tape_isName_40 fK ?_
        refine V_iload_n 3 d_Tape_isName_43 rfl rfl ?_
        refine V_iadd fE tc_0 (by omega) d_Tape_isName_44 (fun z11 z11e z11E => ?_)
        refine N_bald sk_90 z11E (by omega) d_Tape_isName_45 (fun z12 z12Z z12E z12e => ?_)
        have g13 : z12Z = b (fZ + 0) := TP_rd (TP_fr f0 (fun _ => rfl) hy0) (by omega) z12E z12e
        refine V_aload_n 1 d_Tape_isName_46 rfl rfl ?_
        refine V_iload_n 3 d_Tape_isName_47 rfl rfl ?_
        refine N_callVSI [.int 0] [.int z12] cv_Tape_47 sH rfl d_Tape_isName_48 rfl (Nat.le_of_ble_eq_true rfl) (by decide) (by decide) (c_Str_charAt h 13 sH 0 0 tc_0 (by decide)) (fun z14 h15 z14Z z14E p16 => ?_)
        obtain ⟨eh15, p16⟩ := p16
        subst eh15
        obtain rfl : z14 = 98 := p16.trans rfl
        refine V_icmp_eq 56 z12E tc_98 d_Tape_isName_51 (by decide) (fun c17 => ?_) (fun c17 => ?_)
        ·
          refine V_iinc (v := 1) 3 [some (.ref 89), some (.ref (135 + 13)), some (.int 4), some (.int 1)] d_Tape_isName_56 rfl (by decide) (by decide) rfl rfl ?_
          refine V_goto 30 d_Tape_isName_59 (by decide) ?_
          refine V_iload_n 3 d_Tape_isName_30 rfl rfl ?_
          refine V_iload_n 2 d_Tape_isName_31 rfl rfl ?_
          refine V_icmp_ge 62 tc_1 tc_4 d_Tape_isName_32 (by decide) (fun c19 => ?_) (fun c19 => ?_)
          ·
            exact absurd c19 (by decide)
          ·
            refine V_aload_n 0 d_Tape_isName_35 rfl rfl ?_
            refine V_getR fa_Tape_9 sk_89 rfl d_Tape_isName_36 ?_
            refine V_aload_n 0 d_Tape_isName_39 rfl rfl ?_
            refine N_getK fa_Tape_19 sk_89 rfl d_Tape_isName_40 fK ?_
            refine V_iload_n 3 d_Tape_isName_43 rfl rfl ?_
            refine V_iadd fE tc_1 (by omega) d_Tape_isName_44 (fun z20 z20e z20E => ?_)
            refine N_bald sk_90 z20E (by omega) d_Tape_isName_45 (fun z21 z21Z z21E z21e => ?_)
            have g22 : z21Z = b (fZ + 1) := TP_rd (TP_fr f0 (fun _ => rfl) hy0) (by omega) z21E z21e
            refine V_aload_n 1 d_Tape_isName_46 rfl rfl ?_
            refine V_iload_n 3 d_Tape_isName_47 rfl rfl ?_
            refine N_callVSI [.int 1] [.int z21] cv_Tape_47 sH rfl d_Tape_isName_48 rfl (Nat.le_of_ble_eq_true rfl) (by decide) (by decide) (c_Str_charAt h 13 sH 1 1 tc_1 (by decide)) (fun z23 h24 z23Z z23E p25 => ?_)
            obtain ⟨eh24, p25⟩ := p25
            subst eh24
            obtain rfl : z23 = 111 := p25.trans rfl
            refine V_icmp_eq 56 z21E tc_111 d_Tape_isName_51 (by decide) (fun c26 => ?_) (fun c26 => ?_)
            ·
              refine V_iinc (v := 2) 3 [some (.ref 89), some (.ref (135 + 13)), some (.int 4), some (.int 2)] d_Tape_isName_56 rfl (by decide) (by decide) rfl rfl ?_
              refine V_goto 30 d_Tape_isName_59 (by decide) ?_
              refine V_iload_n 3 d_Tape_isName_30 rfl rfl ?_
              refine V_iload_n 2 d_Tape_isName_31 rfl rfl ?_
              refine V_icmp_ge 62 tc_2 tc_4 d_Tape_isName_32 (by decide) (fun c28 => ?_) (fun c28 => ?_)
              ·
                exact absurd c28 (by decide)
              ·
                refine V_aload_n 0 d_Tape_isName_35 rfl rfl ?_
                refine V_getR fa_Tape_9 sk_89 rfl d_Tape_isName_36 ?_
                refine V_aload_n 0 d_Tape_isName_39 rfl rfl ?_
                refine N_getK fa_Tape_19 sk_89 rfl d_Tape_isName_40 fK ?_
                refine V_iload_n 3 d_Tape_isName_43 rfl rfl ?_
                refine V_iadd fE tc_2 (by omega) d_Tape_isName_44 (fun z29 z29e z29E => ?_)
                refine N_bald sk_90 z29E (by omega) d_Tape_isName_45 (fun z30 z30Z z30E z30e => ?_)
                have g31 : z30Z = b (fZ + 2) := TP_rd (TP_fr f0 (fun _ => rfl) hy0) (by omega) z30E z30e
                refine V_aload_n 1 d_Tape_isName_46 rfl rfl ?_
                refine V_iload_n 3 d_Tape_isName_47 rfl rfl ?_
                refine N_callVSI [.int 2] [.int z30] cv_Tape_47 sH rfl d_Tape_isName_48 rfl (Nat.le_of_ble_eq_true rfl) (by decide) (by decide) (c_Str_charAt h 13 sH 2 2 tc_2 (by decide)) (fun z32 h33 z32Z z32E p34 => ?_)
                obtain ⟨eh33, p34⟩ := p34
                subst eh33
                obtain rfl : z32 = 116 := p34.trans rfl
                refine V_icmp_eq 56 z30E tc_116 d_Tape_isName_51 (by decide) (fun c35 => ?_) (fun c35 => ?_)
                ·
                  refine V_iinc (v := 3) 3 [some (.ref 89), some (.ref (135 + 13)), some (.int 4), some (.int 3)] d_Tape_isName_56 rfl (by decide) (by decide) rfl rfl ?_
                  refine V_goto 30 d_Tape_isName_59 (by decide) ?_
                  refine V_iload_n 3 d_Tape_isName_30 rfl rfl ?_
                  refine V_iload_n 2 d_Tape_isName_31 rfl rfl ?_
                  refine V_icmp_ge 62 tc_3 tc_4 d_Tape_isName_32 (by decide) (fun c37 => ?_) (fun c37 => ?_)
                  ·
                    exact absurd c37 (by decide)
                  ·
                    refine V_aload_n 0 d_Tape_isName_35 rfl rfl ?_
                    refine V_getR fa_Tape_9 sk_89 rfl d_Tape_isName_36 ?_
                    refine V_aload_n 0 d_Tape_isName_39 rfl rfl ?_
                    refine N_getK fa_Tape_19 sk_89 rfl d_Tape_isName_40 fK ?_
                    refine V_iload_n 3 d_Tape_isName_43 rfl rfl ?_
                    refine V_iadd fE tc_3 (by omega) d_Tape_isName_44 (fun z38 z38e z38E => ?_)
                    refine N_bald sk_90 z38E (by omega) d_Tape_isName_45 (fun z39 z39Z z39E z39e => ?_)
                    have g40 : z39Z = b (fZ + 3) := TP_rd (TP_fr f0 (fun _ => rfl) hy0) (by omega) z39E z39e
                    refine V_aload_n 1 d_Tape_isName_46 rfl rfl ?_
                    refine V_iload_n 3 d_Tape_isName_47 rfl rfl ?_
                    refine N_callVSI [.int 3] [.int z39] cv_Tape_47 sH rfl d_Tape_isName_48 rfl (Nat.le_of_ble_eq_true rfl) (by decide) (by decide) (c_Str_charAt h 13 sH 3 3 tc_3 (by decide)) (fun z41 h42 z41Z z41E p43 => ?_)
                    obtain ⟨eh42, p43⟩ := p43
                    subst eh42
                    obtain rfl : z41 = 104 := p43.trans rfl
                    refine V_icmp_eq 56 z39E tc_104 d_Tape_isName_51 (by decide) (fun c44 => ?_) (fun c44 => ?_)
                    ·
                      refine V_iinc (v := 4) 3 [some (.ref 89), some (.ref (135 + 13)), some (.int 4), some (.int 4)] d_Tape_isName_56 rfl (by decide) (by decide) rfl rfl ?_
                      refine V_goto 30 d_Tape_isName_59 (by decide) ?_
                      refine V_iload_n 3 d_Tape_isName_30 rfl rfl ?_
                      refine V_iload_n 2 d_Tape_isName_31 rfl rfl ?_
                      refine V_icmp_ge 62 tc_4 tc_4 d_Tape_isName_32 (by decide) (fun c46 => ?_) (fun c46 => ?_)
                      ·
                        refine V_iconst 1 d_Tape_isName_62 (by decide) ?_
                        exact V_zret rfl (by decide) d_Tape_isName_63 ⟨1, rfl, ⟨rfl, (Or.inr ⟨by omega, tc_1.trans (x_nmy13 (b := b) (f := fZ) (e := uZ) (by omega)).symm⟩)⟩⟩
                      ·
                        exact absurd c46 (by decide)
                    ·
                      refine V_iconst 0 d_Tape_isName_54 (by decide) ?_
                      exact V_zret rfl (by decide) d_Tape_isName_55 ⟨0, rfl, ⟨rfl, (Or.inr ⟨by omega, tc_0.trans (x_nmn13 (b := b) (f := fZ) (e := uZ) (by omega)).symm⟩)⟩⟩
                ·
                  refine V_iconst 0 d_Tape_isName_54 (by decide) ?_
                  exact V_zret rfl (by decide) d_Tape_isName_55 ⟨0, rfl, ⟨rfl, (Or.inr ⟨by omega, tc_0.trans (x_nmn13 (b := b) (f := fZ) (e := uZ) (by omega)).symm⟩)⟩⟩
            ·
              refine V_iconst 0 d_Tape_isName_54 (by decide) ?_
              exact V_zret rfl (by decide) d_Tape_isName_55 ⟨0, rfl, ⟨rfl, (Or.inr ⟨by omega, tc_0.trans (x_nmn13 (b := b) (f := fZ) (e := uZ) (by omega)).symm⟩)⟩⟩
        ·
          refine V_iconst 0 d_Tape_isName_54 (by decide) ?_
          exact V_zret rfl (by decide) d_Tape_isName_55 ⟨0, rfl, ⟨rfl, (Or.inr ⟨by omega, tc_0.trans (x_nmn13 (b := b) (f := fZ) (e := uZ) (by omega)).symm⟩)⟩⟩
    ·
      refine V_iconst 0 d_Tape_isName_26 (by decide) ?_
      exact V_zret rfl (by decide) d_Tape_isName_27 ⟨0, rfl, ⟨rfl, (if q : qZ = 1 then Or.inr ⟨q, tc_0.trans (x_nmn13 (b := b) (f := fZ) (e := uZ) (by omega)).symm⟩ else Or.inl ⟨q, rfl⟩)⟩⟩
abbrev q_Reader_lineNameX_0 (h : Hp)  : Option Value → Hp → Prop := pRef (fun r h' => h = h' ∧ r = 135 + 0)
set_option maxRecDepth 100000 in
theorem c_Reader_lineNameX_0 (h : Hp) : Ct y_Reader_lineName b_Reader_lineName 1 (some (.object "java/lang/String")) 0 0 [.int 0] h (q_Reader_lineNameX_0 h ) := by
  refine ct_ow R_Reader [some (.int 0)] rfl (by decide) rfl (Nat.le_of_ble_eq_true rfl) ?_
  have f0 : fr [] h h := fr_rf
  refine V_iload_n 0 d_Reader_lineName_0 rfl rfl ?_
  refine V_tabIn 52 tc_0 d_Reader_lineName_1 (by decide) (by decide) rfl (by decide) ?_
  refine V_ldcS (i := 0) (by decide) rfl rfl d_Reader_lineName_52 ?_
  exact V_aret rfl d_Reader_lineName_54 ⟨(135 + 0), rfl, ⟨rfl, rfl⟩⟩
abbrev q_Reader_lineNameX_1 (h : Hp)  : Option Value → Hp → Prop := pRef (fun r h' => h = h' ∧ r = 135 + 1)
set_option maxRecDepth 100000 in
theorem c_Reader_lineNameX_1 (h : Hp) : Ct y_Reader_lineName b_Reader_lineName 1 (some (.object "java/lang/String")) 0 0 [.int 1] h (q_Reader_lineNameX_1 h ) := by
  refine ct_ow R_Reader [some (.int 1)] rfl (by decide) rfl (Nat.le_of_ble_eq_true rfl) ?_
  have f0 : fr [] h h := fr_rf
  refine V_iload_n 0 d_Reader_lineName_0 rfl rfl ?_
  refine V_tabIn 55 tc_1 d_Reader_lineName_1 (by decide) (by decide) rfl (by decide) ?_
  refine V_ldcS (i := 1) (by decide) rfl rfl d_Reader_lineName_55 ?_
  exact V_aret rfl d_Reader_lineName_57 ⟨(135 + 1), rfl, ⟨rfl, rfl⟩⟩
abbrev q_Reader_lineNameX_2 (h : Hp)  : Option Value → Hp → Prop := pRef (fun r h' => h = h' ∧ r = 135 + 2)
set_option maxRecDepth 100000 in
theorem c_Reader_lineNameX_2 (h : Hp) : Ct y_Reader_lineName b_Reader_lineName 1 (some (.object "java/lang/String")) 0 0 [.int 2] h (q_Reader_lineNameX_2 h ) := by
  refine ct_ow R_Reader [some (.int 2)] rfl (by decide) rfl (Nat.le_of_ble_eq_true rfl) ?_
  have f0 : fr [] h h := fr_rf
  refine V_iload_n 0 d_Reader_lineName_0 rfl rfl ?_
  refine V_tabIn 58 tc_2 d_Reader_lineName_1 (by decide) (by decide) rfl (by decide) ?_
  refine V_ldcS (i := 2) (by decide) rfl rfl d_Reader_lineName_58 ?_
  exact V_aret rfl d_Reader_lineName_60 ⟨(135 + 2), rfl, ⟨rfl, rfl⟩⟩
abbrev q_Reader_lineNameX_3 (h : Hp)  : Option Value → Hp → Prop := pRef (fun r h' => h = h' ∧ r = 135 + 3)
set_option maxRecDepth 100000 in
theorem c_Reader_lineNameX_3 (h : Hp) : Ct y_Reader_lineName b_Reader_lineName 1 (some (.object "java/lang/String")) 0 0 [.int 3] h (q_Reader_lineNameX_3 h ) := by
  refine ct_ow R_Reader [some (.int 3)] rfl (by decide) rfl (Nat.le_of_ble_eq_true rfl) ?_
  have f0 : fr [] h h := fr_rf
  refine V_iload_n 0 d_Reader_lineName_0 rfl rfl ?_
  refine V_tabIn 61 tc_3 d_Reader_lineName_1 (by decide) (by decide) rfl (by decide) ?_
  refine V_ldcS (i := 3) (by decide) rfl rfl d_Reader_lineName_61 ?_
  exact V_aret rfl d_Reader_lineName_63 ⟨(135 + 3), rfl, ⟨rfl, rfl⟩⟩
abbrev q_Reader_lineNameX_4 (h : Hp)  : Option Value → Hp → Prop := pRef (fun r h' => h = h' ∧ r = 135 + 4)
set_option maxRecDepth 100000 in
theorem c_Reader_lineNameX_4 (h : Hp) : Ct y_Reader_lineName b_Reader_lineName 1 (some (.object "java/lang/String")) 0 0 [.int 4] h (q_Reader_lineNameX_4 h ) := by
  refine ct_ow R_Reader [some (.int 4)] rfl (by decide) rfl (Nat.le_of_ble_eq_true rfl) ?_
  have f0 : fr [] h h := fr_rf
  refine V_iload_n 0 d_Reader_lineName_0 rfl rfl ?_
  refine V_tabIn 64 tc_4 d_Reader_lineName_1 (by decide) (by decide) rfl (by decide) ?_
  refine V_ldcS (i := 4) (by decide) rfl rfl d_Reader_lineName_64 ?_
  exact V_aret rfl d_Reader_lineName_66 ⟨(135 + 4), rfl, ⟨rfl, rfl⟩⟩
abbrev q_Reader_lineNameX_5 (h : Hp)  : Option Value → Hp → Prop := pRef (fun r h' => h = h' ∧ r = 135 + 5)
set_option maxRecDepth 100000 in
theorem c_Reader_lineNameX_5 (h : Hp) : Ct y_Reader_lineName b_Reader_lineName 1 (some (.object "java/lang/String")) 0 0 [.int 5] h (q_Reader_lineNameX_5 h ) := by
  refine ct_ow R_Reader [some (.int 5)] rfl (by decide) rfl (Nat.le_of_ble_eq_true rfl) ?_
  have f0 : fr [] h h := fr_rf
  refine V_iload_n 0 d_Reader_lineName_0 rfl rfl ?_
  refine V_tabIn 67 tc_5 d_Reader_lineName_1 (by decide) (by decide) rfl (by decide) ?_
  refine V_ldcS (i := 5) (by decide) rfl rfl d_Reader_lineName_67 ?_
  exact V_aret rfl d_Reader_lineName_69 ⟨(135 + 5), rfl, ⟨rfl, rfl⟩⟩
abbrev q_Reader_lineNameX_6 (h : Hp)  : Option Value → Hp → Prop := pRef (fun r h' => h = h' ∧ r = 135 + 6)
set_option maxRecDepth 100000 in
theorem c_Reader_lineNameX_6 (h : Hp) : Ct y_Reader_lineName b_Reader_lineName 1 (some (.object "java/lang/String")) 0 0 [.int 6] h (q_Reader_lineNameX_6 h ) := by
  refine ct_ow R_Reader [some (.int 6)] rfl (by decide) rfl (Nat.le_of_ble_eq_true rfl) ?_
  have f0 : fr [] h h := fr_rf
  refine V_iload_n 0 d_Reader_lineName_0 rfl rfl ?_
  refine V_tabIn 70 tc_6 d_Reader_lineName_1 (by decide) (by decide) rfl (by decide) ?_
  refine V_ldcS (i := 6) (by decide) rfl rfl d_Reader_lineName_70 ?_
  exact V_aret rfl d_Reader_lineName_72 ⟨(135 + 6), rfl, ⟨rfl, rfl⟩⟩
abbrev q_Reader_lineNameX_7 (h : Hp)  : Option Value → Hp → Prop := pRef (fun r h' => h = h' ∧ r = 135 + 7)
set_option maxRecDepth 100000 in
theorem c_Reader_lineNameX_7 (h : Hp) : Ct y_Reader_lineName b_Reader_lineName 1 (some (.object "java/lang/String")) 0 0 [.int 7] h (q_Reader_lineNameX_7 h ) := by
  refine ct_ow R_Reader [some (.int 7)] rfl (by decide) rfl (Nat.le_of_ble_eq_true rfl) ?_
  have f0 : fr [] h h := fr_rf
  refine V_iload_n 0 d_Reader_lineName_0 rfl rfl ?_
  refine V_tabIn 73 tc_7 d_Reader_lineName_1 (by decide) (by decide) rfl (by decide) ?_
  refine V_ldcS (i := 7) (by decide) rfl rfl d_Reader_lineName_73 ?_
  exact V_aret rfl d_Reader_lineName_75 ⟨(135 + 7), rfl, ⟨rfl, rfl⟩⟩
abbrev q_Reader_lineNameX_8 (h : Hp)  : Option Value → Hp → Prop := pRef (fun r h' => h = h' ∧ r = 135 + 8)
set_option maxRecDepth 100000 in
theorem c_Reader_lineNameX_8 (h : Hp) : Ct y_Reader_lineName b_Reader_lineName 1 (some (.object "java/lang/String")) 0 0 [.int 8] h (q_Reader_lineNameX_8 h ) := by
  refine ct_ow R_Reader [some (.int 8)] rfl (by decide) rfl (Nat.le_of_ble_eq_true rfl) ?_
  have f0 : fr [] h h := fr_rf
  refine V_iload_n 0 d_Reader_lineName_0 rfl rfl ?_
  refine V_tabIn 76 tc_8 d_Reader_lineName_1 (by decide) (by decide) rfl (by decide) ?_
  refine V_ldcS (i := 8) (by decide) rfl rfl d_Reader_lineName_76 ?_
  exact V_aret rfl d_Reader_lineName_78 ⟨(135 + 8), rfl, ⟨rfl, rfl⟩⟩
abbrev q_Reader_lineNameX_9 (h : Hp)  : Option Value → Hp → Prop := pRef (fun r h' => h = h' ∧ r = 135 + 9)
set_option maxRecDepth 100000 in
theorem c_Reader_lineNameX_9 (h : Hp) : Ct y_Reader_lineName b_Reader_lineName 1 (some (.object "java/lang/String")) 0 0 [.int 9] h (q_Reader_lineNameX_9 h ) := by
  refine ct_ow R_Reader [some (.int 9)] rfl (by decide) rfl (Nat.le_of_ble_eq_true rfl) ?_
  have f0 : fr [] h h := fr_rf
  refine V_iload_n 0 d_Reader_lineName_0 rfl rfl ?_
  refine V_tabOut 79 tc_9 d_Reader_lineName_1 (by decide) (by decide) ?_
  refine V_ldcS (i := 9) (by decide) rfl rfl d_Reader_lineName_79 ?_
  exact V_aret rfl d_Reader_lineName_81 ⟨(135 + 9), rfl, ⟨rfl, rfl⟩⟩
abbrev q_Reader_natureNameX_0 (h : Hp)  : Option Value → Hp → Prop := pRef (fun r h' => h = h' ∧ r = 135 + 10)
set_option maxRecDepth 100000 in
theorem c_Reader_natureNameX_0 (h : Hp) : Ct y_Reader_natureName b_Reader_natureName 1 (some (.object "java/lang/String")) 0 0 [.int 0] h (q_Reader_natureNameX_0 h ) := by
  refine ct_ow R_Reader [some (.int 0)] rfl (by decide) rfl (Nat.le_of_ble_eq_true rfl) ?_
  have f0 : fr [] h h := fr_rf
  refine V_iload_n 0 d_Reader_natureName_0 rfl rfl ?_
  refine V_tabIn 32 tc_0 d_Reader_natureName_1 (by decide) (by decide) rfl (by decide) ?_
  refine V_ldcS (i := 10) (by decide) rfl rfl d_Reader_natureName_32 ?_
  exact V_aret rfl d_Reader_natureName_34 ⟨(135 + 10), rfl, ⟨rfl, rfl⟩⟩
abbrev q_Reader_natureNameX_1 (h : Hp)  : Option Value → Hp → Prop := pRef (fun r h' => h = h' ∧ r = 135 + 2)
set_option maxRecDepth 100000 in
theorem c_Reader_natureNameX_1 (h : Hp) : Ct y_Reader_natureName b_Reader_natureName 1 (some (.object "java/lang/String")) 0 0 [.int 1] h (q_Reader_natureNameX_1 h ) := by
  refine ct_ow R_Reader [some (.int 1)] rfl (by decide) rfl (Nat.le_of_ble_eq_true rfl) ?_
  have f0 : fr [] h h := fr_rf
  refine V_iload_n 0 d_Reader_natureName_0 rfl rfl ?_
  refine V_tabIn 35 tc_1 d_Reader_natureName_1 (by decide) (by decide) rfl (by decide) ?_
  refine V_ldcS (i := 2) (by decide) rfl rfl d_Reader_natureName_35 ?_
  exact V_aret rfl d_Reader_natureName_37 ⟨(135 + 2), rfl, ⟨rfl, rfl⟩⟩
abbrev q_Reader_natureNameX_2 (h : Hp)  : Option Value → Hp → Prop := pRef (fun r h' => h = h' ∧ r = 135 + 11)
set_option maxRecDepth 100000 in
theorem c_Reader_natureNameX_2 (h : Hp) : Ct y_Reader_natureName b_Reader_natureName 1 (some (.object "java/lang/String")) 0 0 [.int 2] h (q_Reader_natureNameX_2 h ) := by
  refine ct_ow R_Reader [some (.int 2)] rfl (by decide) rfl (Nat.le_of_ble_eq_true rfl) ?_
  have f0 : fr [] h h := fr_rf
  refine V_iload_n 0 d_Reader_natureName_0 rfl rfl ?_
  refine V_tabIn 38 tc_2 d_Reader_natureName_1 (by decide) (by decide) rfl (by decide) ?_
  refine V_ldcS (i := 11) (by decide) rfl rfl d_Reader_natureName_38 ?_
  exact V_aret rfl d_Reader_natureName_40 ⟨(135 + 11), rfl, ⟨rfl, rfl⟩⟩
abbrev q_Reader_natureNameX_3 (h : Hp)  : Option Value → Hp → Prop := pRef (fun r h' => h = h' ∧ r = 135 + 12)
set_option maxRecDepth 100000 in
theorem c_Reader_natureNameX_3 (h : Hp) : Ct y_Reader_natureName b_Reader_natureName 1 (some (.object "java/lang/String")) 0 0 [.int 3] h (q_Reader_natureNameX_3 h ) := by
  refine ct_ow R_Reader [some (.int 3)] rfl (by decide) rfl (Nat.le_of_ble_eq_true rfl) ?_
  have f0 : fr [] h h := fr_rf
  refine V_iload_n 0 d_Reader_natureName_0 rfl rfl ?_
  refine V_tabIn 41 tc_3 d_Reader_natureName_1 (by decide) (by decide) rfl (by decide) ?_
  refine V_ldcS (i := 12) (by decide) rfl rfl d_Reader_natureName_41 ?_
  exact V_aret rfl d_Reader_natureName_43 ⟨(135 + 12), rfl, ⟨rfl, rfl⟩⟩
abbrev q_Reader_natureNameX_4 (h : Hp)  : Option Value → Hp → Prop := pRef (fun r h' => h = h' ∧ r = 135 + 13)
set_option maxRecDepth 100000 in
theorem c_Reader_natureNameX_4 (h : Hp) : Ct y_Reader_natureName b_Reader_natureName 1 (some (.object "java/lang/String")) 0 0 [.int 4] h (q_Reader_natureNameX_4 h ) := by
  refine ct_ow R_Reader [some (.int 4)] rfl (by decide) rfl (Nat.le_of_ble_eq_true rfl) ?_
  have f0 : fr [] h h := fr_rf
  refine V_iload_n 0 d_Reader_natureName_0 rfl rfl ?_
  refine V_tabOut 44 tc_4 d_Reader_natureName_1 (by decide) (by decide) ?_
  refine V_ldcS (i := 13) (by decide) rfl rfl d_Reader_natureName_44 ?_
  exact V_aret rfl d_Reader_natureName_46 ⟨(135 + 13), rfl, ⟨rfl, rfl⟩⟩
abbrev q_Reader_lineBegunX (h : Hp) (b : Int → Int) (s : Int32) (sZ : Int) (q : Int32) (qZ : Int) (f : Int32) (fZ : Int) (u : Int32) (uZ : Int) : Option Value → Hp → Prop := pInt (fun r h' => h = h' ∧ (qZ ≠ 1 ∨ r.toInt = x_ln b fZ uZ))
set_option maxRecDepth 100000 in
theorem c_Reader_lineBegunX (h : Hp) (b : Int → Int) (hI : Inv h) (s : Int32) (sZ : Int) (sE : s.toInt = sZ) (sK : h.1 89 1 = s) (q : Int32) (qZ : Int) (qE : q.toInt = qZ) (qK : h.1 89 2 = q) (f : Int32) (fZ : Int) (fE : f.toInt = fZ) (fK : h.1 89 3 = f) (u : Int32) (uZ : Int) (uE : u.toInt = uZ) (uK : h.1 89 4 = u) (hy0 : TP h 90 sZ b) (hy1 : 0 ≤ fZ ∧ fZ ≤ uZ ∧ uZ ≤ sZ ∧ sZ ≤ 160) : Ct y_Reader_lineBegun b_Reader_lineBegun 2 (some .int) 5 108 [.ref 88] h (q_Reader_lineBegunX h b s sZ q qZ f fZ u uZ) := by
  refine ct_ow R_Reader [some (.ref 88), none] rfl (by decide) rfl (Nat.le_of_ble_eq_true rfl) ?_
  have f0 : fr [] h h := fr_rf
  have g1 : 0 ≤ sZ ∧ sZ ≤ 160 := inv_at hI sE sK.symm rfl
  have g2 : 0 ≤ fZ ∧ fZ ≤ 160 := inv_at hI fE fK.symm rfl
  have g3 : 0 ≤ uZ ∧ uZ ≤ 160 := inv_at hI uE uK.symm rfl
  refine V_iconst 0 d_Reader_lineBegun_0 (by decide) ?_
  refine V_istore_n 1 [some (.ref 88), some (.int 0)] d_Reader_lineBegun_1 rfl (by decide) rfl rfl ?_
  refine V_iload_n 1 d_Reader_lineBegun_2 rfl rfl ?_
  refine V_bipush 10 d_Reader_lineBegun_3 (by decide) ?_
  refine V_icmp_ge 30 tc_0 tc_10 d_Reader_lineBegun_5 (by decide) (fun c4 => ?_) (fun c4 => ?_)
  ·
    exact absurd c4 (by decide)
  ·
    refine V_aload_n 0 d_Reader_lineBegun_8 rfl rfl ?_
    refine V_getR fa_Reader_12 sk_88 rfl d_Reader_lineBegun_9 ?_
    refine V_iload_n 1 d_Reader_lineBegun_12 rfl rfl ?_
    refine N_callSR [.int 0] [.ref 89] cs_Reader_171 d_Reader_lineBegun_13 rfl (Nat.le_of_ble_eq_true rfl) (by decide) (by decide) (c_Reader_lineNameX_0 h) (fun z5 h6 p7 => ?_)
    obtain ⟨eh6, rfl⟩ := p7
    subst eh6
    refine N_callVI [.ref (135 + 0)] [] cv_Reader_175 sk_89 rfl d_Reader_lineBegun_16 rfl (Nat.le_of_ble_eq_true rfl) (by decide) (by decide) (c_Tape_isNameX_0 h b hI s sZ sE sK q qZ qE qK f fZ fE fK u uZ uE uK (TP_fr f0 (fun _ => rfl) hy0) (by omega)) (fun z8 h9 z8Z z8E p10 => ?_)
    obtain ⟨eh9, p10⟩ := p10
    subst eh9
    refine V_if_eq 24 z8E d_Reader_lineBegun_19 (by decide) (fun c11 => ?_) (fun c11 => ?_)
    ·
      refine V_iinc (v := 1) 1 [some (.ref 88), some (.int 1)] d_Reader_lineBegun_24 rfl (by decide) (by decide) rfl rfl ?_
      refine V_goto 2 d_Reader_lineBegun_27 (by decide) ?_
      refine V_iload_n 1 d_Reader_lineBegun_2 rfl rfl ?_
      refine V_bipush 10 d_Reader_lineBegun_3 (by decide) ?_
      refine V_icmp_ge 30 tc_1 tc_10 d_Reader_lineBegun_5 (by decide) (fun c13 => ?_) (fun c13 => ?_)
      ·
        exact absurd c13 (by decide)
      ·
        refine V_aload_n 0 d_Reader_lineBegun_8 rfl rfl ?_
        refine V_getR fa_Reader_12 sk_88 rfl d_Reader_lineBegun_9 ?_
        refine V_iload_n 1 d_Reader_lineBegun_12 rfl rfl ?_
        refine N_callSR [.int 1] [.ref 89] cs_Reader_171 d_Reader_lineBegun_13 rfl (Nat.le_of_ble_eq_true rfl) (by decide) (by decide) (c_Reader_lineNameX_1 h) (fun z14 h15 p16 => ?_)
        obtain ⟨eh15, rfl⟩ := p16
        subst eh15
        refine N_callVI [.ref (135 + 1)] [] cv_Reader_175 sk_89 rfl d_Reader_lineBegun_16 rfl (Nat.le_of_ble_eq_true rfl) (by decide) (by decide) (c_Tape_isNameX_1 h b hI s sZ sE sK q qZ qE qK f fZ fE fK u uZ uE uK (TP_fr f0 (fun _ => rfl) hy0) (by omega)) (fun z17 h18 z17Z z17E p19 => ?_)
        obtain ⟨eh18, p19⟩ := p19
        subst eh18
        refine V_if_eq 24 z17E d_Reader_lineBegun_19 (by decide) (fun c20 => ?_) (fun c20 => ?_)
        ·
          refine V_iinc (v := 2) 1 [some (.ref 88), some (.int 2)] d_Reader_lineBegun_24 rfl (by decide) (by decide) rfl rfl ?_
          refine V_goto 2 d_Reader_lineBegun_27 (by decide) ?_
          refine V_iload_n 1 d_Reader_lineBegun_2 rfl rfl ?_
          refine V_bipush 10 d_Reader_lineBegun_3 (by decide) ?_
          refine V_icmp_ge 30 tc_2 tc_10 d_Reader_lineBegun_5 (by decide) (fun c22 => ?_) (fun c22 => ?_)
          ·
            exact absurd c22 (by decide)
          ·
            refine V_aload_n 0 d_Reader_lineBegun_8 rfl rfl ?_
            refine V_getR fa_Reader_12 sk_88 rfl d_Reader_lineBegun_9 ?_
            refine V_iload_n 1 d_Reader_lineBegun_12 rfl rfl ?_
            refine N_callSR [.int 2] [.ref 89] cs_Reader_171 d_Reader_lineBegun_13 rfl (Nat.le_of_ble_eq_true rfl) (by decide) (by decide) (c_Reader_lineNameX_2 h) (fun z23 h24 p25 => ?_)
            obtain ⟨eh24, rfl⟩ := p25
            subst eh24
            refine N_callVI [.ref (135 + 2)] [] cv_Reader_175 sk_89 rfl d_Reader_lineBegun_16 rfl (Nat.le_of_ble_eq_true rfl) (by decide) (by decide) (c_Tape_isNameX_2 h b hI s sZ sE sK q qZ qE qK f fZ fE fK u uZ uE uK (TP_fr f0 (fun _ => rfl) hy0) (by omega)) (fun z26 h27 z26Z z26E p28 => ?_)
            obtain ⟨eh27, p28⟩ := p28
            subst eh27
            refine V_if_eq 24 z26E d_Reader_lineBegun_19 (by decide) (fun c29 => ?_) (fun c29 => ?_)
            ·
              refine V_iinc (v := 3) 1 [some (.ref 88), some (.int 3)] d_Reader_lineBegun_24 rfl (by decide) (by decide) rfl rfl ?_
              refine V_goto 2 d_Reader_lineBegun_27 (by decide) ?_
              refine V_iload_n 1 d_Reader_lineBegun_2 rfl rfl ?_
              refine V_bipush 10 d_Reader_lineBegun_3 (by decide) ?_
              refine V_icmp_ge 30 tc_3 tc_10 d_Reader_lineBegun_5 (by decide) (fun c31 => ?_) (fun c31 => ?_)
              ·
                exact absurd c31 (by decide)
              ·
                refine V_aload_n 0 d_Reader_lineBegun_8 rfl rfl ?_
                refine V_getR fa_Reader_12 sk_88 rfl d_Reader_lineBegun_9 ?_
                refine V_iload_n 1 d_Reader_lineBegun_12 rfl rfl ?_
                refine N_callSR [.int 3] [.ref 89] cs_Reader_171 d_Reader_lineBegun_13 rfl (Nat.le_of_ble_eq_true rfl) (by decide) (by decide) (c_Reader_lineNameX_3 h) (fun z32 h33 p34 => ?_)
                obtain ⟨eh33, rfl⟩ := p34
                subst eh33
                refine N_callVI [.ref (135 + 3)] [] cv_Reader_175 sk_89 rfl d_Reader_lineBegun_16 rfl (Nat.le_of_ble_eq_true rfl) (by decide) (by decide) (c_Tape_isNameX_3 h b hI s sZ sE sK q qZ qE qK f fZ fE fK u uZ uE uK (TP_fr f0 (fun _ => rfl) hy0) (by omega)) (fun z35 h36 z35Z z35E p37 => ?_)
                obtain ⟨eh36, p37⟩ := p37
                subst eh36
                refine V_if_eq 24 z35E d_Reader_lineBegun_19 (by decide) (fun c38 => ?_) (fun c38 => ?_)
                ·
                  refine V_iinc (v := 4) 1 [some (.ref 88), some (.int 4)] d_Reader_lineBegun_24 rfl (by decide) (by decide) rfl rfl ?_
                  refine V_goto 2 d_Reader_lineBegun_27 (by decide) ?_
                  refine V_iload_n 1 d_Reader_lineBegun_2 rfl rfl ?_
                  refine V_bipush 10 d_Reader_lineBegun_3 (by decide) ?_
                  refine V_icmp_ge 30 tc_4 tc_10 d_Reader_lineBegun_5 (by decide) (fun c40 => ?_) (fun c40 => ?_)
                  ·
                    exact absurd c40 (by decide)
                  ·
                    refine V_aload_n 0 d_Reader_lineBegun_8 rfl rfl ?_
                    refine V_getR fa_Reader_12 sk_88 rfl d_Reader_lineBegun_9 ?_
                    refine V_iload_n 1 d_Reader_lineBegun_12 rfl rfl ?_
                    refine N_callSR [.int 4] [.ref 89] cs_Reader_171 d_Reader_lineBegun_13 rfl (Nat.le_of_ble_eq_true rfl) (by decide) (by decide) (c_Reader_lineNameX_4 h) (fun z41 h42 p43 => ?_)
                    obtain ⟨eh42, rfl⟩ := p43
                    subst eh42
                    refine N_callVI [.ref (135 + 4)] [] cv_Reader_175 sk_89 rfl d_Reader_lineBegun_16 rfl (Nat.le_of_ble_eq_true rfl) (by decide) (by decide) (c_Tape_isNameX_4 h b hI s sZ sE sK q qZ qE qK f fZ fE fK u uZ uE uK (TP_fr f0 (fun _ => rfl) hy0) (by omega)) (fun z44 h45 z44Z z44E p46 => ?_)
                    obtain ⟨eh45, p46⟩ := p46
                    subst eh45
                    refine V_if_eq 24 z44E d_Reader_lineBegun_19 (by decide) (fun c47 => ?_) (fun c47 => ?_)
                    ·
                      refine V_iinc (v := 5) 1 [some (.ref 88), some (.int 5)] d_Reader_lineBegun_24 rfl (by decide) (by decide) rfl rfl ?_
                      refine V_goto 2 d_Reader_lineBegun_27 (by decide) ?_
                      refine V_iload_n 1 d_Reader_lineBegun_2 rfl rfl ?_
                      refine V_bipush 10 d_Reader_lineBegun_3 (by decide) ?_
                      refine V_icmp_ge 30 tc_5 tc_10 d_Reader_lineBegun_5 (by decide) (fun c49 => ?_) (fun c49 => ?_)
                      ·
                        exact absurd c49 (by decide)
                      ·
                        refine V_aload_n 0 d_Reader_lineBegun_8 rfl rfl ?_
                        refine V_getR fa_Reader_12 sk_88 rfl d_Reader_lineBegun_9 ?_
                        refine V_iload_n 1 d_Reader_lineBegun_12 rfl rfl ?_
                        refine N_callSR [.int 5] [.ref 89] cs_Reader_171 d_Reader_lineBegun_13 rfl (Nat.le_of_ble_eq_true rfl) (by decide) (by decide) (c_Reader_lineNameX_5 h) (fun z50 h51 p52 => ?_)
                        obtain ⟨eh51, rfl⟩ := p52
                        subst eh51
                        refine N_callVI [.ref (135 + 5)] [] cv_Reader_175 sk_89 rfl d_Reader_lineBegun_16 rfl (Nat.le_of_ble_eq_true rfl) (by decide) (by decide) (c_Tape_isNameX_5 h b hI s sZ sE sK q qZ qE qK f fZ fE fK u uZ uE uK (TP_fr f0 (fun _ => rfl) hy0) (by omega)) (fun z53 h54 z53Z z53E p55 => ?_)
                        obtain ⟨eh54, p55⟩ := p55
                        subst eh54
                        refine V_if_eq 24 z53E d_Reader_lineBegun_19 (by decide) (fun c56 => ?_) (fun c56 => ?_)
                        ·
                          refine V_iinc (v := 6) 1 [some (.ref 88), some (.int 6)] d_Reader_lineBegun_24 rfl (by decide) (by decide) rfl rfl ?_
                          refine V_goto 2 d_Reader_lineBegun_27 (by decide) ?_
                          refine V_iload_n 1 d_Reader_lineBegun_2 rfl rfl ?_
                          refine V_bipush 10 d_Reader_lineBegun_3 (by decide) ?_
                          refine V_icmp_ge 30 tc_6 tc_10 d_Reader_lineBegun_5 (by decide) (fun c58 => ?_) (fun c58 => ?_)
                          ·
                            exact absurd c58 (by decide)
                          ·
                            refine V_aload_n 0 d_Reader_lineBegun_8 rfl rfl ?_
                            refine V_getR fa_Reader_12 sk_88 rfl d_Reader_lineBegun_9 ?_
                            refine V_iload_n 1 d_Reader_lineBegun_12 rfl rfl ?_
                            refine N_callSR [.int 6] [.ref 89] cs_Reader_171 d_Reader_lineBegun_13 rfl (Nat.le_of_ble_eq_true rfl) (by decide) (by decide) (c_Reader_lineNameX_6 h) (fun z59 h60 p61 => ?_)
                            obtain ⟨eh60, rfl⟩ := p61
                            subst eh60
                            refine N_callVI [.ref (135 + 6)] [] cv_Reader_175 sk_89 rfl d_Reader_lineBegun_16 rfl (Nat.le_of_ble_eq_true rfl) (by decide) (by decide) (c_Tape_isNameX_6 h b hI s sZ sE sK q qZ qE qK f fZ fE fK u uZ uE uK (TP_fr f0 (fun _ => rfl) hy0) (by omega)) (fun z62 h63 z62Z z62E p64 => ?_)
                            obtain ⟨eh63, p64⟩ := p64
                            subst eh63
                            refine V_if_eq 24 z62E d_Reader_lineBegun_19 (by decide) (fun c65 => ?_) (fun c65 => ?_)
                            ·
                              refine V_iinc (v := 7) 1 [some (.ref 88), some (.int 7)] d_Reader_lineBegun_24 rfl (by decide) (by decide) rfl rfl ?_
                              refine V_goto 2 d_Reader_lineBegun_27 (by decide) ?_
                              refine V_iload_n 1 d_Reader_lineBegun_2 rfl rfl ?_
                              refine V_bipush 10 d_Reader_lineBegun_3 (by decide) ?_
                              refine V_icmp_ge 30 tc_7 tc_10 d_Reader_lineBegun_5 (by decide) (fun c67 => ?_) (fun c67 => ?_)
                              ·
                                exact absurd c67 (by decide)
                              ·
                                refine V_aload_n 0 d_Reader_lineBegun_8 rfl rfl ?_
                                refine V_getR fa_Reader_12 sk_88 rfl d_Reader_lineBegun_9 ?_
                                refine V_iload_n 1 d_Reader_lineBegun_12 rfl rfl ?_
                                refine N_callSR [.int 7] [.ref 89] cs_Reader_171 d_Reader_lineBegun_13 rfl (Nat.le_of_ble_eq_true rfl) (by decide) (by decide) (c_Reader_lineNameX_7 h) (fun z68 h69 p70 => ?_)
                                obtain ⟨eh69, rfl⟩ := p70
                                subst eh69
                                refine N_callVI [.ref (135 + 7)] [] cv_Reader_175 sk_89 rfl d_Reader_lineBegun_16 rfl (Nat.le_of_ble_eq_true rfl) (by decide) (by decide) (c_Tape_isNameX_7 h b hI s sZ sE sK q qZ qE qK f fZ fE fK u uZ uE uK (TP_fr f0 (fun _ => rfl) hy0) (by omega)) (fun z71 h72 z71Z z71E p73 => ?_)
                                obtain ⟨eh72, p73⟩ := p73
                                subst eh72
                                refine V_if_eq 24 z71E d_Reader_lineBegun_19 (by decide) (fun c74 => ?_) (fun c74 => ?_)
                                ·
                                  refine V_iinc (v := 8) 1 [some (.ref 88), some (.int 8)] d_Reader_lineBegun_24 rfl (by decide) (by decide) rfl rfl ?_
                                  refine V_goto 2 d_Reader_lineBegun_27 (by decide) ?_
                                  refine V_iload_n 1 d_Reader_lineBegun_2 rfl rfl ?_
                                  refine V_bipush 10 d_Reader_lineBegun_3 (by decide) ?_
                                  refine V_icmp_ge 30 tc_8 tc_10 d_Reader_lineBegun_5 (by decide) (fun c76 => ?_) (fun c76 => ?_)
                                  ·
                                    exact absurd c76 (by decide)
                                  ·
                                    refine V_aload_n 0 d_Reader_lineBegun_8 rfl rfl ?_
                                    refine V_getR fa_Reader_12 sk_88 rfl d_Reader_lineBegun_9 ?_
                                    refine V_iload_n 1 d_Reader_lineBegun_12 rfl rfl ?_
                                    refine N_callSR [.int 8] [.ref 89] cs_Reader_171 d_Reader_lineBegun_13 rfl (Nat.le_of_ble_eq_true rfl) (by decide) (by decide) (c_Reader_lineNameX_8 h) (fun z77 h78 p79 => ?_)
                                    obtain ⟨eh78, rfl⟩ := p79
                                    subst eh78
                                    refine N_callVI [.ref (135 + 8)] [] cv_Reader_175 sk_89 rfl d_Reader_lineBegun_16 rfl (Nat.le_of_ble_eq_true rfl) (by decide) (by decide) (c_Tape_isNameX_8 h b hI s sZ sE sK q qZ qE qK f fZ fE fK u uZ uE uK (TP_fr f0 (fun _ => rfl) hy0) (by omega)) (fun z80 h81 z80Z z80E p82 => ?_)
                                    obtain ⟨eh81, p82⟩ := p82
                                    subst eh81
                                    refine V_if_eq 24 z80E d_Reader_lineBegun_19 (by decide) (fun c83 => ?_) (fun c83 => ?_)
                                    ·
                                      refine V_iinc (v := 9) 1 [some (.ref 88), some (.int 9)] d_Reader_lineBegun_24 rfl (by decide) (by decide) rfl rfl ?_
                                      refine V_goto 2 d_Reader_lineBegun_27 (by decide) ?_
                                      refine V_iload_n 1 d_Reader_lineBegun_2 rfl rfl ?_
                                      refine V_bipush 10 d_Reader_lineBegun_3 (by decide) ?_
                                      refine V_icmp_ge 30 tc_9 tc_10 d_Reader_lineBegun_5 (by decide) (fun c85 => ?_) (fun c85 => ?_)
                                      ·
                                        exact absurd c85 (by decide)
                                      ·
                                        refine V_aload_n 0 d_Reader_lineBegun_8 rfl rfl ?_
                                        refine V_getR fa_Reader_12 sk_88 rfl d_Reader_lineBegun_9 ?_
                                        refine V_iload_n 1 d_Reader_lineBegun_12 rfl rfl ?_
                                        refine N_callSR [.int 9] [.ref 89] cs_Reader_171 d_Reader_lineBegun_13 rfl (Nat.le_of_ble_eq_true rfl) (by decide) (by decide) (c_Reader_lineNameX_9 h) (fun z86 h87 p88 => ?_)
                                        obtain ⟨eh87, rfl⟩ := p88
                                        subst eh87
                                        refine N_callVI [.ref (135 + 9)] [] cv_Reader_175 sk_89 rfl d_Reader_lineBegun_16 rfl (Nat.le_of_ble_eq_true rfl) (by decide) (by decide) (c_Tape_isNameX_9 h b hI s sZ sE sK q qZ qE qK f fZ fE fK u uZ uE uK (TP_fr f0 (fun _ => rfl) hy0) (by omega)) (fun z89 h90 z89Z z89E p91 => ?_)
                                        obtain ⟨eh90, p91⟩ := p91
                                        subst eh90
                                        refine V_if_eq 24 z89E d_Reader_lineBegun_19 (by decide) (fun c92 => ?_) (fun c92 => ?_)
                                        ·
                                          refine V_iinc (v := 10) 1 [some (.ref 88), some (.int 10)] d_Reader_lineBegun_24 rfl (by decide) (by decide) rfl rfl ?_
                                          refine V_goto 2 d_Reader_lineBegun_27 (by decide) ?_
                                          refine V_iload_n 1 d_Reader_lineBegun_2 rfl rfl ?_
                                          refine V_bipush 10 d_Reader_lineBegun_3 (by decide) ?_
                                          refine V_icmp_ge 30 tc_10 tc_10 d_Reader_lineBegun_5 (by decide) (fun c94 => ?_) (fun c94 => ?_)
                                          ·
                                            refine V_iconst (-1) d_Reader_lineBegun_30 (by decide) ?_
                                            exact V_iret rfl d_Reader_lineBegun_31 ⟨(-1), rfl, ⟨rfl, (if q : qZ = 1 then Or.inr (tc_m1.trans (show x_ln b fZ uZ = (-1) from x_ln_no (by omega) (by omega) (by omega) (by omega) (by omega) (by omega) (by omega) (by omega) (by omega) (by omega)).symm) else Or.inl q)⟩⟩
                                          ·
                                            exact absurd c94 (by decide)
                                        ·
                                          refine V_iload_n 1 d_Reader_lineBegun_22 rfl rfl ?_
                                          exact V_iret rfl d_Reader_lineBegun_23 ⟨9, rfl, ⟨rfl, (if q : qZ = 1 then Or.inr (tc_9.trans (show x_ln b fZ uZ = 9 from x_ln_of9 (by have := x_nmb9 b fZ uZ; omega)).symm) else Or.inl q)⟩⟩
                                    ·
                                      refine V_iload_n 1 d_Reader_lineBegun_22 rfl rfl ?_
                                      exact V_iret rfl d_Reader_lineBegun_23 ⟨8, rfl, ⟨rfl, (if q : qZ = 1 then Or.inr (tc_8.trans (show x_ln b fZ uZ = 8 from x_ln_of8 (by have := x_nmb8 b fZ uZ; omega)).symm) else Or.inl q)⟩⟩
                                ·
                                  refine V_iload_n 1 d_Reader_lineBegun_22 rfl rfl ?_
                                  exact V_iret rfl d_Reader_lineBegun_23 ⟨7, rfl, ⟨rfl, (if q : qZ = 1 then Or.inr (tc_7.trans (show x_ln b fZ uZ = 7 from x_ln_of7 (by have := x_nmb7 b fZ uZ; omega)).symm) else Or.inl q)⟩⟩
                            ·
                              refine V_iload_n 1 d_Reader_lineBegun_22 rfl rfl ?_
                              exact V_iret rfl d_Reader_lineBegun_23 ⟨6, rfl, ⟨rfl, (if q : qZ = 1 then Or.inr (tc_6.trans (show x_ln b fZ uZ = 6 from x_ln_of6 (by have := x_nmb6 b fZ uZ; omega)).symm) else Or.inl q)⟩⟩
                        ·
                          refine V_iload_n 1 d_Reader_lineBegun_22 rfl rfl ?_
                          exact V_iret rfl d_Reader_lineBegun_23 ⟨5, rfl, ⟨rfl, (if q : qZ = 1 then Or.inr (tc_5.trans (show x_ln b fZ uZ = 5 from x_ln_of5 (by have := x_nmb5 b fZ uZ; omega)).symm) else Or.inl q)⟩⟩
                    ·
                      refine V_iload_n 1 d_Reader_lineBegun_22 rfl rfl ?_
                      exact V_iret rfl d_Reader_lineBegun_23 ⟨4, rfl, ⟨rfl, (if q : qZ = 1 then Or.inr (tc_4.trans (show x_ln b fZ uZ = 4 from x_ln_of4 (by have := x_nmb4 b fZ uZ; omega)).symm) else Or.inl q)⟩⟩
                ·
                  refine V_iload_n 1 d_Reader_lineBegun_22 rfl rfl ?_
                  exact V_iret rfl d_Reader_lineBegun_23 ⟨3, rfl, ⟨rfl, (if q : qZ = 1 then Or.inr (tc_3.trans (show x_ln b fZ uZ = 3 from x_ln_of3 (by have := x_nmb3 b fZ uZ; omega)).symm) else Or.inl q)⟩⟩
            ·
              refine V_iload_n 1 d_Reader_lineBegun_22 rfl rfl ?_
              exact V_iret rfl d_Reader_lineBegun_23 ⟨2, rfl, ⟨rfl, (if q : qZ = 1 then Or.inr (tc_2.trans (show x_ln b fZ uZ = 2 from x_ln_of2 (by have := x_nmb2 b fZ uZ; omega)).symm) else Or.inl q)⟩⟩
        ·
          refine V_iload_n 1 d_Reader_lineBegun_22 rfl rfl ?_
          exact V_iret rfl d_Reader_lineBegun_23 ⟨1, rfl, ⟨rfl, (if q : qZ = 1 then Or.inr (tc_1.trans (show x_ln b fZ uZ = 1 from x_ln_of1 (by have := x_nmb1 b fZ uZ; omega)).symm) else Or.inl q)⟩⟩
    ·
      refine V_iload_n 1 d_Reader_lineBegun_22 rfl rfl ?_
      exact V_iret rfl d_Reader_lineBegun_23 ⟨0, rfl, ⟨rfl, (if q : qZ = 1 then Or.inr (tc_0.trans (show x_ln b fZ uZ = 0 from x_ln_of0 (by have := x_nmb0 b fZ uZ; omega)).symm) else Or.inl q)⟩⟩
abbrev q_Reader_natureNamedX (h : Hp) (b : Int → Int) (s : Int32) (sZ : Int) (q : Int32) (qZ : Int) (f : Int32) (fZ : Int) (u : Int32) (uZ : Int) : Option Value → Hp → Prop := pInt (fun r h' => h = h' ∧ (qZ ≠ 1 ∨ r.toInt = x_nt b fZ uZ))
set_option maxRecDepth 100000 in
theorem c_Reader_natureNamedX (h : Hp) (b : Int → Int) (hI : Inv h) (s : Int32) (sZ : Int) (sE : s.toInt = sZ) (sK : h.1 89 1 = s) (q : Int32) (qZ : Int) (qE : q.toInt = qZ) (qK : h.1 89 2 = q) (f : Int32) (fZ : Int) (fE : f.toInt = fZ) (fK : h.1 89 3 = f) (u : Int32) (uZ : Int) (uE : u.toInt = uZ) (uK : h.1 89 4 = u) (hy0 : TP h 90 sZ b) (hy1 : 0 ≤ fZ ∧ fZ ≤ uZ ∧ uZ ≤ sZ ∧ sZ ≤ 160) : Ct y_Reader_natureNamed b_Reader_natureNamed 2 (some .int) 5 108 [.ref 88] h (q_Reader_natureNamedX h b s sZ q qZ f fZ u uZ) := by
  refine ct_ow R_Reader [some (.ref 88), none] rfl (by decide) rfl (Nat.le_of_ble_eq_true rfl) ?_
  have f0 : fr [] h h := fr_rf
  have g1 : 0 ≤ sZ ∧ sZ ≤ 160 := inv_at hI sE sK.symm rfl
  have g2 : 0 ≤ fZ ∧ fZ ≤ 160 := inv_at hI fE fK.symm rfl
  have g3 : 0 ≤ uZ ∧ uZ ≤ 160 := inv_at hI uE uK.symm rfl
  refine V_iconst 0 d_Reader_natureNamed_0 (by decide) ?_
  refine V_istore_n 1 [some (.ref 88), some (.int 0)] d_Reader_natureNamed_1 rfl (by decide) rfl rfl ?_
  refine V_iload_n 1 d_Reader_natureNamed_2 rfl rfl ?_
  refine V_iconst 5 d_Reader_natureNamed_3 (by decide) ?_
  refine V_icmp_ge 29 tc_0 tc_5 d_Reader_natureNamed_4 (by decide) (fun c4 => ?_) (fun c4 => ?_)
  ·
    exact absurd c4 (by decide)
  ·
    refine V_aload_n 0 d_Reader_natureNamed_7 rfl rfl ?_
    refine V_getR fa_Reader_12 sk_88 rfl d_Reader_natureNamed_8 ?_
    refine V_iload_n 1 d_Reader_natureNamed_11 rfl rfl ?_
    refine N_callSR [.int 0] [.ref 89] cs_Reader_179 d_Reader_natureNamed_12 rfl (Nat.le_of_ble_eq_true rfl) (by decide) (by decide) (c_Reader_natureNameX_0 h) (fun z5 h6 p7 => ?_)
    obtain ⟨eh6, rfl⟩ := p7
    subst eh6
    refine N_callVI [.ref (135 + 10)] [] cv_Reader_175 sk_89 rfl d_Reader_natureNamed_15 rfl (Nat.le_of_ble_eq_true rfl) (by decide) (by decide) (c_Tape_isNameX_10 h b hI s sZ sE sK q qZ qE qK f fZ fE fK u uZ uE uK (TP_fr f0 (fun _ => rfl) hy0) (by omega)) (fun z8 h9 z8Z z8E p10 => ?_)
    obtain ⟨eh9, p10⟩ := p10
    subst eh9
    refine V_if_eq 23 z8E d_Reader_natureNamed_18 (by decide) (fun c11 => ?_) (fun c11 => ?_)
    ·
      refine V_iinc (v := 1) 1 [some (.ref 88), some (.int 1)] d_Reader_natureNamed_23 rfl (by decide) (by decide) rfl rfl ?_
      refine V_goto 2 d_Reader_natureNamed_26 (by decide) ?_
      refine V_iload_n 1 d_Reader_natureNamed_2 rfl rfl ?_
      refine V_iconst 5 d_Reader_natureNamed_3 (by decide) ?_
      refine V_icmp_ge 29 tc_1 tc_5 d_Reader_natureNamed_4 (by decide) (fun c13 => ?_) (fun c13 => ?_)
      ·
        exact absurd c13 (by decide)
      ·
        refine V_aload_n 0 d_Reader_natureNamed_7 rfl rfl ?_
        refine V_getR fa_Reader_12 sk_88 rfl d_Reader_natureNamed_8 ?_
        refine V_iload_n 1 d_Reader_natureNamed_11 rfl rfl ?_
        refine N_callSR [.int 1] [.ref 89] cs_Reader_179 d_Reader_natureNamed_12 rfl (Nat.le_of_ble_eq_true rfl) (by decide) (by decide) (c_Reader_natureNameX_1 h) (fun z14 h15 p16 => ?_)
        obtain ⟨eh15, rfl⟩ := p16
        subst eh15
        refine N_callVI [.ref (135 + 2)] [] cv_Reader_175 sk_89 rfl d_Reader_natureNamed_15 rfl (Nat.le_of_ble_eq_true rfl) (by decide) (by decide) (c_Tape_isNameX_2 h b hI s sZ sE sK q qZ qE qK f fZ fE fK u uZ uE uK (TP_fr f0 (fun _ => rfl) hy0) (by omega)) (fun z17 h18 z17Z z17E p19 => ?_)
        obtain ⟨eh18, p19⟩ := p19
        subst eh18
        refine V_if_eq 23 z17E d_Reader_natureNamed_18 (by decide) (fun c20 => ?_) (fun c20 => ?_)
        ·
          refine V_iinc (v := 2) 1 [some (.ref 88), some (.int 2)] d_Reader_natureNamed_23 rfl (by decide) (by decide) rfl rfl ?_
          refine V_goto 2 d_Reader_natureNamed_26 (by decide) ?_
          refine V_iload_n 1 d_Reader_natureNamed_2 rfl rfl ?_
          refine V_iconst 5 d_Reader_natureNamed_3 (by decide) ?_
          refine V_icmp_ge 29 tc_2 tc_5 d_Reader_natureNamed_4 (by decide) (fun c22 => ?_) (fun c22 => ?_)
          ·
            exact absurd c22 (by decide)
          ·
            refine V_aload_n 0 d_Reader_natureNamed_7 rfl rfl ?_
            refine V_getR fa_Reader_12 sk_88 rfl d_Reader_natureNamed_8 ?_
            refine V_iload_n 1 d_Reader_natureNamed_11 rfl rfl ?_
            refine N_callSR [.int 2] [.ref 89] cs_Reader_179 d_Reader_natureNamed_12 rfl (Nat.le_of_ble_eq_true rfl) (by decide) (by decide) (c_Reader_natureNameX_2 h) (fun z23 h24 p25 => ?_)
            obtain ⟨eh24, rfl⟩ := p25
            subst eh24
            refine N_callVI [.ref (135 + 11)] [] cv_Reader_175 sk_89 rfl d_Reader_natureNamed_15 rfl (Nat.le_of_ble_eq_true rfl) (by decide) (by decide) (c_Tape_isNameX_11 h b hI s sZ sE sK q qZ qE qK f fZ fE fK u uZ uE uK (TP_fr f0 (fun _ => rfl) hy0) (by omega)) (fun z26 h27 z26Z z26E p28 => ?_)
            obtain ⟨eh27, p28⟩ := p28
            subst eh27
            refine V_if_eq 23 z26E d_Reader_natureNamed_18 (by decide) (fun c29 => ?_) (fun c29 => ?_)
            ·
              refine V_iinc (v := 3) 1 [some (.ref 88), some (.int 3)] d_Reader_natureNamed_23 rfl (by decide) (by decide) rfl rfl ?_
              refine V_goto 2 d_Reader_natureNamed_26 (by decide) ?_
              refine V_iload_n 1 d_Reader_natureNamed_2 rfl rfl ?_
              refine V_iconst 5 d_Reader_natureNamed_3 (by decide) ?_
              refine V_icmp_ge 29 tc_3 tc_5 d_Reader_natureNamed_4 (by decide) (fun c31 => ?_) (fun c31 => ?_)
              ·
                exact absurd c31 (by decide)
              ·
                refine V_aload_n 0 d_Reader_natureNamed_7 rfl rfl ?_
                refine V_getR fa_Reader_12 sk_88 rfl d_Reader_natureNamed_8 ?_
                refine V_iload_n 1 d_Reader_natureNamed_11 rfl rfl ?_
                refine N_callSR [.int 3] [.ref 89] cs_Reader_179 d_Reader_natureNamed_12 rfl (Nat.le_of_ble_eq_true rfl) (by decide) (by decide) (c_Reader_natureNameX_3 h) (fun z32 h33 p34 => ?_)
                obtain ⟨eh33, rfl⟩ := p34
                subst eh33
                refine N_callVI [.ref (135 + 12)] [] cv_Reader_175 sk_89 rfl d_Reader_natureNamed_15 rfl (Nat.le_of_ble_eq_true rfl) (by decide) (by decide) (c_Tape_isNameX_12 h b hI s sZ sE sK q qZ qE qK f fZ fE fK u uZ uE uK (TP_fr f0 (fun _ => rfl) hy0) (by omega)) (fun z35 h36 z35Z z35E p37 => ?_)
                obtain ⟨eh36, p37⟩ := p37
                subst eh36
                refine V_if_eq 23 z35E d_Reader_natureNamed_18 (by decide) (fun c38 => ?_) (fun c38 => ?_)
                ·
                  refine V_iinc (v := 4) 1 [some (.ref 88), some (.int 4)] d_Reader_natureNamed_23 rfl (by decide) (by decide) rfl rfl ?_
                  refine V_goto 2 d_Reader_natureNamed_26 (by decide) ?_
                  refine V_iload_n 1 d_Reader_natureNamed_2 rfl rfl ?_
                  refine V_iconst 5 d_Reader_natureNamed_3 (by decide) ?_
                  refine V_icmp_ge 29 tc_4 tc_5 d_Reader_natureNamed_4 (by decide) (fun c40 => ?_) (fun c40 => ?_)
                  ·
                    exact absurd c40 (by decide)
                  ·
                    refine V_aload_n 0 d_Reader_natureNamed_7 rfl rfl ?_
                    refine V_getR fa_Reader_12 sk_88 rfl d_Reader_natureNamed_8 ?_
                    refine V_iload_n 1 d_Reader_natureNamed_11 rfl rfl ?_
                    refine N_callSR [.int 4] [.ref 89] cs_Reader_179 d_Reader_natureNamed_12 rfl (Nat.le_of_ble_eq_true rfl) (by decide) (by decide) (c_Reader_natureNameX_4 h) (fun z41 h42 p43 => ?_)
                    obtain ⟨eh42, rfl⟩ := p43
                    subst eh42
                    refine N_callVI [.ref (135 + 13)] [] cv_Reader_175 sk_89 rfl d_Reader_natureNamed_15 rfl (Nat.le_of_ble_eq_true rfl) (by decide) (by decide) (c_Tape_isNameX_13 h b hI s sZ sE sK q qZ qE qK f fZ fE fK u uZ uE uK (TP_fr f0 (fun _ => rfl) hy0) (by omega)) (fun z44 h45 z44Z z44E p46 => ?_)
                    obtain ⟨eh45, p46⟩ := p46
                    subst eh45
                    refine V_if_eq 23 z44E d_Reader_natureNamed_18 (by decide) (fun c47 => ?_) (fun c47 => ?_)
                    ·
                      refine V_iinc (v := 5) 1 [some (.ref 88), some (.int 5)] d_Reader_natureNamed_23 rfl (by decide) (by decide) rfl rfl ?_
                      refine V_goto 2 d_Reader_natureNamed_26 (by decide) ?_
                      refine V_iload_n 1 d_Reader_natureNamed_2 rfl rfl ?_
                      refine V_iconst 5 d_Reader_natureNamed_3 (by decide) ?_
                      refine V_icmp_ge 29 tc_5 tc_5 d_Reader_natureNamed_4 (by decide) (fun c49 => ?_) (fun c49 => ?_)
                      ·
                        refine V_iconst (-1) d_Reader_natureNamed_29 (by decide) ?_
                        exact V_iret rfl d_Reader_natureNamed_30 ⟨(-1), rfl, ⟨rfl, (if q : qZ = 1 then Or.inr (tc_m1.trans (show x_nt b fZ uZ = (-1) from x_nt_no (by omega) (by omega) (by omega) (by omega) (by omega)).symm) else Or.inl q)⟩⟩
                      ·
                        exact absurd c49 (by decide)
                    ·
                      refine V_iload_n 1 d_Reader_natureNamed_21 rfl rfl ?_
                      exact V_iret rfl d_Reader_natureNamed_22 ⟨4, rfl, ⟨rfl, (if q : qZ = 1 then Or.inr (tc_4.trans (show x_nt b fZ uZ = 4 from x_nt_of4 (by have := x_nmb13 b fZ uZ; omega)).symm) else Or.inl q)⟩⟩
                ·
                  refine V_iload_n 1 d_Reader_natureNamed_21 rfl rfl ?_
                  exact V_iret rfl d_Reader_natureNamed_22 ⟨3, rfl, ⟨rfl, (if q : qZ = 1 then Or.inr (tc_3.trans (show x_nt b fZ uZ = 3 from x_nt_of3 (by have := x_nmb12 b fZ uZ; omega)).symm) else Or.inl q)⟩⟩
            ·
              refine V_iload_n 1 d_Reader_natureNamed_21 rfl rfl ?_
              exact V_iret rfl d_Reader_natureNamed_22 ⟨2, rfl, ⟨rfl, (if q : qZ = 1 then Or.inr (tc_2.trans (show x_nt b fZ uZ = 2 from x_nt_of2 (by have := x_nmb11 b fZ uZ; omega)).symm) else Or.inl q)⟩⟩
        ·
          refine V_iload_n 1 d_Reader_natureNamed_21 rfl rfl ?_
          exact V_iret rfl d_Reader_natureNamed_22 ⟨1, rfl, ⟨rfl, (if q : qZ = 1 then Or.inr (tc_1.trans (show x_nt b fZ uZ = 1 from x_nt_of1 (by have := x_nmb2 b fZ uZ; omega)).symm) else Or.inl q)⟩⟩
    ·
      refine V_iload_n 1 d_Reader_natureNamed_21 rfl rfl ?_
      exact V_iret rfl d_Reader_natureNamed_22 ⟨0, rfl, ⟨rfl, (if q : qZ = 1 then Or.inr (tc_0.trans (show x_nt b fZ uZ = 0 from x_nt_of0 (by have := x_nmb10 b fZ uZ; omega)).symm) else Or.inl q)⟩⟩
end
section
def S_Mod_needsX : List (Nat × Option Nat) := [(116, some 20), (116, some 21)]
abbrev q_Mod_needsX (h : Hp) (g : Int32) (gZ : Int) (c : Int32) (cZ : Int) (f : Int32) (fZ : Int) (w : Int32) (wZ : Int) (a : Int32) (aZ : Int) : Option Value → Hp → Prop := pVd (fun h' => Inv h' ∧ fr S_Mod_needsX h h' ∧ ∃ (u : Int32) (uZ : Int), u.toInt = uZ ∧ h'.1 116 20 = u ∧ ∃ (y : Int32) (yZ : Int), y.toInt = yZ ∧ h'.1 116 21 = y ∧ ((gZ ≠ 0 ∨ wZ ≠ 0) ∧ uZ = wZ ∧ yZ = aZ ∨ gZ = 0 ∧ wZ = 0 ∧ uZ = cZ ∧ yZ = fZ))
set_option maxRecDepth 100000 in
theorem c_Mod_needsX (h : Hp) (hI : Inv h) (g : Int32) (gZ : Int) (gE : g.toInt = gZ) (c : Int32) (cZ : Int) (cE : c.toInt = cZ) (f : Int32) (fZ : Int) (fE : f.toInt = fZ) (fK : h.1 116 17 = f) (w : Int32) (wZ : Int) (wE : w.toInt = wZ) (wK : h.1 116 20 = w) (a : Int32) (aZ : Int) (aE : a.toInt = aZ) (aK : h.1 116 21 = a) : Ct y_Mod_needs b_Mod_needs 3 none 0 0 [.ref 116, .int g, .int c] h (q_Mod_needsX h g gZ c cZ f fZ w wZ a aZ) := by
  refine ct_ow R_Mod [some (.ref 116), some (.int g), some (.int c)] rfl (by decide) rfl (Nat.le_of_ble_eq_true rfl) ?_
  have f0 : fr S_Mod_needsX h h := fr_rf
  have g1 : 0 ≤ fZ ∧ fZ ≤ 160 := inv_at hI fE fK.symm rfl
  refine V_iload_n 1 d_Mod_needs_0 rfl rfl ?_
  refine V_if_ne 24 gE d_Mod_needs_1 (by decide) (fun c2 => ?_) (fun c2 => ?_)
  ·
    exact V_vret rfl d_Mod_needs_24 ⟨rfl, ⟨hI, f0, w, wZ, wE, wK, a, aZ, aE, aK, (by omega)⟩⟩
  ·
    refine V_aload_n 0 d_Mod_needs_4 rfl rfl ?_
    refine N_getK fa_Mod_102 sk_116 rfl d_Mod_needs_5 wK ?_
    refine V_if_ne 24 wE d_Mod_needs_8 (by decide) (fun c3 => ?_) (fun c3 => ?_)
    ·
      exact V_vret rfl d_Mod_needs_24 ⟨rfl, ⟨hI, f0, w, wZ, wE, wK, a, aZ, aE, aK, (by omega)⟩⟩
    ·
      refine V_aload_n 0 d_Mod_needs_11 rfl rfl ?_
      refine V_iload_n 2 d_Mod_needs_12 rfl rfl ?_
      refine N_putI fp_Mod_102 sk_116 rfl d_Mod_needs_13 (fun h4 eh4 => ?_)
      have hI5 : Inv h4 := inv_full hI eh4 rfl
      have f6 : fr S_Mod_needsX h h4 := fr_put f0 eh4 rfl
      refine V_aload_n 0 d_Mod_needs_16 rfl rfl ?_
      refine V_aload_n 0 d_Mod_needs_17 rfl rfl ?_
      refine N_getK fa_Mod_105 sk_116 rfl d_Mod_needs_18 (kn_nei eh4 fK (by decide)) ?_
      refine N_putI fp_Mod_108 sk_116 rfl d_Mod_needs_21 (fun h7 eh7 => ?_)
      have hI8 : Inv h7 := inv_full hI5 eh7 rfl
      have f9 : fr S_Mod_needsX h h7 := fr_put f6 eh7 rfl
      exact V_vret rfl d_Mod_needs_24 ⟨rfl, ⟨hI8, f9, c, cZ, cE, (kn_nei eh7 (kn_put eh4) (by decide)), f, fZ, fE, (kn_put eh7), (by omega)⟩⟩
abbrev q_Mod_lookX (h : Hp) (b : Int → Int) (j : Int32) (jZ : Int) (s : Int32) (sZ : Int) : Option Value → Hp → Prop := pInt (fun r h' => h = h' ∧ (r.toInt = b jZ))
set_option maxRecDepth 100000 in
theorem c_Mod_lookX (h : Hp) (b : Int → Int) (hI : Inv h) (j : Int32) (jZ : Int) (jE : j.toInt = jZ) (s : Int32) (sZ : Int) (sE : s.toInt = sZ) (sK : h.1 116 15 = s) (hy0 : TP h 121 sZ b) (hy1 : 0 ≤ jZ) : Ct y_Mod_look b_Mod_look 2 (some .int) 0 0 [.ref 116, .int j] h (q_Mod_lookX h b j jZ s sZ) := by
  refine ct_ow R_Mod [some (.ref 116), some (.int j)] rfl (by decide) rfl (Nat.le_of_ble_eq_true rfl) ?_
  have f0 : fr [] h h := fr_rf
  have g1 : 0 ≤ sZ ∧ sZ ≤ 160 := inv_at hI sE sK.symm rfl
  refine V_iload_n 1 d_Mod_look_0 rfl rfl ?_
  refine V_aload_n 0 d_Mod_look_1 rfl rfl ?_
  refine N_getK fa_Mod_99 sk_116 rfl d_Mod_look_2 sK ?_
  refine V_icmp_ge 17 jE sE d_Mod_look_5 (by decide) (fun c2 => ?_) (fun c2 => ?_)
  ·
    refine V_iconst (-1) d_Mod_look_17 (by decide) ?_
    exact V_iret rfl d_Mod_look_18 ⟨(-1), rfl, ⟨rfl, (by have := TP_b hy0 jZ (by omega); (try rw [tc_m1]); omega)⟩⟩
  ·
    refine V_aload_n 0 d_Mod_look_8 rfl rfl ?_
    refine V_getR fa_Mod_23 sk_116 rfl d_Mod_look_9 ?_
    refine V_iload_n 1 d_Mod_look_12 rfl rfl ?_
    refine N_iald sk_121 jE (by omega) d_Mod_look_13 (fun z3 z3Z z3E z3e => ?_)
    have g4 : z3Z = b jZ := TP_rd (TP_fr f0 (fun _ => rfl) hy0) (by omega) z3E z3e
    refine V_goto 18 d_Mod_look_14 (by decide) ?_
    exact V_iret rfl d_Mod_look_18 ⟨z3, rfl, ⟨rfl, (by have := TP_b hy0 jZ (by omega); (try rw [z3E]); omega)⟩⟩
abbrev q_Mod_isX (h : Hp) (b : Int → Int) (n : Int32) (nZ : Int) (a : Int32) (aZ : Int) (c : Int32) (cZ : Int) (d : Int32) (dZ : Int) (s : Int32) (sZ : Int) (p : Int32) (pZ : Int) (f : Int32) (fZ : Int) : Option Value → Hp → Prop := pInt (fun r h' => h = h' ∧ (r.toInt = x_is b fZ pZ nZ aZ cZ dZ ∧ 0 ≤ r.toInt ∧ r.toInt ≤ 1))
set_option maxRecDepth 100000 in
theorem c_Mod_isX (h : Hp) (b : Int → Int) (hI : Inv h) (n : Int32) (nZ : Int) (nE : n.toInt = nZ) (a : Int32) (aZ : Int) (aE : a.toInt = aZ) (c : Int32) (cZ : Int) (cE : c.toInt = cZ) (d : Int32) (dZ : Int) (dE : d.toInt = dZ) (s : Int32) (sZ : Int) (sE : s.toInt = sZ) (sK : h.1 116 15 = s) (p : Int32) (pZ : Int) (pE : p.toInt = pZ) (pK : h.1 116 16 = p) (f : Int32) (fZ : Int) (fE : f.toInt = fZ) (fK : h.1 116 17 = f) (hy0 : TP h 121 sZ b) (hy1 : 0 ≤ fZ ∧ fZ ≤ 160) (hy2 : 0 ≤ pZ ∧ pZ ≤ 160) : Ct y_Mod_is b_Mod_is 5 (some .boolean) 1 21 [.ref 116, .int n, .int a, .int c, .int d] h (q_Mod_isX h b n nZ a aZ c cZ d dZ s sZ p pZ f fZ) := by
  refine ct_ow R_Mod [some (.ref 116), some (.int n), some (.int a), some (.int c), some (.int d)] rfl (by decide) rfl (Nat.le_of_ble_eq_true rfl) ?_
  have f0 : fr [] h h := fr_rf
  have g1 : 0 ≤ sZ ∧ sZ ≤ 160 := inv_at hI sE sK.symm rfl
  have g2 : 0 ≤ pZ ∧ pZ ≤ 160 := inv_at hI pE pK.symm rfl
  have g3 : 0 ≤ fZ ∧ fZ ≤ 160 := inv_at hI fE fK.symm rfl
  refine V_aload_n 0 d_Mod_is_0 rfl rfl ?_
  refine N_getK fa_Mod_111 sk_116 rfl d_Mod_is_1 pK ?_
  refine V_aload_n 0 d_Mod_is_4 rfl rfl ?_
  refine N_getK fa_Mod_105 sk_116 rfl d_Mod_is_5 fK ?_
  refine V_isub pE fE (by omega) d_Mod_is_8 (fun z4 z4e z4E => ?_)
  refine V_iload_n 1 d_Mod_is_9 rfl rfl ?_
  refine V_icmp_ne 58 z4E nE d_Mod_is_10 (by decide) (fun c5 => ?_) (fun c5 => ?_)
  ·
    refine V_iconst 0 d_Mod_is_58 (by decide) ?_
    exact V_zret rfl (by decide) d_Mod_is_59 ⟨0, rfl, ⟨rfl, ⟨tc_0.trans (x_is0 (by have h0 := congrArg b (Int.add_zero fZ); omega)).symm, by decide, by decide⟩⟩⟩
  ·
    refine V_aload_n 0 d_Mod_is_13 rfl rfl ?_
    refine V_aload_n 0 d_Mod_is_14 rfl rfl ?_
    refine N_getK fa_Mod_105 sk_116 rfl d_Mod_is_15 fK ?_
    refine N_callVI [.int f] [] cv_Mod_114 sk_116 rfl d_Mod_is_18 rfl (Nat.le_of_ble_eq_true rfl) (by decide) (by decide) (c_Mod_lookX h b hI f fZ fE s sZ sE sK (TP_fr f0 (fun _ => rfl) hy0) (by omega)) (fun z6 h7 z6Z z6E p8 => ?_)
    obtain ⟨eh7, p8⟩ := p8
    subst eh7
    refine V_iload_n 2 d_Mod_is_21 rfl rfl ?_
    refine V_icmp_ne 58 z6E aE d_Mod_is_22 (by decide) (fun c9 => ?_) (fun c9 => ?_)
    ·
      refine V_iconst 0 d_Mod_is_58 (by decide) ?_
      exact V_zret rfl (by decide) d_Mod_is_59 ⟨0, rfl, ⟨rfl, ⟨tc_0.trans (x_is0 (by have h0 := congrArg b (Int.add_zero fZ); omega)).symm, by decide, by decide⟩⟩⟩
    ·
      refine V_aload_n 0 d_Mod_is_25 rfl rfl ?_
      refine V_aload_n 0 d_Mod_is_26 rfl rfl ?_
      refine N_getK fa_Mod_105 sk_116 rfl d_Mod_is_27 fK ?_
      refine V_iconst 1 d_Mod_is_30 (by decide) ?_
      refine V_iadd fE tc_1 (by omega) d_Mod_is_31 (fun z10 z10e z10E => ?_)
      refine N_callVI [.int z10] [] cv_Mod_114 sk_116 rfl d_Mod_is_32 rfl (Nat.le_of_ble_eq_true rfl) (by decide) (by decide) (c_Mod_lookX h b hI z10 ((fZ + 1)) z10E s sZ sE sK (TP_fr f0 (fun _ => rfl) hy0) (by omega)) (fun z11 h12 z11Z z11E p13 => ?_)
      obtain ⟨eh12, p13⟩ := p13
      subst eh12
      refine V_iload_n 3 d_Mod_is_35 rfl rfl ?_
      refine V_icmp_ne 58 z11E cE d_Mod_is_36 (by decide) (fun c14 => ?_) (fun c14 => ?_)
      ·
        refine V_iconst 0 d_Mod_is_58 (by decide) ?_
        exact V_zret rfl (by decide) d_Mod_is_59 ⟨0, rfl, ⟨rfl, ⟨tc_0.trans (x_is0 (by have h0 := congrArg b (Int.add_zero fZ); omega)).symm, by decide, by decide⟩⟩⟩
      ·
        refine V_aload_n 0 d_Mod_is_39 rfl rfl ?_
        refine V_aload_n 0 d_Mod_is_40 rfl rfl ?_
        refine N_getK fa_Mod_105 sk_116 rfl d_Mod_is_41 fK ?_
        refine V_iconst 2 d_Mod_is_44 (by decide) ?_
        refine V_iadd fE tc_2 (by omega) d_Mod_is_45 (fun z15 z15e z15E => ?_)
        refine N_callVI [.int z15] [] cv_Mod_114 sk_116 rfl d_Mod_is_46 rfl (Nat.le_of_ble_eq_true rfl) (by decide) (by decide) (c_Mod_lookX h b hI z15 ((fZ + 2)) z15E s sZ sE sK (TP_fr f0 (fun _ => rfl) hy0) (by omega)) (fun z16 h17 z16Z z16E p18 => ?_)
        obtain ⟨eh17, p18⟩ := p18
        subst eh17
        refine V_iload d_Mod_is_49 rfl ?_
        refine V_icmp_ne 58 z16E dE d_Mod_is_51 (by decide) (fun c19 => ?_) (fun c19 => ?_)
        ·
          refine V_iconst 0 d_Mod_is_58 (by decide) ?_
          exact V_zret rfl (by decide) d_Mod_is_59 ⟨0, rfl, ⟨rfl, ⟨tc_0.trans (x_is0 (by have h0 := congrArg b (Int.add_zero fZ); omega)).symm, by decide, by decide⟩⟩⟩
        ·
          refine V_iconst 1 d_Mod_is_54 (by decide) ?_
          refine V_goto 59 d_Mod_is_55 (by decide) ?_
          exact V_zret rfl (by decide) d_Mod_is_59 ⟨1, rfl, ⟨rfl, ⟨tc_1.trans (x_is1 (by have h0 := congrArg b (Int.add_zero fZ); omega)).symm, by decide, by decide⟩⟩⟩
abbrev q_Mod_endsX (h : Hp) (b : Int → Int) (a : Int32) (aZ : Int) (c : Int32) (cZ : Int) (d : Int32) (dZ : Int) (s : Int32) (sZ : Int) (f : Int32) (fZ : Int) : Option Value → Hp → Prop := pInt (fun r h' => h = h' ∧ (r.toInt = x_ens b fZ aZ cZ dZ ∧ 0 ≤ r.toInt ∧ r.toInt ≤ 1))
set_option maxRecDepth 100000 in
theorem c_Mod_endsX (h : Hp) (b : Int → Int) (hI : Inv h) (a : Int32) (aZ : Int) (aE : a.toInt = aZ) (c : Int32) (cZ : Int) (cE : c.toInt = cZ) (d : Int32) (dZ : Int) (dE : d.toInt = dZ) (s : Int32) (sZ : Int) (sE : s.toInt = sZ) (sK : h.1 116 15 = s) (f : Int32) (fZ : Int) (fE : f.toInt = fZ) (fK : h.1 116 17 = f) (hy0 : TP h 121 sZ b) (hy1 : 0 ≤ fZ ∧ fZ ≤ 160) : Ct y_Mod_ends b_Mod_ends 4 (some .boolean) 1 21 [.ref 116, .int a, .int c, .int d] h (q_Mod_endsX h b a aZ c cZ d dZ s sZ f fZ) := by
  refine ct_ow R_Mod [some (.ref 116), some (.int a), some (.int c), some (.int d)] rfl (by decide) rfl (Nat.le_of_ble_eq_true rfl) ?_
  have f0 : fr [] h h := fr_rf
  have g1 : 0 ≤ sZ ∧ sZ ≤ 160 := inv_at hI sE sK.symm rfl
  have g2 : 0 ≤ fZ ∧ fZ ≤ 160 := inv_at hI fE fK.symm rfl
  refine V_aload_n 0 d_Mod_ends_0 rfl rfl ?_
  refine V_aload_n 0 d_Mod_ends_1 rfl rfl ?_
  refine N_getK fa_Mod_105 sk_116 rfl d_Mod_ends_2 fK ?_
  refine V_iconst 3 d_Mod_ends_5 (by decide) ?_
  refine V_iadd fE tc_3 (by omega) d_Mod_ends_6 (fun z3 z3e z3E => ?_)
  refine N_callVI [.int z3] [] cv_Mod_114 sk_116 rfl d_Mod_ends_7 rfl (Nat.le_of_ble_eq_true rfl) (by decide) (by decide) (c_Mod_lookX h b hI z3 ((fZ + 3)) z3E s sZ sE sK (TP_fr f0 (fun _ => rfl) hy0) (by omega)) (fun z4 h5 z4Z z4E p6 => ?_)
  obtain ⟨eh5, p6⟩ := p6
  subst eh5
  refine V_iload_n 1 d_Mod_ends_10 rfl rfl ?_
  refine V_icmp_ne 54 z4E aE d_Mod_ends_11 (by decide) (fun c7 => ?_) (fun c7 => ?_)
  ·
    refine V_iconst 0 d_Mod_ends_54 (by decide) ?_
    exact V_zret rfl (by decide) d_Mod_ends_55 ⟨0, rfl, ⟨rfl, ⟨tc_0.trans (x_ens0 (by omega)).symm, by decide, by decide⟩⟩⟩
  ·
    refine V_iload_n 2 d_Mod_ends_14 rfl rfl ?_
    refine V_if_eq 32 cE d_Mod_ends_15 (by decide) (fun c8 => ?_) (fun c8 => ?_)
    ·
      refine V_iload_n 3 d_Mod_ends_32 rfl rfl ?_
      refine V_if_eq 50 dE d_Mod_ends_33 (by decide) (fun c9 => ?_) (fun c9 => ?_)
      ·
        refine V_iconst 1 d_Mod_ends_50 (by decide) ?_
        refine V_goto 55 d_Mod_ends_51 (by decide) ?_
        exact V_zret rfl (by decide) d_Mod_ends_55 ⟨1, rfl, ⟨rfl, ⟨tc_1.trans (x_ens1 (by omega)).symm, by decide, by decide⟩⟩⟩
      ·
        refine V_aload_n 0 d_Mod_ends_36 rfl rfl ?_
        refine V_aload_n 0 d_Mod_ends_37 rfl rfl ?_
        refine N_getK fa_Mod_105 sk_116 rfl d_Mod_ends_38 fK ?_
        refine V_iconst 5 d_Mod_ends_41 (by decide) ?_
        refine V_iadd fE tc_5 (by omega) d_Mod_ends_42 (fun z10 z10e z10E => ?_)
        refine N_callVI [.int z10] [] cv_Mod_114 sk_116 rfl d_Mod_ends_43 rfl (Nat.le_of_ble_eq_true rfl) (by decide) (by decide) (c_Mod_lookX h b hI z10 ((fZ + 5)) z10E s sZ sE sK (TP_fr f0 (fun _ => rfl) hy0) (by omega)) (fun z11 h12 z11Z z11E p13 => ?_)
        obtain ⟨eh12, p13⟩ := p13
        subst eh12
        refine V_iload_n 3 d_Mod_ends_46 rfl rfl ?_
        refine V_icmp_ne 54 z11E dE d_Mod_ends_47 (by decide) (fun c14 => ?_) (fun c14 => ?_)
        ·
          refine V_iconst 0 d_Mod_ends_54 (by decide) ?_
          exact V_zret rfl (by decide) d_Mod_ends_55 ⟨0, rfl, ⟨rfl, ⟨tc_0.trans (x_ens0 (by omega)).symm, by decide, by decide⟩⟩⟩
        ·
          refine V_iconst 1 d_Mod_ends_50 (by decide) ?_
          refine V_goto 55 d_Mod_ends_51 (by decide) ?_
          exact V_zret rfl (by decide) d_Mod_ends_55 ⟨1, rfl, ⟨rfl, ⟨tc_1.trans (x_ens1 (by omega)).symm, by decide, by decide⟩⟩⟩
    ·
      refine V_aload_n 0 d_Mod_ends_18 rfl rfl ?_
      refine V_aload_n 0 d_Mod_ends_19 rfl rfl ?_
      refine N_getK fa_Mod_105 sk_116 rfl d_Mod_ends_20 fK ?_
      refine V_iconst 4 d_Mod_ends_23 (by decide) ?_
      refine V_iadd fE tc_4 (by omega) d_Mod_ends_24 (fun z15 z15e z15E => ?_)
      refine N_callVI [.int z15] [] cv_Mod_114 sk_116 rfl d_Mod_ends_25 rfl (Nat.le_of_ble_eq_true rfl) (by decide) (by decide) (c_Mod_lookX h b hI z15 ((fZ + 4)) z15E s sZ sE sK (TP_fr f0 (fun _ => rfl) hy0) (by omega)) (fun z16 h17 z16Z z16E p18 => ?_)
      obtain ⟨eh17, p18⟩ := p18
      subst eh17
      refine V_iload_n 2 d_Mod_ends_28 rfl rfl ?_
      refine V_icmp_ne 54 z16E cE d_Mod_ends_29 (by decide) (fun c19 => ?_) (fun c19 => ?_)
      ·
        refine V_iconst 0 d_Mod_ends_54 (by decide) ?_
        exact V_zret rfl (by decide) d_Mod_ends_55 ⟨0, rfl, ⟨rfl, ⟨tc_0.trans (x_ens0 (by omega)).symm, by decide, by decide⟩⟩⟩
      ·
        refine V_iload_n 3 d_Mod_ends_32 rfl rfl ?_
        refine V_if_eq 50 dE d_Mod_ends_33 (by decide) (fun c20 => ?_) (fun c20 => ?_)
        ·
          refine V_iconst 1 d_Mod_ends_50 (by decide) ?_
          refine V_goto 55 d_Mod_ends_51 (by decide) ?_
          exact V_zret rfl (by decide) d_Mod_ends_55 ⟨1, rfl, ⟨rfl, ⟨tc_1.trans (x_ens1 (by omega)).symm, by decide, by decide⟩⟩⟩
        ·
          refine V_aload_n 0 d_Mod_ends_36 rfl rfl ?_
          refine V_aload_n 0 d_Mod_ends_37 rfl rfl ?_
          refine N_getK fa_Mod_105 sk_116 rfl d_Mod_ends_38 fK ?_
          refine V_iconst 5 d_Mod_ends_41 (by decide) ?_
          refine V_iadd fE tc_5 (by omega) d_Mod_ends_42 (fun z21 z21e z21E => ?_)
          refine N_callVI [.int z21] [] cv_Mod_114 sk_116 rfl d_Mod_ends_43 rfl (Nat.le_of_ble_eq_true rfl) (by decide) (by decide) (c_Mod_lookX h b hI z21 ((fZ + 5)) z21E s sZ sE sK (TP_fr f0 (fun _ => rfl) hy0) (by omega)) (fun z22 h23 z22Z z22E p24 => ?_)
          obtain ⟨eh23, p24⟩ := p24
          subst eh23
          refine V_iload_n 3 d_Mod_ends_46 rfl rfl ?_
          refine V_icmp_ne 54 z22E dE d_Mod_ends_47 (by decide) (fun c25 => ?_) (fun c25 => ?_)
          ·
            refine V_iconst 0 d_Mod_ends_54 (by decide) ?_
            exact V_zret rfl (by decide) d_Mod_ends_55 ⟨0, rfl, ⟨rfl, ⟨tc_0.trans (x_ens0 (by omega)).symm, by decide, by decide⟩⟩⟩
          ·
            refine V_iconst 1 d_Mod_ends_50 (by decide) ?_
            refine V_goto 55 d_Mod_ends_51 (by decide) ?_
            exact V_zret rfl (by decide) d_Mod_ends_55 ⟨1, rfl, ⟨rfl, ⟨tc_1.trans (x_ens1 (by omega)).symm, by decide, by decide⟩⟩⟩
abbrev q_Mod_ruleLineX (h : Hp) (b : Int → Int) (s : Int32) (sZ : Int) (p : Int32) (pZ : Int) (f : Int32) (fZ : Int) : Option Value → Hp → Prop := pInt (fun r h' => h = h' ∧ (r.toInt = 0 ∧ x_nm0 b fZ pZ = 1 ∨ r.toInt = 1 ∧ x_nm6 b fZ pZ = 1 ∨ r.toInt = 2 ∧ x_nm7 b fZ pZ = 1 ∨ r.toInt = 3 ∧ x_nm8 b fZ pZ = 1 ∨ r.toInt = -4 ∧ x_nm0 b fZ pZ = 0 ∧ x_nm6 b fZ pZ = 0 ∧ x_nm7 b fZ pZ = 0 ∧ x_nm8 b fZ pZ = 0))
set_option maxRecDepth 100000 in
theorem c_Mod_ruleLineX (h : Hp) (b : Int → Int) (hI : Inv h) (s : Int32) (sZ : Int) (sE : s.toInt = sZ) (sK : h.1 116 15 = s) (p : Int32) (pZ : Int) (pE : p.toInt = pZ) (pK : h.1 116 16 = p) (f : Int32) (fZ : Int) (fE : f.toInt = fZ) (fK : h.1 116 17 = f) (hy0 : TP h 121 sZ b) (hy1 : 0 ≤ fZ ∧ fZ ≤ 160) (hy2 : 0 ≤ pZ ∧ pZ ≤ 160) : Ct y_Mod_ruleLine b_Mod_ruleLine 1 (some .int) 2 45 [.ref 116] h (q_Mod_ruleLineX h b s sZ p pZ f fZ) := by
  refine ct_ow R_Mod [some (.ref 116)] rfl (by decide) rfl (Nat.le_of_ble_eq_true rfl) ?_
  have f0 : fr [] h h := fr_rf
  have g1 : 0 ≤ sZ ∧ sZ ≤ 160 := inv_at hI sE sK.symm rfl
  have g2 : 0 ≤ pZ ∧ pZ ≤ 160 := inv_at hI pE pK.symm rfl
  have g3 : 0 ≤ fZ ∧ fZ ≤ 160 := inv_at hI fE fK.symm rfl
  have J4 : x_nm0 b fZ pZ = 0 → V R_Mod b_Mod_ruleLine 1 (some .int) 2 45 (q_Mod_ruleLineX h b s sZ p pZ f fZ) h 30 [some (.ref 116)] [] := by
    intro q6
    have J7 : x_nm6 b fZ pZ = 0 → V R_Mod b_Mod_ruleLine 1 (some .int) 2 45 (q_Mod_ruleLineX h b s sZ p pZ f fZ) h 57 [some (.ref 116)] [] := by
      intro q9
      have J10 : x_nm7 b fZ pZ = 0 → V R_Mod b_Mod_ruleLine 1 (some .int) 2 45 (q_Mod_ruleLineX h b s sZ p pZ f fZ) h 87 [some (.ref 116)] [] := by
        intro q12
        refine V_aload_n 0 d_Mod_ruleLine_87 rfl rfl ?_
        refine V_iconst 3 d_Mod_ruleLine_88 (by decide) ?_
        refine V_bipush 114 d_Mod_ruleLine_89 (by decide) ?_
        refine V_bipush 111 d_Mod_ruleLine_91 (by decide) ?_
        refine V_bipush 100 d_Mod_ruleLine_93 (by decide) ?_
        refine N_callVI [.int 3, .int 114, .int 111, .int 100] [] cv_Mod_118 sk_116 rfl d_Mod_ruleLine_95 rfl (Nat.le_of_ble_eq_true rfl) (by decide) (by decide) (c_Mod_isX h b hI 3 3 tc_3 114 114 tc_114 111 111 tc_111 100 100 tc_100 s sZ sE sK p pZ pE pK f fZ fE fK (TP_fr f0 (fun _ => rfl) hy0) (by omega) (by omega)) (fun z13 h14 z13Z z13E p15 => ?_)
        obtain ⟨eh14, p15⟩ := p15
        subst eh14
        refine V_if_eq 105 z13E d_Mod_ruleLine_98 (by decide) (fun c16 => ?_) (fun c16 => ?_)
        ·
          refine V_bipush (-4) d_Mod_ruleLine_105 (by decide) ?_
          exact V_iret rfl d_Mod_ruleLine_107 ⟨(-4), rfl, ⟨rfl, (by rw [tc_m4]; have a8 := x_nmr8 b fZ pZ; omega)⟩⟩
        ·
          refine V_iconst 3 d_Mod_ruleLine_101 (by decide) ?_
          refine V_goto 107 d_Mod_ruleLine_102 (by decide) ?_
          exact V_iret rfl d_Mod_ruleLine_107 ⟨3, rfl, ⟨rfl, (by rw [tc_3]; have a8 := x_nmr8 b fZ pZ; omega)⟩⟩
      refine V_aload_n 0 d_Mod_ruleLine_57 rfl rfl ?_
      refine V_iconst 5 d_Mod_ruleLine_58 (by decide) ?_
      refine V_bipush 112 d_Mod_ruleLine_59 (by decide) ?_
      refine V_bipush 114 d_Mod_ruleLine_61 (by decide) ?_
      refine V_bipush 105 d_Mod_ruleLine_63 (by decide) ?_
      refine N_callVI [.int 5, .int 112, .int 114, .int 105] [] cv_Mod_118 sk_116 rfl d_Mod_ruleLine_65 rfl (Nat.le_of_ble_eq_true rfl) (by decide) (by decide) (c_Mod_isX h b hI 5 5 tc_5 112 112 tc_112 114 114 tc_114 105 105 tc_105 s sZ sE sK p pZ pE pK f fZ fE fK (TP_fr f0 (fun _ => rfl) hy0) (by omega) (by omega)) (fun z17 h18 z17Z z17E p19 => ?_)
      obtain ⟨eh18, p19⟩ := p19
      subst eh18
      refine V_if_eq 87 z17E d_Mod_ruleLine_68 (by decide) (fun c20 => ?_) (fun c20 => ?_)
      ·
        exact J10  (by have := x_nmr7 b fZ pZ; omega)
      ·
        refine V_aload_n 0 d_Mod_ruleLine_71 rfl rfl ?_
        refine V_bipush 99 d_Mod_ruleLine_72 (by decide) ?_
        refine V_bipush 101 d_Mod_ruleLine_74 (by decide) ?_
        refine V_iconst 0 d_Mod_ruleLine_76 (by decide) ?_
        refine N_callVI [.int 99, .int 101, .int 0] [] cv_Mod_122 sk_116 rfl d_Mod_ruleLine_77 rfl (Nat.le_of_ble_eq_true rfl) (by decide) (by decide) (c_Mod_endsX h b hI 99 99 tc_99 101 101 tc_101 0 0 tc_0 s sZ sE sK f fZ fE fK (TP_fr f0 (fun _ => rfl) hy0) (by omega)) (fun z21 h22 z21Z z21E p23 => ?_)
        obtain ⟨eh22, p23⟩ := p23
        subst eh22
        refine V_if_eq 87 z21E d_Mod_ruleLine_80 (by decide) (fun c24 => ?_) (fun c24 => ?_)
        ·
          exact J10  (by have := x_nmr7 b fZ pZ; omega)
        ·
          refine V_iconst 2 d_Mod_ruleLine_83 (by decide) ?_
          refine V_goto 107 d_Mod_ruleLine_84 (by decide) ?_
          exact V_iret rfl d_Mod_ruleLine_107 ⟨2, rfl, ⟨rfl, (by rw [tc_2]; have a7 := x_nmr7 b fZ pZ; omega)⟩⟩
    refine V_aload_n 0 d_Mod_ruleLine_30 rfl rfl ?_
    refine V_iconst 4 d_Mod_ruleLine_31 (by decide) ?_
    refine V_bipush 99 d_Mod_ruleLine_32 (by decide) ?_
    refine V_bipush 111 d_Mod_ruleLine_34 (by decide) ?_
    refine V_bipush 115 d_Mod_ruleLine_36 (by decide) ?_
    refine N_callVI [.int 4, .int 99, .int 111, .int 115] [] cv_Mod_118 sk_116 rfl d_Mod_ruleLine_38 rfl (Nat.le_of_ble_eq_true rfl) (by decide) (by decide) (c_Mod_isX h b hI 4 4 tc_4 99 99 tc_99 111 111 tc_111 115 115 tc_115 s sZ sE sK p pZ pE pK f fZ fE fK (TP_fr f0 (fun _ => rfl) hy0) (by omega) (by omega)) (fun z25 h26 z25Z z25E p27 => ?_)
    obtain ⟨eh26, p27⟩ := p27
    subst eh26
    refine V_if_eq 57 z25E d_Mod_ruleLine_41 (by decide) (fun c28 => ?_) (fun c28 => ?_)
    ·
      exact J7  (by have := x_nmr6 b fZ pZ; omega)
    ·
      refine V_aload_n 0 d_Mod_ruleLine_44 rfl rfl ?_
      refine V_bipush 116 d_Mod_ruleLine_45 (by decide) ?_
      refine V_iconst 0 d_Mod_ruleLine_47 (by decide) ?_
      refine V_iconst 0 d_Mod_ruleLine_48 (by decide) ?_
      refine N_callVI [.int 116, .int 0, .int 0] [] cv_Mod_122 sk_116 rfl d_Mod_ruleLine_49 rfl (Nat.le_of_ble_eq_true rfl) (by decide) (by decide) (c_Mod_endsX h b hI 116 116 tc_116 0 0 tc_0 0 0 tc_0 s sZ sE sK f fZ fE fK (TP_fr f0 (fun _ => rfl) hy0) (by omega)) (fun z29 h30 z29Z z29E p31 => ?_)
      obtain ⟨eh30, p31⟩ := p31
      subst eh30
      refine V_if_eq 57 z29E d_Mod_ruleLine_52 (by decide) (fun c32 => ?_) (fun c32 => ?_)
      ·
        exact J7  (by have := x_nmr6 b fZ pZ; omega)
      ·
        refine V_iconst 1 d_Mod_ruleLine_55 (by decide) ?_
        exact V_iret rfl d_Mod_ruleLine_56 ⟨1, rfl, ⟨rfl, (by rw [tc_1]; have a6 := x_nmr6 b fZ pZ; omega)⟩⟩
  refine V_aload_n 0 d_Mod_ruleLine_0 rfl rfl ?_
  refine V_bipush 6 d_Mod_ruleLine_1 (by decide) ?_
  refine V_bipush 99 d_Mod_ruleLine_3 (by decide) ?_
  refine V_bipush 111 d_Mod_ruleLine_5 (by decide) ?_
  refine V_bipush 117 d_Mod_ruleLine_7 (by decide) ?_
  refine N_callVI [.int 6, .int 99, .int 111, .int 117] [] cv_Mod_118 sk_116 rfl d_Mod_ruleLine_9 rfl (Nat.le_of_ble_eq_true rfl) (by decide) (by decide) (c_Mod_isX h b hI 6 6 tc_6 99 99 tc_99 111 111 tc_111 117 117 tc_117 s sZ sE sK p pZ pE pK f fZ fE fK (TP_fr f0 (fun _ => rfl) hy0) (by omega) (by omega)) (fun z33 h34 z33Z z33E p35 => ?_)
  obtain ⟨eh34, p35⟩ := p35
  subst eh34
  refine V_if_eq 30 z33E d_Mod_ruleLine_12 (by decide) (fun c36 => ?_) (fun c36 => ?_)
  ·
    exact J4  (by have := x_nmr0 b fZ pZ; omega)
  ·
    refine V_aload_n 0 d_Mod_ruleLine_15 rfl rfl ?_
    refine V_bipush 110 d_Mod_ruleLine_16 (by decide) ?_
    refine V_bipush 116 d_Mod_ruleLine_18 (by decide) ?_
    refine V_bipush 121 d_Mod_ruleLine_20 (by decide) ?_
    refine N_callVI [.int 110, .int 116, .int 121] [] cv_Mod_122 sk_116 rfl d_Mod_ruleLine_22 rfl (Nat.le_of_ble_eq_true rfl) (by decide) (by decide) (c_Mod_endsX h b hI 110 110 tc_110 116 116 tc_116 121 121 tc_121 s sZ sE sK f fZ fE fK (TP_fr f0 (fun _ => rfl) hy0) (by omega)) (fun z37 h38 z37Z z37E p39 => ?_)
    obtain ⟨eh38, p39⟩ := p39
    subst eh38
    refine V_if_eq 30 z37E d_Mod_ruleLine_25 (by decide) (fun c40 => ?_) (fun c40 => ?_)
    ·
      exact J4  (by have := x_nmr0 b fZ pZ; omega)
    ·
      refine V_iconst 0 d_Mod_ruleLine_28 (by decide) ?_
      exact V_iret rfl d_Mod_ruleLine_29 ⟨0, rfl, ⟨rfl, (by rw [tc_0]; have a0 := x_nmr0 b fZ pZ; omega)⟩⟩
abbrev q_Mod_lineNowX (h : Hp) (b : Int → Int) (s : Int32) (sZ : Int) (p : Int32) (pZ : Int) (f : Int32) (fZ : Int) : Option Value → Hp → Prop := pInt (fun r h' => h = h' ∧ (r.toInt = 4 ∧ x_ln b fZ pZ = 1 ∨ r.toInt = 5 ∧ x_ln b fZ pZ = 2 ∨ r.toInt = 6 ∧ x_ln b fZ pZ = 3 ∨ r.toInt = 7 ∧ x_ln b fZ pZ = 4 ∨ r.toInt = 8 ∧ x_ln b fZ pZ = 5 ∨ r.toInt = 9 ∧ x_ln b fZ pZ = 9 ∨ r.toInt = 0 ∧ x_ln b fZ pZ = 0 ∨ r.toInt = 1 ∧ x_ln b fZ pZ = 6 ∨ r.toInt = 2 ∧ x_ln b fZ pZ = 7 ∨ r.toInt = 3 ∧ x_ln b fZ pZ = 8 ∨ r.toInt = -4 ∧ x_ln b fZ pZ = -1))
set_option maxRecDepth 100000 in
theorem c_Mod_lineNowX (h : Hp) (b : Int → Int) (hI : Inv h) (s : Int32) (sZ : Int) (sE : s.toInt = sZ) (sK : h.1 116 15 = s) (p : Int32) (pZ : Int) (pE : p.toInt = pZ) (pK : h.1 116 16 = p) (f : Int32) (fZ : Int) (fE : f.toInt = fZ) (fK : h.1 116 17 = f) (hy0 : TP h 121 sZ b) (hy1 : 0 ≤ fZ ∧ fZ ≤ 160) (hy2 : 0 ≤ pZ ∧ pZ ≤ 160) : Ct y_Mod_lineNow b_Mod_lineNow 1 (some .int) 3 65 [.ref 116] h (q_Mod_lineNowX h b s sZ p pZ f fZ) := by
  refine ct_ow R_Mod [some (.ref 116)] rfl (by decide) rfl (Nat.le_of_ble_eq_true rfl) ?_
  have f0 : fr [] h h := fr_rf
  have g1 : 0 ≤ sZ ∧ sZ ≤ 160 := inv_at hI sE sK.symm rfl
  have g2 : 0 ≤ pZ ∧ pZ ≤ 160 := inv_at hI pE pK.symm rfl
  have g3 : 0 ≤ fZ ∧ fZ ≤ 160 := inv_at hI fE fK.symm rfl
  have J4 : x_nm1 b fZ pZ = 0 → V R_Mod b_Mod_lineNow 1 (some .int) 3 65 (q_Mod_lineNowX h b s sZ p pZ f fZ) h 16 [some (.ref 116)] [] := by
    intro q6
    have J7 : x_nm2 b fZ pZ = 0 → V R_Mod b_Mod_lineNow 1 (some .int) 3 65 (q_Mod_lineNowX h b s sZ p pZ f fZ) h 43 [some (.ref 116)] [] := by
      intro q9
      have J10 : x_nm3 b fZ pZ = 0 → V R_Mod b_Mod_lineNow 1 (some .int) 3 65 (q_Mod_lineNowX h b s sZ p pZ f fZ) h 71 [some (.ref 116)] [] := by
        intro q12
        have J13 : x_nm4 b fZ pZ = 0 → V R_Mod b_Mod_lineNow 1 (some .int) 3 65 (q_Mod_lineNowX h b s sZ p pZ f fZ) h 100 [some (.ref 116)] [] := by
          intro q15
          have J16 : x_nm5 b fZ pZ = 0 → V R_Mod b_Mod_lineNow 1 (some .int) 3 65 (q_Mod_lineNowX h b s sZ p pZ f fZ) h 131 [some (.ref 116)] [] := by
            intro q18
            have J19 : x_nm9 b fZ pZ = 0 → V R_Mod b_Mod_lineNow 1 (some .int) 3 65 (q_Mod_lineNowX h b s sZ p pZ f fZ) h 150 [some (.ref 116)] [] := by
              intro q21
              refine V_aload_n 0 d_Mod_lineNow_150 rfl rfl ?_
              refine N_callVI [] [] cv_Mod_126 sk_116 rfl d_Mod_lineNow_151 rfl (Nat.le_of_ble_eq_true rfl) (by decide) (by decide) (c_Mod_ruleLineX h b hI s sZ sE sK p pZ pE pK f fZ fE fK (TP_fr f0 (fun _ => rfl) hy0) (by omega) (by omega)) (fun z22 h23 z22Z z22E p24 => ?_)
              obtain ⟨eh23, p24⟩ := p24
              subst eh23
              exact V_iret rfl d_Mod_lineNow_154 ⟨z22, rfl, ⟨rfl, (Or.inr (Or.inr (Or.inr (Or.inr (Or.inr (Or.inr (x_lnR (b := b) (f := fZ) (e := pZ) (r := z22.toInt) (by assumption) (by assumption) (by assumption) (by assumption) (by assumption) (by assumption) (by assumption))))))))⟩⟩
            refine V_aload_n 0 d_Mod_lineNow_131 rfl rfl ?_
            refine V_iconst 3 d_Mod_lineNow_132 (by decide) ?_
            refine V_bipush 111 d_Mod_lineNow_133 (by decide) ?_
            refine V_bipush 119 d_Mod_lineNow_135 (by decide) ?_
            refine V_bipush 101 d_Mod_lineNow_137 (by decide) ?_
            refine N_callVI [.int 3, .int 111, .int 119, .int 101] [] cv_Mod_118 sk_116 rfl d_Mod_lineNow_139 rfl (Nat.le_of_ble_eq_true rfl) (by decide) (by decide) (c_Mod_isX h b hI 3 3 tc_3 111 111 tc_111 119 119 tc_119 101 101 tc_101 s sZ sE sK p pZ pE pK f fZ fE fK (TP_fr f0 (fun _ => rfl) hy0) (by omega) (by omega)) (fun z25 h26 z25Z z25E p27 => ?_)
            obtain ⟨eh26, p27⟩ := p27
            subst eh26
            refine V_if_eq 150 z25E d_Mod_lineNow_142 (by decide) (fun c28 => ?_) (fun c28 => ?_)
            ·
              exact J19  (by have := x_nmr9 b fZ pZ; omega)
            ·
              refine V_bipush 9 d_Mod_lineNow_145 (by decide) ?_
              refine V_goto 154 d_Mod_lineNow_147 (by decide) ?_
              exact V_iret rfl d_Mod_lineNow_154 ⟨9, rfl, ⟨rfl, (Or.inr (Or.inr (Or.inr (Or.inr (Or.inr (Or.inl ⟨tc_9, x_ln_of9 (by have := x_nmr9 b fZ pZ; omega)⟩))))))⟩⟩
          refine V_aload_n 0 d_Mod_lineNow_100 rfl rfl ?_
          refine V_iconst 5 d_Mod_lineNow_101 (by decide) ?_
          refine V_bipush 112 d_Mod_lineNow_102 (by decide) ?_
          refine V_bipush 117 d_Mod_lineNow_104 (by decide) ?_
          refine V_bipush 114 d_Mod_lineNow_106 (by decide) ?_
          refine N_callVI [.int 5, .int 112, .int 117, .int 114] [] cv_Mod_118 sk_116 rfl d_Mod_lineNow_108 rfl (Nat.le_of_ble_eq_true rfl) (by decide) (by decide) (c_Mod_isX h b hI 5 5 tc_5 112 112 tc_112 117 117 tc_117 114 114 tc_114 s sZ sE sK p pZ pE pK f fZ fE fK (TP_fr f0 (fun _ => rfl) hy0) (by omega) (by omega)) (fun z29 h30 z29Z z29E p31 => ?_)
          obtain ⟨eh30, p31⟩ := p31
          subst eh30
          refine V_if_eq 131 z29E d_Mod_lineNow_111 (by decide) (fun c32 => ?_) (fun c32 => ?_)
          ·
            exact J16  (by have := x_nmr5 b fZ pZ; omega)
          ·
            refine V_aload_n 0 d_Mod_lineNow_114 rfl rfl ?_
            refine V_bipush 115 d_Mod_lineNow_115 (by decide) ?_
            refine V_bipush 101 d_Mod_lineNow_117 (by decide) ?_
            refine V_iconst 0 d_Mod_lineNow_119 (by decide) ?_
            refine N_callVI [.int 115, .int 101, .int 0] [] cv_Mod_122 sk_116 rfl d_Mod_lineNow_120 rfl (Nat.le_of_ble_eq_true rfl) (by decide) (by decide) (c_Mod_endsX h b hI 115 115 tc_115 101 101 tc_101 0 0 tc_0 s sZ sE sK f fZ fE fK (TP_fr f0 (fun _ => rfl) hy0) (by omega)) (fun z33 h34 z33Z z33E p35 => ?_)
            obtain ⟨eh34, p35⟩ := p35
            subst eh34
            refine V_if_eq 131 z33E d_Mod_lineNow_123 (by decide) (fun c36 => ?_) (fun c36 => ?_)
            ·
              exact J16  (by have := x_nmr5 b fZ pZ; omega)
            ·
              refine V_bipush 8 d_Mod_lineNow_126 (by decide) ?_
              refine V_goto 154 d_Mod_lineNow_128 (by decide) ?_
              exact V_iret rfl d_Mod_lineNow_154 ⟨8, rfl, ⟨rfl, (Or.inr (Or.inr (Or.inr (Or.inr (Or.inl ⟨tc_8, x_ln_of5 (by have := x_nmr5 b fZ pZ; omega)⟩)))))⟩⟩
        refine V_aload_n 0 d_Mod_lineNow_71 rfl rfl ?_
        refine V_iconst 5 d_Mod_lineNow_72 (by decide) ?_
        refine V_bipush 99 d_Mod_lineNow_73 (by decide) ?_
        refine V_bipush 108 d_Mod_lineNow_75 (by decide) ?_
        refine V_bipush 97 d_Mod_lineNow_77 (by decide) ?_
        refine N_callVI [.int 5, .int 99, .int 108, .int 97] [] cv_Mod_118 sk_116 rfl d_Mod_lineNow_79 rfl (Nat.le_of_ble_eq_true rfl) (by decide) (by decide) (c_Mod_isX h b hI 5 5 tc_5 99 99 tc_99 108 108 tc_108 97 97 tc_97 s sZ sE sK p pZ pE pK f fZ fE fK (TP_fr f0 (fun _ => rfl) hy0) (by omega) (by omega)) (fun z37 h38 z37Z z37E p39 => ?_)
        obtain ⟨eh38, p39⟩ := p39
        subst eh38
        refine V_if_eq 100 z37E d_Mod_lineNow_82 (by decide) (fun c40 => ?_) (fun c40 => ?_)
        ·
          exact J13  (by have := x_nmr4 b fZ pZ; omega)
        ·
          refine V_aload_n 0 d_Mod_lineNow_85 rfl rfl ?_
          refine V_bipush 105 d_Mod_lineNow_86 (by decide) ?_
          refine V_bipush 109 d_Mod_lineNow_88 (by decide) ?_
          refine V_iconst 0 d_Mod_lineNow_90 (by decide) ?_
          refine N_callVI [.int 105, .int 109, .int 0] [] cv_Mod_122 sk_116 rfl d_Mod_lineNow_91 rfl (Nat.le_of_ble_eq_true rfl) (by decide) (by decide) (c_Mod_endsX h b hI 105 105 tc_105 109 109 tc_109 0 0 tc_0 s sZ sE sK f fZ fE fK (TP_fr f0 (fun _ => rfl) hy0) (by omega)) (fun z41 h42 z41Z z41E p43 => ?_)
          obtain ⟨eh42, p43⟩ := p43
          subst eh42
          refine V_if_eq 100 z41E d_Mod_lineNow_94 (by decide) (fun c44 => ?_) (fun c44 => ?_)
          ·
            exact J13  (by have := x_nmr4 b fZ pZ; omega)
          ·
            refine V_bipush 7 d_Mod_lineNow_97 (by decide) ?_
            exact V_iret rfl d_Mod_lineNow_99 ⟨7, rfl, ⟨rfl, (Or.inr (Or.inr (Or.inr (Or.inl ⟨tc_7, x_ln_of4 (by have := x_nmr4 b fZ pZ; omega)⟩))))⟩⟩
      refine V_aload_n 0 d_Mod_lineNow_43 rfl rfl ?_
      refine V_iconst 4 d_Mod_lineNow_44 (by decide) ?_
      refine V_bipush 111 d_Mod_lineNow_45 (by decide) ?_
      refine V_bipush 100 d_Mod_lineNow_47 (by decide) ?_
      refine V_bipush 100 d_Mod_lineNow_49 (by decide) ?_
      refine N_callVI [.int 4, .int 111, .int 100, .int 100] [] cv_Mod_118 sk_116 rfl d_Mod_lineNow_51 rfl (Nat.le_of_ble_eq_true rfl) (by decide) (by decide) (c_Mod_isX h b hI 4 4 tc_4 111 111 tc_111 100 100 tc_100 100 100 tc_100 s sZ sE sK p pZ pE pK f fZ fE fK (TP_fr f0 (fun _ => rfl) hy0) (by omega) (by omega)) (fun z45 h46 z45Z z45E p47 => ?_)
      obtain ⟨eh46, p47⟩ := p47
      subst eh46
      refine V_if_eq 71 z45E d_Mod_lineNow_54 (by decide) (fun c48 => ?_) (fun c48 => ?_)
      ·
        exact J10  (by have := x_nmr3 b fZ pZ; omega)
      ·
        refine V_aload_n 0 d_Mod_lineNow_57 rfl rfl ?_
        refine V_bipush 115 d_Mod_lineNow_58 (by decide) ?_
        refine V_iconst 0 d_Mod_lineNow_60 (by decide) ?_
        refine V_iconst 0 d_Mod_lineNow_61 (by decide) ?_
        refine N_callVI [.int 115, .int 0, .int 0] [] cv_Mod_122 sk_116 rfl d_Mod_lineNow_62 rfl (Nat.le_of_ble_eq_true rfl) (by decide) (by decide) (c_Mod_endsX h b hI 115 115 tc_115 0 0 tc_0 0 0 tc_0 s sZ sE sK f fZ fE fK (TP_fr f0 (fun _ => rfl) hy0) (by omega)) (fun z49 h50 z49Z z49E p51 => ?_)
        obtain ⟨eh50, p51⟩ := p51
        subst eh50
        refine V_if_eq 71 z49E d_Mod_lineNow_65 (by decide) (fun c52 => ?_) (fun c52 => ?_)
        ·
          exact J10  (by have := x_nmr3 b fZ pZ; omega)
        ·
          refine V_bipush 6 d_Mod_lineNow_68 (by decide) ?_
          exact V_iret rfl d_Mod_lineNow_70 ⟨6, rfl, ⟨rfl, (Or.inr (Or.inr (Or.inl ⟨tc_6, x_ln_of3 (by have := x_nmr3 b fZ pZ; omega)⟩)))⟩⟩
    refine V_aload_n 0 d_Mod_lineNow_16 rfl rfl ?_
    refine V_iconst 4 d_Mod_lineNow_17 (by decide) ?_
    refine V_bipush 105 d_Mod_lineNow_18 (by decide) ?_
    refine V_bipush 114 d_Mod_lineNow_20 (by decide) ?_
    refine V_bipush 111 d_Mod_lineNow_22 (by decide) ?_
    refine N_callVI [.int 4, .int 105, .int 114, .int 111] [] cv_Mod_118 sk_116 rfl d_Mod_lineNow_24 rfl (Nat.le_of_ble_eq_true rfl) (by decide) (by decide) (c_Mod_isX h b hI 4 4 tc_4 105 105 tc_105 114 114 tc_114 111 111 tc_111 s sZ sE sK p pZ pE pK f fZ fE fK (TP_fr f0 (fun _ => rfl) hy0) (by omega) (by omega)) (fun z53 h54 z53Z z53E p55 => ?_)
    obtain ⟨eh54, p55⟩ := p55
    subst eh54
    refine V_if_eq 43 z53E d_Mod_lineNow_27 (by decide) (fun c56 => ?_) (fun c56 => ?_)
    ·
      exact J7  (by have := x_nmr2 b fZ pZ; omega)
    ·
      refine V_aload_n 0 d_Mod_lineNow_30 rfl rfl ?_
      refine V_bipush 110 d_Mod_lineNow_31 (by decide) ?_
      refine V_iconst 0 d_Mod_lineNow_33 (by decide) ?_
      refine V_iconst 0 d_Mod_lineNow_34 (by decide) ?_
      refine N_callVI [.int 110, .int 0, .int 0] [] cv_Mod_122 sk_116 rfl d_Mod_lineNow_35 rfl (Nat.le_of_ble_eq_true rfl) (by decide) (by decide) (c_Mod_endsX h b hI 110 110 tc_110 0 0 tc_0 0 0 tc_0 s sZ sE sK f fZ fE fK (TP_fr f0 (fun _ => rfl) hy0) (by omega)) (fun z57 h58 z57Z z57E p59 => ?_)
      obtain ⟨eh58, p59⟩ := p59
      subst eh58
      refine V_if_eq 43 z57E d_Mod_lineNow_38 (by decide) (fun c60 => ?_) (fun c60 => ?_)
      ·
        exact J7  (by have := x_nmr2 b fZ pZ; omega)
      ·
        refine V_iconst 5 d_Mod_lineNow_41 (by decide) ?_
        exact V_iret rfl d_Mod_lineNow_42 ⟨5, rfl, ⟨rfl, (Or.inr (Or.inl ⟨tc_5, x_ln_of2 (by have := x_nmr2 b fZ pZ; omega)⟩))⟩⟩
  refine V_aload_n 0 d_Mod_lineNow_0 rfl rfl ?_
  refine V_iconst 3 d_Mod_lineNow_1 (by decide) ?_
  refine V_bipush 119 d_Mod_lineNow_2 (by decide) ?_
  refine V_bipush 101 d_Mod_lineNow_4 (by decide) ?_
  refine V_bipush 116 d_Mod_lineNow_6 (by decide) ?_
  refine N_callVI [.int 3, .int 119, .int 101, .int 116] [] cv_Mod_118 sk_116 rfl d_Mod_lineNow_8 rfl (Nat.le_of_ble_eq_true rfl) (by decide) (by decide) (c_Mod_isX h b hI 3 3 tc_3 119 119 tc_119 101 101 tc_101 116 116 tc_116 s sZ sE sK p pZ pE pK f fZ fE fK (TP_fr f0 (fun _ => rfl) hy0) (by omega) (by omega)) (fun z61 h62 z61Z z61E p63 => ?_)
  obtain ⟨eh62, p63⟩ := p63
  subst eh62
  refine V_if_eq 16 z61E d_Mod_lineNow_11 (by decide) (fun c64 => ?_) (fun c64 => ?_)
  ·
    exact J4  (by have := x_nmr1 b fZ pZ; omega)
  ·
    refine V_iconst 4 d_Mod_lineNow_14 (by decide) ?_
    exact V_iret rfl d_Mod_lineNow_15 ⟨4, rfl, ⟨rfl, (Or.inl ⟨tc_4, x_ln_of1 (by have := x_nmr1 b fZ pZ; omega)⟩)⟩⟩
abbrev q_Mod_natureNowX (h : Hp) (b : Int → Int) (s : Int32) (sZ : Int) (p : Int32) (pZ : Int) (f : Int32) (fZ : Int) : Option Value → Hp → Prop := pInt (fun r h' => h = h' ∧ (r.toInt = 0 ∧ x_nt b fZ pZ = 0 ∨ r.toInt = 1 ∧ x_nt b fZ pZ = 1 ∨ r.toInt = 2 ∧ x_nt b fZ pZ = 2 ∨ r.toInt = 3 ∧ x_nt b fZ pZ = 3 ∨ r.toInt = 4 ∧ x_nt b fZ pZ = 4 ∨ r.toInt = -4 ∧ x_nt b fZ pZ = -1))
set_option maxRecDepth 100000 in
theorem c_Mod_natureNowX (h : Hp) (b : Int → Int) (hI : Inv h) (s : Int32) (sZ : Int) (sE : s.toInt = sZ) (sK : h.1 116 15 = s) (p : Int32) (pZ : Int) (pE : p.toInt = pZ) (pK : h.1 116 16 = p) (f : Int32) (fZ : Int) (fE : f.toInt = fZ) (fK : h.1 116 17 = f) (hy0 : TP h 121 sZ b) (hy1 : 0 ≤ fZ ∧ fZ ≤ 160) (hy2 : 0 ≤ pZ ∧ pZ ≤ 160) : Ct y_Mod_natureNow b_Mod_natureNow 1 (some .int) 2 45 [.ref 116] h (q_Mod_natureNowX h b s sZ p pZ f fZ) := by
  refine ct_ow R_Mod [some (.ref 116)] rfl (by decide) rfl (Nat.le_of_ble_eq_true rfl) ?_
  have f0 : fr [] h h := fr_rf
  have g1 : 0 ≤ sZ ∧ sZ ≤ 160 := inv_at hI sE sK.symm rfl
  have g2 : 0 ≤ pZ ∧ pZ ≤ 160 := inv_at hI pE pK.symm rfl
  have g3 : 0 ≤ fZ ∧ fZ ≤ 160 := inv_at hI fE fK.symm rfl
  have J4 : x_nm10 b fZ pZ = 0 → V R_Mod b_Mod_natureNow 1 (some .int) 2 45 (q_Mod_natureNowX h b s sZ p pZ f fZ) h 28 [some (.ref 116)] [] := by
    intro q6
    have J7 : x_nm2 b fZ pZ = 0 → V R_Mod b_Mod_natureNow 1 (some .int) 2 45 (q_Mod_natureNowX h b s sZ p pZ f fZ) h 55 [some (.ref 116)] [] := by
      intro q9
      have J10 : x_nm11 b fZ pZ = 0 → V R_Mod b_Mod_natureNow 1 (some .int) 2 45 (q_Mod_natureNowX h b s sZ p pZ f fZ) h 83 [some (.ref 116)] [] := by
        intro q12
        have J13 : x_nm12 b fZ pZ = 0 → V R_Mod b_Mod_natureNow 1 (some .int) 2 45 (q_Mod_natureNowX h b s sZ p pZ f fZ) h 115 [some (.ref 116)] [] := by
          intro q15
          refine V_aload_n 0 d_Mod_natureNow_115 rfl rfl ?_
          refine V_iconst 4 d_Mod_natureNow_116 (by decide) ?_
          refine V_bipush 98 d_Mod_natureNow_117 (by decide) ?_
          refine V_bipush 111 d_Mod_natureNow_119 (by decide) ?_
          refine V_bipush 116 d_Mod_natureNow_121 (by decide) ?_
          refine N_callVI [.int 4, .int 98, .int 111, .int 116] [] cv_Mod_118 sk_116 rfl d_Mod_natureNow_123 rfl (Nat.le_of_ble_eq_true rfl) (by decide) (by decide) (c_Mod_isX h b hI 4 4 tc_4 98 98 tc_98 111 111 tc_111 116 116 tc_116 s sZ sE sK p pZ pE pK f fZ fE fK (TP_fr f0 (fun _ => rfl) hy0) (by omega) (by omega)) (fun z16 h17 z16Z z16E p18 => ?_)
          obtain ⟨eh17, p18⟩ := p18
          subst eh17
          refine V_if_eq 144 z16E d_Mod_natureNow_126 (by decide) (fun c19 => ?_) (fun c19 => ?_)
          ·
            refine V_bipush (-4) d_Mod_natureNow_144 (by decide) ?_
            exact V_iret rfl d_Mod_natureNow_146 ⟨(-4), rfl, ⟨rfl, (Or.inr (Or.inr (Or.inr (Or.inr (Or.inr (⟨tc_m4, x_nt_no (by assumption) (by assumption) (by assumption) (by assumption) (by have := x_nmr13 b fZ pZ; omega)⟩))))))⟩⟩
          ·
            refine V_aload_n 0 d_Mod_natureNow_129 rfl rfl ?_
            refine V_bipush 104 d_Mod_natureNow_130 (by decide) ?_
            refine V_iconst 0 d_Mod_natureNow_132 (by decide) ?_
            refine V_iconst 0 d_Mod_natureNow_133 (by decide) ?_
            refine N_callVI [.int 104, .int 0, .int 0] [] cv_Mod_122 sk_116 rfl d_Mod_natureNow_134 rfl (Nat.le_of_ble_eq_true rfl) (by decide) (by decide) (c_Mod_endsX h b hI 104 104 tc_104 0 0 tc_0 0 0 tc_0 s sZ sE sK f fZ fE fK (TP_fr f0 (fun _ => rfl) hy0) (by omega)) (fun z20 h21 z20Z z20E p22 => ?_)
            obtain ⟨eh21, p22⟩ := p22
            subst eh21
            refine V_if_eq 144 z20E d_Mod_natureNow_137 (by decide) (fun c23 => ?_) (fun c23 => ?_)
            ·
              refine V_bipush (-4) d_Mod_natureNow_144 (by decide) ?_
              exact V_iret rfl d_Mod_natureNow_146 ⟨(-4), rfl, ⟨rfl, (Or.inr (Or.inr (Or.inr (Or.inr (Or.inr (⟨tc_m4, x_nt_no (by assumption) (by assumption) (by assumption) (by assumption) (by have := x_nmr13 b fZ pZ; omega)⟩))))))⟩⟩
            ·
              refine V_iconst 4 d_Mod_natureNow_140 (by decide) ?_
              refine V_goto 146 d_Mod_natureNow_141 (by decide) ?_
              exact V_iret rfl d_Mod_natureNow_146 ⟨4, rfl, ⟨rfl, (Or.inr (Or.inr (Or.inr (Or.inr (Or.inl ⟨tc_4, x_nt_of4 (by have := x_nmr13 b fZ pZ; omega)⟩)))))⟩⟩
        refine V_aload_n 0 d_Mod_natureNow_83 rfl rfl ?_
        refine V_bipush 6 d_Mod_natureNow_84 (by decide) ?_
        refine V_bipush 119 d_Mod_natureNow_86 (by decide) ?_
        refine V_bipush 105 d_Mod_natureNow_88 (by decide) ?_
        refine V_bipush 115 d_Mod_natureNow_90 (by decide) ?_
        refine N_callVI [.int 6, .int 119, .int 105, .int 115] [] cv_Mod_118 sk_116 rfl d_Mod_natureNow_92 rfl (Nat.le_of_ble_eq_true rfl) (by decide) (by decide) (c_Mod_isX h b hI 6 6 tc_6 119 119 tc_119 105 105 tc_105 115 115 tc_115 s sZ sE sK p pZ pE pK f fZ fE fK (TP_fr f0 (fun _ => rfl) hy0) (by omega) (by omega)) (fun z24 h25 z24Z z24E p26 => ?_)
        obtain ⟨eh25, p26⟩ := p26
        subst eh25
        refine V_if_eq 115 z24E d_Mod_natureNow_95 (by decide) (fun c27 => ?_) (fun c27 => ?_)
        ·
          exact J13  (by have := x_nmr12 b fZ pZ; omega)
        ·
          refine V_aload_n 0 d_Mod_natureNow_98 rfl rfl ?_
          refine V_bipush 104 d_Mod_natureNow_99 (by decide) ?_
          refine V_bipush 101 d_Mod_natureNow_101 (by decide) ?_
          refine V_bipush 115 d_Mod_natureNow_103 (by decide) ?_
          refine N_callVI [.int 104, .int 101, .int 115] [] cv_Mod_122 sk_116 rfl d_Mod_natureNow_105 rfl (Nat.le_of_ble_eq_true rfl) (by decide) (by decide) (c_Mod_endsX h b hI 104 104 tc_104 101 101 tc_101 115 115 tc_115 s sZ sE sK f fZ fE fK (TP_fr f0 (fun _ => rfl) hy0) (by omega)) (fun z28 h29 z28Z z28E p30 => ?_)
          obtain ⟨eh29, p30⟩ := p30
          subst eh29
          refine V_if_eq 115 z28E d_Mod_natureNow_108 (by decide) (fun c31 => ?_) (fun c31 => ?_)
          ·
            exact J13  (by have := x_nmr12 b fZ pZ; omega)
          ·
            refine V_iconst 3 d_Mod_natureNow_111 (by decide) ?_
            refine V_goto 146 d_Mod_natureNow_112 (by decide) ?_
            exact V_iret rfl d_Mod_natureNow_146 ⟨3, rfl, ⟨rfl, (Or.inr (Or.inr (Or.inr (Or.inl ⟨tc_3, x_nt_of3 (by have := x_nmr12 b fZ pZ; omega)⟩))))⟩⟩
      refine V_aload_n 0 d_Mod_natureNow_55 rfl rfl ?_
      refine V_iconst 5 d_Mod_natureNow_56 (by decide) ?_
      refine V_bipush 115 d_Mod_natureNow_57 (by decide) ?_
      refine V_bipush 116 d_Mod_natureNow_59 (by decide) ?_
      refine V_bipush 101 d_Mod_natureNow_61 (by decide) ?_
      refine N_callVI [.int 5, .int 115, .int 116, .int 101] [] cv_Mod_118 sk_116 rfl d_Mod_natureNow_63 rfl (Nat.le_of_ble_eq_true rfl) (by decide) (by decide) (c_Mod_isX h b hI 5 5 tc_5 115 115 tc_115 116 116 tc_116 101 101 tc_101 s sZ sE sK p pZ pE pK f fZ fE fK (TP_fr f0 (fun _ => rfl) hy0) (by omega) (by omega)) (fun z32 h33 z32Z z32E p34 => ?_)
      obtain ⟨eh33, p34⟩ := p34
      subst eh33
      refine V_if_eq 83 z32E d_Mod_natureNow_66 (by decide) (fun c35 => ?_) (fun c35 => ?_)
      ·
        exact J10  (by have := x_nmr11 b fZ pZ; omega)
      ·
        refine V_aload_n 0 d_Mod_natureNow_69 rfl rfl ?_
        refine V_bipush 112 d_Mod_natureNow_70 (by decide) ?_
        refine V_bipush 115 d_Mod_natureNow_72 (by decide) ?_
        refine V_iconst 0 d_Mod_natureNow_74 (by decide) ?_
        refine N_callVI [.int 112, .int 115, .int 0] [] cv_Mod_122 sk_116 rfl d_Mod_natureNow_75 rfl (Nat.le_of_ble_eq_true rfl) (by decide) (by decide) (c_Mod_endsX h b hI 112 112 tc_112 115 115 tc_115 0 0 tc_0 s sZ sE sK f fZ fE fK (TP_fr f0 (fun _ => rfl) hy0) (by omega)) (fun z36 h37 z36Z z36E p38 => ?_)
        obtain ⟨eh37, p38⟩ := p38
        subst eh37
        refine V_if_eq 83 z36E d_Mod_natureNow_78 (by decide) (fun c39 => ?_) (fun c39 => ?_)
        ·
          exact J10  (by have := x_nmr11 b fZ pZ; omega)
        ·
          refine V_iconst 2 d_Mod_natureNow_81 (by decide) ?_
          exact V_iret rfl d_Mod_natureNow_82 ⟨2, rfl, ⟨rfl, (Or.inr (Or.inr (Or.inl ⟨tc_2, x_nt_of2 (by have := x_nmr11 b fZ pZ; omega)⟩)))⟩⟩
    refine V_aload_n 0 d_Mod_natureNow_28 rfl rfl ?_
    refine V_iconst 4 d_Mod_natureNow_29 (by decide) ?_
    refine V_bipush 105 d_Mod_natureNow_30 (by decide) ?_
    refine V_bipush 114 d_Mod_natureNow_32 (by decide) ?_
    refine V_bipush 111 d_Mod_natureNow_34 (by decide) ?_
    refine N_callVI [.int 4, .int 105, .int 114, .int 111] [] cv_Mod_118 sk_116 rfl d_Mod_natureNow_36 rfl (Nat.le_of_ble_eq_true rfl) (by decide) (by decide) (c_Mod_isX h b hI 4 4 tc_4 105 105 tc_105 114 114 tc_114 111 111 tc_111 s sZ sE sK p pZ pE pK f fZ fE fK (TP_fr f0 (fun _ => rfl) hy0) (by omega) (by omega)) (fun z40 h41 z40Z z40E p42 => ?_)
    obtain ⟨eh41, p42⟩ := p42
    subst eh41
    refine V_if_eq 55 z40E d_Mod_natureNow_39 (by decide) (fun c43 => ?_) (fun c43 => ?_)
    ·
      exact J7  (by have := x_nmr2 b fZ pZ; omega)
    ·
      refine V_aload_n 0 d_Mod_natureNow_42 rfl rfl ?_
      refine V_bipush 110 d_Mod_natureNow_43 (by decide) ?_
      refine V_iconst 0 d_Mod_natureNow_45 (by decide) ?_
      refine V_iconst 0 d_Mod_natureNow_46 (by decide) ?_
      refine N_callVI [.int 110, .int 0, .int 0] [] cv_Mod_122 sk_116 rfl d_Mod_natureNow_47 rfl (Nat.le_of_ble_eq_true rfl) (by decide) (by decide) (c_Mod_endsX h b hI 110 110 tc_110 0 0 tc_0 0 0 tc_0 s sZ sE sK f fZ fE fK (TP_fr f0 (fun _ => rfl) hy0) (by omega)) (fun z44 h45 z44Z z44E p46 => ?_)
      obtain ⟨eh45, p46⟩ := p46
      subst eh45
      refine V_if_eq 55 z44E d_Mod_natureNow_50 (by decide) (fun c47 => ?_) (fun c47 => ?_)
      ·
        exact J7  (by have := x_nmr2 b fZ pZ; omega)
      ·
        refine V_iconst 1 d_Mod_natureNow_53 (by decide) ?_
        exact V_iret rfl d_Mod_natureNow_54 ⟨1, rfl, ⟨rfl, (Or.inr (Or.inl ⟨tc_1, x_nt_of1 (by have := x_nmr2 b fZ pZ; omega)⟩))⟩⟩
  refine V_aload_n 0 d_Mod_natureNow_0 rfl rfl ?_
  refine V_iconst 5 d_Mod_natureNow_1 (by decide) ?_
  refine V_bipush 119 d_Mod_natureNow_2 (by decide) ?_
  refine V_bipush 97 d_Mod_natureNow_4 (by decide) ?_
  refine V_bipush 116 d_Mod_natureNow_6 (by decide) ?_
  refine N_callVI [.int 5, .int 119, .int 97, .int 116] [] cv_Mod_118 sk_116 rfl d_Mod_natureNow_8 rfl (Nat.le_of_ble_eq_true rfl) (by decide) (by decide) (c_Mod_isX h b hI 5 5 tc_5 119 119 tc_119 97 97 tc_97 116 116 tc_116 s sZ sE sK p pZ pE pK f fZ fE fK (TP_fr f0 (fun _ => rfl) hy0) (by omega) (by omega)) (fun z48 h49 z48Z z48E p50 => ?_)
  obtain ⟨eh49, p50⟩ := p50
  subst eh49
  refine V_if_eq 28 z48E d_Mod_natureNow_11 (by decide) (fun c51 => ?_) (fun c51 => ?_)
  ·
    exact J4  (by have := x_nmr10 b fZ pZ; omega)
  ·
    refine V_aload_n 0 d_Mod_natureNow_14 rfl rfl ?_
    refine V_bipush 101 d_Mod_natureNow_15 (by decide) ?_
    refine V_bipush 114 d_Mod_natureNow_17 (by decide) ?_
    refine V_iconst 0 d_Mod_natureNow_19 (by decide) ?_
    refine N_callVI [.int 101, .int 114, .int 0] [] cv_Mod_122 sk_116 rfl d_Mod_natureNow_20 rfl (Nat.le_of_ble_eq_true rfl) (by decide) (by decide) (c_Mod_endsX h b hI 101 101 tc_101 114 114 tc_114 0 0 tc_0 s sZ sE sK f fZ fE fK (TP_fr f0 (fun _ => rfl) hy0) (by omega)) (fun z52 h53 z52Z z52E p54 => ?_)
    obtain ⟨eh53, p54⟩ := p54
    subst eh53
    refine V_if_eq 28 z52E d_Mod_natureNow_23 (by decide) (fun c55 => ?_) (fun c55 => ?_)
    ·
      exact J4  (by have := x_nmr10 b fZ pZ; omega)
    ·
      refine V_iconst 0 d_Mod_natureNow_26 (by decide) ?_
      exact V_iret rfl d_Mod_natureNow_27 ⟨0, rfl, ⟨rfl, (Or.inl ⟨tc_0, x_nt_of0 (by have := x_nmr10 b fZ pZ; omega)⟩)⟩⟩
def S_Mod_nextX : List (Nat × Option Nat) := [(116, some 16), (116, some 17), (116, some 18), (116, some 19), (116, some 20), (116, some 21)]
abbrev q_Mod_nextX (h : Hp) (b : Int → Int) (s : Int32) (sZ : Int) (p : Int32) (pZ : Int) (g : Int32) (gZ : Int) (k : Int32) (kZ : Int) (v : Int32) (vZ : Int) (w : Int32) (wZ : Int) (a : Int32) (aZ : Int) : Option Value → Hp → Prop := pVd (fun h' => Inv h' ∧ fr S_Mod_nextX h h' ∧ ∃ (q : Int32) (qZ : Int), q.toInt = qZ ∧ h'.1 116 16 = q ∧ ∃ (f : Int32) (fZ : Int), f.toInt = fZ ∧ h'.1 116 17 = f ∧ ∃ (m : Int32) (mZ : Int), m.toInt = mZ ∧ h'.1 116 18 = m ∧ ∃ (x : Int32) (xZ : Int), x.toInt = xZ ∧ h'.1 116 19 = x ∧ ∃ (u : Int32) (uZ : Int), u.toInt = uZ ∧ h'.1 116 20 = u ∧ ∃ (y : Int32) (yZ : Int), y.toInt = yZ ∧ h'.1 116 21 = y ∧ (wZ ≠ 0 ∧ qZ = pZ ∧ fZ = gZ ∧ mZ = kZ ∧ xZ = vZ ∧ uZ = wZ ∧ yZ = aZ ∨ wZ = 0 ∧ fZ = x_fr b pZ ∧ pZ ≤ fZ ∧ fZ ≤ qZ ∧ qZ ≤ sZ ∧ (uZ = 1 ∧ x_kd b pZ = 4 ∧ yZ = fZ ∨ uZ = 0 ∧ yZ = aZ ∧ mZ = x_kd b pZ ∧ mZ ≠ 4 ∧ 0 ≤ mZ ∧ mZ ≤ 3 ∧ qZ = x_en b pZ ∧ (mZ ≠ 2 ∨ xZ = x_vl b pZ ∧ 0 ≤ xZ ∧ xZ ≤ 99) ∧ (mZ = 0 ∨ fZ < qZ))))
set_option maxRecDepth 100000 in
theorem c_Mod_nextX (h : Hp) (b : Int → Int) (hI : Inv h) (s : Int32) (sZ : Int) (sE : s.toInt = sZ) (sK : h.1 116 15 = s) (p : Int32) (pZ : Int) (pE : p.toInt = pZ) (pK : h.1 116 16 = p) (g : Int32) (gZ : Int) (gE : g.toInt = gZ) (gK : h.1 116 17 = g) (k : Int32) (kZ : Int) (kE : k.toInt = kZ) (kK : h.1 116 18 = k) (v : Int32) (vZ : Int) (vE : v.toInt = vZ) (vK : h.1 116 19 = v) (w : Int32) (wZ : Int) (wE : w.toInt = wZ) (wK : h.1 116 20 = w) (a : Int32) (aZ : Int) (aE : a.toInt = aZ) (aK : h.1 116 21 = a) (hy0 : TP h 121 sZ b) (hy1 : 0 ≤ pZ ∧ pZ ≤ sZ ∧ 0 ≤ wZ) : Ct y_Mod_next b_Mod_next 2 none 1 25 [.ref 116] h (q_Mod_nextX h b s sZ p pZ g gZ k kZ v vZ w wZ a aZ) := by
  refine ct_ow R_Mod [some (.ref 116), none] rfl (by decide) rfl (Nat.le_of_ble_eq_true rfl) ?_
  have f0 : fr S_Mod_nextX h h := fr_rf
  have g1 : 0 ≤ sZ ∧ sZ ≤ 160 := inv_at hI sE sK.symm rfl
  have g2 : 0 ≤ pZ ∧ pZ ≤ 160 := inv_at hI pE pK.symm rfl
  have g3 : 0 ≤ gZ ∧ gZ ≤ 160 := inv_at hI gE gK.symm rfl
  refine V_aload_n 0 d_Mod_next_0 rfl rfl ?_
  refine N_getK fa_Mod_102 sk_116 rfl d_Mod_next_1 wK ?_
  refine V_if_le 8 wE d_Mod_next_4 (by decide) (fun c4 => ?_) (fun c4 => ?_)
  ·
    have L5 : ∀ (nn : Nat) (h7 : Hp) (v14 : Int32) (v14Z : Int), Inv h7 → fr S_Mod_nextX h h7 → h7.1 116 15 = s → h7.1 116 17 = g → h7.1 116 18 = k → h7.1 116 19 = v → h7.1 116 20 = w → h7.1 116 21 = a → v14.toInt = v14Z → h7.1 116 16 = v14 → pZ ≤ v14Z ∧ v14Z ≤ sZ → rn blB b v14Z = rn blB b pZ → 160 - v14Z < (nn : Int) → V R_Mod b_Mod_next 2 none 1 25 (q_Mod_nextX h b s sZ p pZ g gZ k kZ v vZ w wZ a aZ) h7 8 [some (.ref 116), none] [] := by
      intro nn
      induction nn with
      | zero => intro h7 v14 v14Z Ih7 Fh7 K8 K9 K10 K11 K12 K13 v14E K15 q16 q17 hm18; exact absurd hm18 (by omega)
      | succ nn ihL5 =>
        intro h7 v14 v14Z Ih7 Fh7 K8 K9 K10 K11 K12 K13 v14E K15 q16 q17 hm18
        have g19 : 0 ≤ v14Z ∧ v14Z ≤ 160 := inv_at Ih7 v14E K15.symm rfl
        have g20 := TP_b hy0 v14Z (by omega)
        refine V_aload_n 0 d_Mod_next_8 rfl rfl ?_
        refine V_aload_n 0 d_Mod_next_9 rfl rfl ?_
        refine N_getK fa_Mod_111 sk_116 rfl d_Mod_next_10 K15 ?_
        refine N_callVI [.int v14] [] cv_Mod_114 sk_116 rfl d_Mod_next_13 rfl (Nat.le_of_ble_eq_true rfl) (by decide) (by decide) (c_Mod_lookX h7 b Ih7 v14 v14Z v14E s sZ sE K8 (TP_fr Fh7 (fun _ => rfl) hy0) (by omega)) (fun z21 h22 z21Z z21E p23 => ?_)
        obtain ⟨eh22, p23⟩ := p23
        subst eh22
        refine V_bipush 32 d_Mod_next_16 (by decide) ?_
        refine V_icmp_ne 34 z21E tc_32 d_Mod_next_18 (by decide) (fun c24 => ?_) (fun c24 => ?_)
        ·
          have g25 := rn_stop (P := blB) (b := b) (p := v14Z) (blB_n (by omega))
          refine V_aload_n 0 d_Mod_next_34 rfl rfl ?_
          refine V_aload_n 0 d_Mod_next_35 rfl rfl ?_
          refine N_getK fa_Mod_111 sk_116 rfl d_Mod_next_36 K15 ?_
          refine N_putI fp_Mod_105 sk_116 rfl d_Mod_next_39 (fun h26 eh26 => ?_)
          have hI27 : Inv h26 := inv_put (lo := 0) (hi := 160) Ih7 eh26 rfl v14E (by omega)
          have f28 : fr S_Mod_nextX h h26 := fr_put Fh7 eh26 rfl
          refine V_aload_n 0 d_Mod_next_42 rfl rfl ?_
          refine V_aload_n 0 d_Mod_next_43 rfl rfl ?_
          refine N_getK fa_Mod_111 sk_116 rfl d_Mod_next_44 (kn_nei eh26 K15 (by decide)) ?_
          refine N_callVI [.int v14] [] cv_Mod_114 sk_116 rfl d_Mod_next_47 rfl (Nat.le_of_ble_eq_true rfl) (by decide) (by decide) (c_Mod_lookX h26 b hI27 v14 v14Z v14E s sZ sE (kn_nei eh26 K8 (by decide)) (TP_fr f28 (fun _ => rfl) hy0) (by omega)) (fun z29 h30 z29Z z29E p31 => ?_)
          obtain ⟨eh30, p31⟩ := p31
          subst eh30
          refine V_istore_n 1 [some (.ref 116), some (.int z29)] d_Mod_next_50 rfl (by decide) rfl rfl ?_
          refine V_iload_n 1 d_Mod_next_51 rfl rfl ?_
          refine V_if_ge 63 z29E d_Mod_next_52 (by decide) (fun c32 => ?_) (fun c32 => ?_)
          ·
            refine V_iload_n 1 d_Mod_next_63 rfl rfl ?_
            refine V_i2l d_Mod_next_64 (fun z33 z33e z33E => ?_)
            have z33F : z33.toInt = z29Z := z33E.trans z29E
            refine V_ldc2 d_Mod_next_65 wl_Mod_133 ?_
            refine V_ldc2 d_Mod_next_68 wl_Mod_135 ?_
            refine N_callSI [.long z33, .long 97, .long 122] [] cs_Mod_95 d_Mod_next_71 rfl (Nat.le_of_ble_eq_true rfl) (by decide) (by decide) (c_Mod_in h26 z33 z29Z z33F 97 97 tl_97 122 122 tl_122) (fun z34 h35 z34Z z34E p36 => ?_)
            obtain ⟨eh35, p36⟩ := p36
            subst eh35
            refine V_if_eq 116 z34E d_Mod_next_74 (by decide) (fun c37 => ?_) (fun c37 => ?_)
            ·
              refine V_iload_n 1 d_Mod_next_116 rfl rfl ?_
              refine V_i2l d_Mod_next_117 (fun z38 z38e z38E => ?_)
              have z38F : z38.toInt = z29Z := z38E.trans z29E
              refine V_ldc2 d_Mod_next_118 wl_Mod_137 ?_
              refine V_ldc2 d_Mod_next_121 wl_Mod_139 ?_
              refine N_callSI [.long z38, .long 48, .long 57] [] cs_Mod_95 d_Mod_next_124 rfl (Nat.le_of_ble_eq_true rfl) (by decide) (by decide) (c_Mod_in h26 z38 z29Z z38F 48 48 tl_48 57 57 tl_57) (fun z39 h40 z39Z z39E p41 => ?_)
              obtain ⟨eh40, p41⟩ := p41
              subst eh40
              refine V_if_eq 243 z39E d_Mod_next_127 (by decide) (fun c42 => ?_) (fun c42 => ?_)
              ·
                refine V_aload_n 0 d_Mod_next_243 rfl rfl ?_
                refine V_iconst 3 d_Mod_next_244 (by decide) ?_
                refine N_putI fp_Mod_130 sk_116 rfl d_Mod_next_245 (fun h43 eh43 => ?_)
                have hI44 : Inv h43 := inv_full hI27 eh43 rfl
                have f45 : fr S_Mod_nextX h h43 := fr_put f28 eh43 rfl
                refine V_aload_n 0 d_Mod_next_248 rfl rfl ?_
                refine V_iload_n 1 d_Mod_next_249 rfl rfl ?_
                refine V_bipush 59 d_Mod_next_250 (by decide) ?_
                refine V_icmp_ne 259 z29E tc_59 d_Mod_next_252 (by decide) (fun c46 => ?_) (fun c46 => ?_)
                ·
                  refine V_iconst 0 d_Mod_next_259 (by decide) ?_
                  refine V_iconst 1 d_Mod_next_260 (by decide) ?_
                  refine N_callVV [.int 0, .int 1] [] cv_Mod_144 sk_116 rfl d_Mod_next_261 rfl (Nat.le_of_ble_eq_true rfl) (by decide) (by decide) (c_Mod_needsX h43 hI44 0 0 tc_0 1 1 tc_1 v14 v14Z v14E (kn_nei eh43 (kn_put eh26) (by decide)) w wZ wE (kn_nei eh43 (kn_nei eh26 K12 (by decide)) (by decide)) a aZ aE (kn_nei eh43 (kn_nei eh26 K13 (by decide)) (by decide))) (fun h48 p49 => ?_)
                  obtain ⟨hI50, fh48, o52, o52Z, o52E, o52K, o53, o53Z, o53E, o53K, p49⟩ := p49
                  have f51 : fr S_Mod_nextX h h48 := fr_call f45 fh48 rfl
                  replace p49 := (p49.resolve_left (by omega)).2.2
                  refine V_aload_n 0 d_Mod_next_264 rfl rfl ?_
                  refine V_dup d_Mod_next_265 rfl ?_
                  refine N_getK fa_Mod_111 sk_116 rfl d_Mod_next_266 (kn_call fh48 (kn_nei eh43 (kn_nei eh26 K15 (by decide)) (by decide)) rfl) ?_
                  refine V_iconst 1 d_Mod_next_269 (by decide) ?_
                  refine V_iadd v14E tc_1 (by omega) d_Mod_next_270 (fun z54 z54e z54E => ?_)
                  refine N_putI fp_Mod_111 sk_116 rfl d_Mod_next_271 (fun h55 eh55 => ?_)
                  have hI56 : Inv h55 := inv_put (lo := 0) (hi := 160) hI50 eh55 rfl z54E (by omega)
                  have f57 : fr S_Mod_nextX h h55 := fr_put f51 eh55 rfl
                  exact V_vret rfl d_Mod_next_274 ⟨rfl, ⟨hI56, f57, z54, (v14Z + 1), z54E, (kn_put eh55), v14, v14Z, v14E, (kn_nei eh55 (kn_call fh48 (kn_nei eh43 (kn_put eh26) (by decide)) rfl) (by decide)), 3, 3, tc_3, (kn_nei eh55 (kn_call fh48 (kn_put eh43) rfl) (by decide)), v, vZ, vE, (kn_nei eh55 (kn_call fh48 (kn_nei eh43 (kn_nei eh26 K11 (by decide)) (by decide)) rfl) (by decide)), o52, o52Z, o52E, (kn_nei eh55 o52K (by decide)), o53, o53Z, o53E, (kn_nei eh55 o53K (by decide)), (by have hf : v14Z = x_fr b pZ := (by unfold x_fr; omega); have q := tok_4 (p := pZ) hf (by omega); exact Or.inr ⟨by omega, hf, by omega, by omega, by omega, Or.inl ⟨by omega, q, by omega⟩⟩)⟩⟩
                ·
                  refine V_iconst 1 d_Mod_next_255 (by decide) ?_
                  refine V_goto 260 d_Mod_next_256 (by decide) ?_
                  refine V_iconst 1 d_Mod_next_260 (by decide) ?_
                  refine N_callVV [.int 1, .int 1] [] cv_Mod_144 sk_116 rfl d_Mod_next_261 rfl (Nat.le_of_ble_eq_true rfl) (by decide) (by decide) (c_Mod_needsX h43 hI44 1 1 tc_1 1 1 tc_1 v14 v14Z v14E (kn_nei eh43 (kn_put eh26) (by decide)) w wZ wE (kn_nei eh43 (kn_nei eh26 K12 (by decide)) (by decide)) a aZ aE (kn_nei eh43 (kn_nei eh26 K13 (by decide)) (by decide))) (fun h59 p60 => ?_)
                  obtain ⟨hI61, fh59, o63, o63Z, o63E, o63K, o64, o64Z, o64E, o64K, p60⟩ := p60
                  have f62 : fr S_Mod_nextX h h59 := fr_call f45 fh59 rfl
                  replace p60 := (p60.resolve_right (by omega)).2
                  refine V_aload_n 0 d_Mod_next_264 rfl rfl ?_
                  refine V_dup d_Mod_next_265 rfl ?_
                  refine N_getK fa_Mod_111 sk_116 rfl d_Mod_next_266 (kn_call fh59 (kn_nei eh43 (kn_nei eh26 K15 (by decide)) (by decide)) rfl) ?_
                  refine V_iconst 1 d_Mod_next_269 (by decide) ?_
                  refine V_iadd v14E tc_1 (by omega) d_Mod_next_270 (fun z65 z65e z65E => ?_)
                  refine N_putI fp_Mod_111 sk_116 rfl d_Mod_next_271 (fun h66 eh66 => ?_)
                  have hI67 : Inv h66 := inv_put (lo := 0) (hi := 160) hI61 eh66 rfl z65E (by omega)
                  have f68 : fr S_Mod_nextX h h66 := fr_put f62 eh66 rfl
                  exact V_vret rfl d_Mod_next_274 ⟨rfl, ⟨hI67, f68, z65, (v14Z + 1), z65E, (kn_put eh66), v14, v14Z, v14E, (kn_nei eh66 (kn_call fh59 (kn_nei eh43 (kn_put eh26) (by decide)) rfl) (by decide)), 3, 3, tc_3, (kn_nei eh66 (kn_call fh59 (kn_put eh43) rfl) (by decide)), v, vZ, vE, (kn_nei eh66 (kn_call fh59 (kn_nei eh43 (kn_nei eh26 K11 (by decide)) (by decide)) rfl) (by decide)), o63, o63Z, o63E, (kn_nei eh66 o63K (by decide)), o64, o64Z, o64E, (kn_nei eh66 o64K (by decide)), (by have hf : v14Z = x_fr b pZ := (by unfold x_fr; omega); have q := tok_3 (p := pZ) hf (by omega); exact Or.inr ⟨by omega, hf, by omega, by omega, by omega, Or.inr ⟨by omega, by omega, q.1.symm, by decide, by decide, by decide, by omega, Or.inl (by decide), Or.inr (by omega)⟩⟩)⟩⟩
              ·
                refine V_aload_n 0 d_Mod_next_130 rfl rfl ?_
                refine V_iconst 2 d_Mod_next_131 (by decide) ?_
                refine N_putI fp_Mod_130 sk_116 rfl d_Mod_next_132 (fun h69 eh69 => ?_)
                have hI70 : Inv h69 := inv_full hI27 eh69 rfl
                have f71 : fr S_Mod_nextX h h69 := fr_put f28 eh69 rfl
                refine V_aload_n 0 d_Mod_next_135 rfl rfl ?_
                refine V_iconst 0 d_Mod_next_136 (by decide) ?_
                refine N_putI fp_Mod_141 sk_116 rfl d_Mod_next_137 (fun h72 eh72 => ?_)
                have hI73 : Inv h72 := inv_full hI70 eh72 rfl
                have f74 : fr S_Mod_nextX h h72 := fr_put f71 eh72 rfl
                have L75 : ∀ (nn : Nat) (h77 : Hp) (v83 : Int32) (v83Z : Int) (v85 : Int32) (v85Z : Int), Inv h77 → fr S_Mod_nextX h h77 → h77.1 116 15 = s → h77.1 116 17 = v14 → h77.1 116 18 = 2 → h77.1 116 20 = w → h77.1 116 21 = a → v83.toInt = v83Z → h77.1 116 16 = v83 → v85.toInt = v85Z → h77.1 116 19 = v85 → v14Z ≤ v83Z ∧ v83Z ≤ sZ → rn fiB b v83Z = rn fiB b v14Z → VQp b v14Z v83Z v85Z → DFp b v14Z v83Z → 160 - v83Z < (nn : Int) → V R_Mod b_Mod_next 2 none 1 25 (q_Mod_nextX h b s sZ p pZ g gZ k kZ v vZ w wZ a aZ) h77 140 [some (.ref 116), some (.int z29)] [] := by
                  intro nn
                  induction nn with
                  | zero => intro h77 v83 v83Z v85 v85Z Ih77 Fh77 K78 K79 K80 K81 K82 v83E K84 v85E K86 q87 q88 q89 q90 hm91; exact absurd hm91 (by omega)
                  | succ nn ihL75 =>
                    intro h77 v83 v83Z v85 v85Z Ih77 Fh77 K78 K79 K80 K81 K82 v83E K84 v85E K86 q87 q88 q89 q90 hm91
                    have g92 : 0 ≤ v83Z ∧ v83Z ≤ 160 := inv_at Ih77 v83E K84.symm rfl
                    have g93 := TP_b hy0 v83Z (by omega)
                    refine V_aload_n 0 d_Mod_next_140 rfl rfl ?_
                    refine V_aload_n 0 d_Mod_next_141 rfl rfl ?_
                    refine N_getK fa_Mod_111 sk_116 rfl d_Mod_next_142 K84 ?_
                    refine N_callVI [.int v83] [] cv_Mod_114 sk_116 rfl d_Mod_next_145 rfl (Nat.le_of_ble_eq_true rfl) (by decide) (by decide) (c_Mod_lookX h77 b Ih77 v83 v83Z v83E s sZ sE K78 (TP_fr Fh77 (fun _ => rfl) hy0) (by omega)) (fun z94 h95 z94Z z94E p96 => ?_)
                    obtain ⟨eh95, p96⟩ := p96
                    subst eh95
                    refine V_i2l d_Mod_next_148 (fun z97 z97e z97E => ?_)
                    have z97F : z97.toInt = z94Z := z97E.trans z94E
                    refine V_ldc2 d_Mod_next_149 wl_Mod_137 ?_
                    refine V_ldc2 d_Mod_next_152 wl_Mod_139 ?_
                    refine N_callSI [.long z97, .long 48, .long 57] [] cs_Mod_95 d_Mod_next_155 rfl (Nat.le_of_ble_eq_true rfl) (by decide) (by decide) (c_Mod_in h77 z97 z94Z z97F 48 48 tl_48 57 57 tl_57) (fun z98 h99 z98Z z98E p100 => ?_)
                    obtain ⟨eh99, p100⟩ := p100
                    subst eh99
                    refine V_if_eq 217 z98E d_Mod_next_158 (by decide) (fun c101 => ?_) (fun c101 => ?_)
                    ·
                      refine V_aload_n 0 d_Mod_next_217 rfl rfl ?_
                      refine V_aload_n 0 d_Mod_next_218 rfl rfl ?_
                      refine N_getK fa_Mod_111 sk_116 rfl d_Mod_next_219 K84 ?_
                      refine V_aload_n 0 d_Mod_next_222 rfl rfl ?_
                      refine N_getK fa_Mod_105 sk_116 rfl d_Mod_next_223 K79 ?_
                      refine V_isub v83E v14E (by omega) d_Mod_next_226 (fun z102 z102e z102E => ?_)
                      refine V_iconst 2 d_Mod_next_227 (by decide) ?_
                      refine V_icmp_gt 235 z102E tc_2 d_Mod_next_228 (by decide) (fun c103 => ?_) (fun c103 => ?_)
                      ·
                        refine V_iconst 0 d_Mod_next_235 (by decide) ?_
                        refine V_iconst 1 d_Mod_next_236 (by decide) ?_
                        refine N_callVV [.int 0, .int 1] [] cv_Mod_144 sk_116 rfl d_Mod_next_237 rfl (Nat.le_of_ble_eq_true rfl) (by decide) (by decide) (c_Mod_needsX h77 Ih77 0 0 tc_0 1 1 tc_1 v14 v14Z v14E K79 w wZ wE K81 a aZ aE K82) (fun h105 p106 => ?_)
                        obtain ⟨hI107, fh105, o109, o109Z, o109E, o109K, o110, o110Z, o110E, o110K, p106⟩ := p106
                        have f108 : fr S_Mod_nextX h h105 := fr_call Fh77 fh105 rfl
                        replace p106 := (p106.resolve_left (by omega)).2.2
                        refine V_goto 274 d_Mod_next_240 (by decide) ?_
                        exact V_vret rfl d_Mod_next_274 ⟨rfl, ⟨hI107, f108, v83, v83Z, v83E, (kn_call fh105 K84 rfl), v14, v14Z, v14E, (kn_call fh105 K79 rfl), 2, 2, tc_2, (kn_call fh105 K80 rfl), v85, v85Z, v85E, (kn_call fh105 K86 rfl), o109, o109Z, o109E, o109K, o110, o110Z, o110E, o110K, (by have hf : v14Z = x_fr b pZ := (by unfold x_fr; omega); have q0 := rn_stop (P := fiB) (b := b) (p := v83Z) (fiB_n (by omega)); have qf : 48 ≤ b v14Z ∧ b v14Z ≤ 57 := (by omega); have q := tok_2 (p := pZ) (u := v83Z) hf qf (by omega); have q1 := rn_step (P := fiB) (b := b) (p := v14Z) (fiB_y qf) (by omega); have q2 := rn_ge (P := fiB) (b := b) (v14Z + 1); have qk : x_kd b pZ = 4 := (by omega); exact Or.inr ⟨by omega, hf, by omega, by omega, by omega, Or.inl ⟨by omega, qk, by omega⟩⟩)⟩⟩
                      ·
                        refine V_iconst 1 d_Mod_next_231 (by decide) ?_
                        refine V_goto 236 d_Mod_next_232 (by decide) ?_
                        refine V_iconst 1 d_Mod_next_236 (by decide) ?_
                        refine N_callVV [.int 1, .int 1] [] cv_Mod_144 sk_116 rfl d_Mod_next_237 rfl (Nat.le_of_ble_eq_true rfl) (by decide) (by decide) (c_Mod_needsX h77 Ih77 1 1 tc_1 1 1 tc_1 v14 v14Z v14E K79 w wZ wE K81 a aZ aE K82) (fun h112 p113 => ?_)
                        obtain ⟨hI114, fh112, o116, o116Z, o116E, o116K, o117, o117Z, o117E, o117K, p113⟩ := p113
                        have f115 : fr S_Mod_nextX h h112 := fr_call Fh77 fh112 rfl
                        replace p113 := (p113.resolve_right (by omega)).2
                        refine V_goto 274 d_Mod_next_240 (by decide) ?_
                        exact V_vret rfl d_Mod_next_274 ⟨rfl, ⟨hI114, f115, v83, v83Z, v83E, (kn_call fh112 K84 rfl), v14, v14Z, v14E, (kn_call fh112 K79 rfl), 2, 2, tc_2, (kn_call fh112 K80 rfl), v85, v85Z, v85E, (kn_call fh112 K86 rfl), o116, o116Z, o116E, o116K, o117, o117Z, o117E, o117K, (by have hf : v14Z = x_fr b pZ := (by unfold x_fr; omega); have q0 := rn_stop (P := fiB) (b := b) (p := v83Z) (fiB_n (by omega)); have qf : 48 ≤ b v14Z ∧ b v14Z ≤ 57 := (by omega); have q := tok_2 (p := pZ) (u := v83Z) hf qf (by omega); have q1 := rn_step (P := fiB) (b := b) (p := v14Z) (fiB_y qf) (by omega); have q2 := rn_ge (P := fiB) (b := b) (v14Z + 1); have ql : v83Z - v14Z = 1 ∨ v83Z - v14Z = 2 := (by omega); have qk : x_kd b pZ = 2 := (by omega); have q3 := tok_v (p := pZ) (u := v83Z) (v := v85Z) hf q.1.symm (VQp_e (by assumption) ql); have qr := VQp_r (b := b) (f := v14Z) (u := v83Z) (v := v85Z) (by assumption) (by assumption) ql; exact Or.inr ⟨by omega, hf, by omega, by omega, by omega, Or.inr ⟨by omega, by omega, qk.symm, by decide, by decide, by decide, q.1.symm, Or.inr ⟨q3, qr.1, qr.2⟩, Or.inr (by omega)⟩⟩)⟩⟩
                    ·
                      have hf9 : 48 ≤ b v83Z ∧ b v83Z ≤ 57 := by omega
                      have g118 := rn_step (P := fiB) (b := b) (p := v83Z) (fiB_y hf9) (by omega)
                      refine V_aload_n 0 d_Mod_next_161 rfl rfl ?_
                      refine V_aload_n 0 d_Mod_next_162 rfl rfl ?_
                      refine N_getK fa_Mod_111 sk_116 rfl d_Mod_next_163 K84 ?_
                      refine V_aload_n 0 d_Mod_next_166 rfl rfl ?_
                      refine N_getK fa_Mod_105 sk_116 rfl d_Mod_next_167 K79 ?_
                      refine V_isub v83E v14E (by omega) d_Mod_next_170 (fun z119 z119e z119E => ?_)
                      refine V_iconst 2 d_Mod_next_171 (by decide) ?_
                      refine V_icmp_ge 197 z119E tc_2 d_Mod_next_172 (by decide) (fun c120 => ?_) (fun c120 => ?_)
                      ·
                        refine V_aload_n 0 d_Mod_next_197 rfl rfl ?_
                        refine N_getK fa_Mod_141 sk_116 rfl d_Mod_next_198 K86 ?_
                        refine N_putI fp_Mod_141 sk_116 rfl d_Mod_next_201 (fun h121 eh121 => ?_)
                        have hI122 : Inv h121 := inv_full Ih77 eh121 rfl
                        have f123 : fr S_Mod_nextX h h121 := fr_put Fh77 eh121 rfl
                        refine V_aload_n 0 d_Mod_next_204 rfl rfl ?_
                        refine V_dup d_Mod_next_205 rfl ?_
                        refine N_getK fa_Mod_111 sk_116 rfl d_Mod_next_206 (kn_nei eh121 K84 (by decide)) ?_
                        refine V_iconst 1 d_Mod_next_209 (by decide) ?_
                        refine V_iadd v83E tc_1 (by omega) d_Mod_next_210 (fun z124 z124e z124E => ?_)
                        refine N_putI fp_Mod_111 sk_116 rfl d_Mod_next_211 (fun h125 eh125 => ?_)
                        have hI126 : Inv h125 := inv_put (lo := 0) (hi := 160) hI122 eh125 rfl z124E (by omega)
                        have f127 : fr S_Mod_nextX h h125 := fr_put f123 eh125 rfl
                        refine V_goto 140 d_Mod_next_214 (by decide) ?_
                        exact ihL75 h125 z124 ((v83Z + 1)) v85 v85Z hI126 f127 (kn_nei eh125 (kn_nei eh121 K78 (by decide)) (by decide)) (kn_nei eh125 (kn_nei eh121 K79 (by decide)) (by decide)) (kn_nei eh125 (kn_nei eh121 K80 (by decide)) (by decide)) (kn_nei eh125 (kn_nei eh121 K81 (by decide)) (by decide)) (kn_nei eh125 (kn_nei eh121 K82 (by decide)) (by decide)) z124E (kn_put eh125) v85E (kn_nei eh125 (kn_put eh121) (by decide)) (by omega) (by omega) (VQp_k (by assumption) (by omega)) (DFp_s (by assumption) (by omega) hf9) (by omega)
                      ·
                        have hv9 := VQp_b (b := b) (f := v14Z) (u := v83Z) (v := v85Z) (by assumption) (by assumption) (by omega)
                        refine V_bipush 10 d_Mod_next_175 (by decide) ?_
                        refine V_aload_n 0 d_Mod_next_177 rfl rfl ?_
                        refine N_getK fa_Mod_141 sk_116 rfl d_Mod_next_178 K86 ?_
                        refine V_imul tc_10 v85E (by omega) d_Mod_next_181 (fun z128 z128e z128E => ?_)
                        refine V_aload_n 0 d_Mod_next_182 rfl rfl ?_
                        refine V_aload_n 0 d_Mod_next_183 rfl rfl ?_
                        refine N_getK fa_Mod_111 sk_116 rfl d_Mod_next_184 K84 ?_
                        refine N_callVI [.int v83] [.int z128, .ref 116] cv_Mod_114 sk_116 rfl d_Mod_next_187 rfl (Nat.le_of_ble_eq_true rfl) (by decide) (by decide) (c_Mod_lookX h77 b Ih77 v83 v83Z v83E s sZ sE K78 (TP_fr Fh77 (fun _ => rfl) hy0) (by omega)) (fun z129 h130 z129Z z129E p131 => ?_)
                        obtain ⟨eh130, p131⟩ := p131
                        subst eh130
                        have hx9 : z129Z = b v83Z := by omega
                        refine V_iadd z128E z129E (by omega) d_Mod_next_190 (fun z132 z132e z132E => ?_)
                        refine V_bipush 48 d_Mod_next_191 (by decide) ?_
                        refine V_isub z132E tc_48 (by omega) d_Mod_next_193 (fun z133 z133e z133E => ?_)
                        refine V_goto 201 d_Mod_next_194 (by decide) ?_
                        refine N_putI fp_Mod_141 sk_116 rfl d_Mod_next_201 (fun h134 eh134 => ?_)
                        have hI135 : Inv h134 := inv_full Ih77 eh134 rfl
                        have f136 : fr S_Mod_nextX h h134 := fr_put Fh77 eh134 rfl
                        refine V_aload_n 0 d_Mod_next_204 rfl rfl ?_
                        refine V_dup d_Mod_next_205 rfl ?_
                        refine N_getK fa_Mod_111 sk_116 rfl d_Mod_next_206 (kn_nei eh134 K84 (by decide)) ?_
                        refine V_iconst 1 d_Mod_next_209 (by decide) ?_
                        refine V_iadd v83E tc_1 (by omega) d_Mod_next_210 (fun z137 z137e z137E => ?_)
                        refine N_putI fp_Mod_111 sk_116 rfl d_Mod_next_211 (fun h138 eh138 => ?_)
                        have hI139 : Inv h138 := inv_put (lo := 0) (hi := 160) hI135 eh138 rfl z137E (by omega)
                        have f140 : fr S_Mod_nextX h h138 := fr_put f136 eh138 rfl
                        refine V_goto 140 d_Mod_next_214 (by decide) ?_
                        exact ihL75 h138 z137 ((v83Z + 1)) z133 ((((10 * v85Z) + z129Z) - 48)) hI139 f140 (kn_nei eh138 (kn_nei eh134 K78 (by decide)) (by decide)) (kn_nei eh138 (kn_nei eh134 K79 (by decide)) (by decide)) (kn_nei eh138 (kn_nei eh134 K80 (by decide)) (by decide)) (kn_nei eh138 (kn_nei eh134 K81 (by decide)) (by decide)) (kn_nei eh138 (kn_nei eh134 K82 (by decide)) (by decide)) z137E (kn_put eh138) z133E (kn_nei eh138 (kn_put eh134) (by decide)) (by omega) (by omega) (VQp_s (by assumption) hx9 (by omega)) (DFp_s (by assumption) (by omega) hf9) (by omega)
                exact L75 (Int.toNat ((160 - v14Z : Int) + 1)) h72 v14 v14Z 0 0 hI73 f74 (kn_nei eh72 (kn_nei eh69 (kn_nei eh26 K8 (by decide)) (by decide)) (by decide)) (kn_nei eh72 (kn_nei eh69 (kn_put eh26) (by decide)) (by decide)) (kn_nei eh72 (kn_put eh69) (by decide)) (kn_nei eh72 (kn_nei eh69 (kn_nei eh26 K12 (by decide)) (by decide)) (by decide)) (kn_nei eh72 (kn_nei eh69 (kn_nei eh26 K13 (by decide)) (by decide)) (by decide)) v14E (kn_nei eh72 (kn_nei eh69 (kn_nei eh26 K15 (by decide)) (by decide)) (by decide)) tc_0 (kn_put eh72) (by omega) (by omega) VQp_0 DFp_0 (by omega)
            ·
              refine V_aload_n 0 d_Mod_next_77 rfl rfl ?_
              refine V_iconst 1 d_Mod_next_78 (by decide) ?_
              refine N_putI fp_Mod_130 sk_116 rfl d_Mod_next_79 (fun h141 eh141 => ?_)
              have hI142 : Inv h141 := inv_full hI27 eh141 rfl
              have f143 : fr S_Mod_nextX h h141 := fr_put f28 eh141 rfl
              have L144 : ∀ (nn : Nat) (h146 : Hp) (v153 : Int32) (v153Z : Int), Inv h146 → fr S_Mod_nextX h h146 → h146.1 116 15 = s → h146.1 116 17 = v14 → h146.1 116 18 = 1 → h146.1 116 20 = w → h146.1 116 21 = a → h146.1 116 19 = v → v153.toInt = v153Z → h146.1 116 16 = v153 → v14Z ≤ v153Z ∧ v153Z ≤ sZ → rn leB b v153Z = rn leB b v14Z → 160 - v153Z < (nn : Int) → V R_Mod b_Mod_next 2 none 1 25 (q_Mod_nextX h b s sZ p pZ g gZ k kZ v vZ w wZ a aZ) h146 82 [some (.ref 116), some (.int z29)] [] := by
                intro nn
                induction nn with
                | zero => intro h146 v153 v153Z Ih146 Fh146 K147 K148 K149 K150 K151 K152 v153E K154 q155 q156 hm157; exact absurd hm157 (by omega)
                | succ nn ihL144 =>
                  intro h146 v153 v153Z Ih146 Fh146 K147 K148 K149 K150 K151 K152 v153E K154 q155 q156 hm157
                  have g158 : 0 ≤ v153Z ∧ v153Z ≤ 160 := inv_at Ih146 v153E K154.symm rfl
                  have g159 := TP_b hy0 v153Z (by omega)
                  refine V_aload_n 0 d_Mod_next_82 rfl rfl ?_
                  refine V_aload_n 0 d_Mod_next_83 rfl rfl ?_
                  refine N_getK fa_Mod_111 sk_116 rfl d_Mod_next_84 K154 ?_
                  refine N_callVI [.int v153] [] cv_Mod_114 sk_116 rfl d_Mod_next_87 rfl (Nat.le_of_ble_eq_true rfl) (by decide) (by decide) (c_Mod_lookX h146 b Ih146 v153 v153Z v153E s sZ sE K147 (TP_fr Fh146 (fun _ => rfl) hy0) (by omega)) (fun z160 h161 z160Z z160E p162 => ?_)
                  obtain ⟨eh161, p162⟩ := p162
                  subst eh161
                  refine V_i2l d_Mod_next_90 (fun z163 z163e z163E => ?_)
                  have z163F : z163.toInt = z160Z := z163E.trans z160E
                  refine V_ldc2 d_Mod_next_91 wl_Mod_133 ?_
                  refine V_ldc2 d_Mod_next_94 wl_Mod_135 ?_
                  refine N_callSI [.long z163, .long 97, .long 122] [] cs_Mod_95 d_Mod_next_97 rfl (Nat.le_of_ble_eq_true rfl) (by decide) (by decide) (c_Mod_in h146 z163 z160Z z163F 97 97 tl_97 122 122 tl_122) (fun z164 h165 z164Z z164E p166 => ?_)
                  obtain ⟨eh165, p166⟩ := p166
                  subst eh165
                  refine V_if_eq 274 z164E d_Mod_next_100 (by decide) (fun c167 => ?_) (fun c167 => ?_)
                  ·
                    exact V_vret rfl d_Mod_next_274 ⟨rfl, ⟨Ih146, Fh146, v153, v153Z, v153E, K154, v14, v14Z, v14E, K148, 1, 1, tc_1, K149, v, vZ, vE, K152, w, wZ, wE, K150, a, aZ, aE, K151, (by have hf : v14Z = x_fr b pZ := (by unfold x_fr; omega); have q0 := rn_stop (P := leB) (b := b) (p := v153Z) (leB_n (by omega)); have q := tok_1 (p := pZ) (u := v153Z) hf (by omega) (by omega); have q1 := rn_step (P := leB) (b := b) (p := v14Z) (leB_y (by omega)) (by omega); have q2 := rn_ge (P := leB) (b := b) (v14Z + 1); exact Or.inr ⟨by omega, hf, by omega, by omega, by omega, Or.inr ⟨by omega, by omega, q.1.symm, by decide, by decide, by decide, q.2.symm, Or.inl (by decide), Or.inr (by omega)⟩⟩)⟩⟩
                  ·
                    have g168 := rn_step (P := leB) (b := b) (p := v153Z) (leB_y (by omega)) (by omega)
                    refine V_aload_n 0 d_Mod_next_103 rfl rfl ?_
                    refine V_dup d_Mod_next_104 rfl ?_
                    refine N_getK fa_Mod_111 sk_116 rfl d_Mod_next_105 K154 ?_
                    refine V_iconst 1 d_Mod_next_108 (by decide) ?_
                    refine V_iadd v153E tc_1 (by omega) d_Mod_next_109 (fun z169 z169e z169E => ?_)
                    refine N_putI fp_Mod_111 sk_116 rfl d_Mod_next_110 (fun h170 eh170 => ?_)
                    have hI171 : Inv h170 := inv_put (lo := 0) (hi := 160) Ih146 eh170 rfl z169E (by omega)
                    have f172 : fr S_Mod_nextX h h170 := fr_put Fh146 eh170 rfl
                    refine V_goto 82 d_Mod_next_113 (by decide) ?_
                    exact ihL144 h170 z169 ((v153Z + 1)) hI171 f172 (kn_nei eh170 K147 (by decide)) (kn_nei eh170 K148 (by decide)) (kn_nei eh170 K149 (by decide)) (kn_nei eh170 K150 (by decide)) (kn_nei eh170 K151 (by decide)) (kn_nei eh170 K152 (by decide)) z169E (kn_put eh170) (by omega) (by omega) (by omega)
              exact L144 (Int.toNat ((160 - v14Z : Int) + 1)) h141 v14 v14Z hI142 f143 (kn_nei eh141 (kn_nei eh26 K8 (by decide)) (by decide)) (kn_nei eh141 (kn_put eh26) (by decide)) (kn_put eh141) (kn_nei eh141 (kn_nei eh26 K12 (by decide)) (by decide)) (kn_nei eh141 (kn_nei eh26 K13 (by decide)) (by decide)) (kn_nei eh141 (kn_nei eh26 K11 (by decide)) (by decide)) v14E (kn_nei eh141 (kn_nei eh26 K15 (by decide)) (by decide)) (by omega) (by omega) (by omega)
          ·
            refine V_aload_n 0 d_Mod_next_55 rfl rfl ?_
            refine V_iconst 0 d_Mod_next_56 (by decide) ?_
            refine N_putI fp_Mod_130 sk_116 rfl d_Mod_next_57 (fun h173 eh173 => ?_)
            have hI174 : Inv h173 := inv_full hI27 eh173 rfl
            have f175 : fr S_Mod_nextX h h173 := fr_put f28 eh173 rfl
            refine V_goto 274 d_Mod_next_60 (by decide) ?_
            exact V_vret rfl d_Mod_next_274 ⟨rfl, ⟨hI174, f175, v14, v14Z, v14E, (kn_nei eh173 (kn_nei eh26 K15 (by decide)) (by decide)), v14, v14Z, v14E, (kn_nei eh173 (kn_put eh26) (by decide)), 0, 0, tc_0, (kn_put eh173), v, vZ, vE, (kn_nei eh173 (kn_nei eh26 K11 (by decide)) (by decide)), w, wZ, wE, (kn_nei eh173 (kn_nei eh26 K12 (by decide)) (by decide)), a, aZ, aE, (kn_nei eh173 (kn_nei eh26 K13 (by decide)) (by decide)), (by have hf : v14Z = x_fr b pZ := (by unfold x_fr; omega); have q := tok_0 (p := pZ) hf (by omega); exact Or.inr ⟨by omega, hf, by omega, by omega, by omega, Or.inr ⟨by omega, by omega, q.1.symm, by decide, by decide, by decide, q.2.symm, Or.inl (by decide), Or.inl rfl⟩⟩)⟩⟩
        ·
          have g176 := rn_step (P := blB) (b := b) (p := v14Z) (blB_y (by omega)) (by omega)
          refine V_aload_n 0 d_Mod_next_21 rfl rfl ?_
          refine V_dup d_Mod_next_22 rfl ?_
          refine N_getK fa_Mod_111 sk_116 rfl d_Mod_next_23 K15 ?_
          refine V_iconst 1 d_Mod_next_26 (by decide) ?_
          refine V_iadd v14E tc_1 (by omega) d_Mod_next_27 (fun z177 z177e z177E => ?_)
          refine N_putI fp_Mod_111 sk_116 rfl d_Mod_next_28 (fun h178 eh178 => ?_)
          have hI179 : Inv h178 := inv_put (lo := 0) (hi := 160) Ih7 eh178 rfl z177E (by omega)
          have f180 : fr S_Mod_nextX h h178 := fr_put Fh7 eh178 rfl
          refine V_goto 8 d_Mod_next_31 (by decide) ?_
          exact ihL5 h178 z177 ((v14Z + 1)) hI179 f180 (kn_nei eh178 K8 (by decide)) (kn_nei eh178 K9 (by decide)) (kn_nei eh178 K10 (by decide)) (kn_nei eh178 K11 (by decide)) (kn_nei eh178 K12 (by decide)) (kn_nei eh178 K13 (by decide)) z177E (kn_put eh178) (by omega) (by omega) (by omega)
    exact L5 (Int.toNat ((160 - pZ : Int) + 1)) h p pZ hI f0 sK gK kK vK wK aK pE pK (by omega) (by omega) (by omega)
  ·
    exact V_vret rfl d_Mod_next_7 ⟨rfl, ⟨hI, f0, p, pZ, pE, pK, g, gZ, gE, gK, k, kZ, kE, kK, v, vZ, vE, vK, w, wZ, wE, wK, a, aZ, aE, aK, (by omega)⟩⟩
end
section
/-- the FAULT of the TOKEN behind p: as a number within bounds, as a stop, as the NAME of a nature; 0: none -/
def x_cN (b : Int → Int) (p lo hi : Int) : Int := if x_kd b p = 4 then 1 else if x_kd b p ≠ 2 then 2 else if x_vl b p < lo ∨ hi < x_vl b p then 3 else 0
def x_cS (b : Int → Int) (p : Int) : Int := if x_kd b p = 4 then 1 else if x_kd b p ≠ 3 then 2 else 0
def x_nn (b : Int → Int) (p : Int) : Int := x_nt b (x_fr b p) (x_en b p)
def x_cK (b : Int → Int) (p : Int) : Int := if x_kd b p = 4 then 1 else if x_kd b p ≠ 1 then 2 else if x_nn b p = -1 then 2 else 0
theorem x_cN_s (b : Int → Int) (p lo hi : Int) : x_kd b p = 4 ∧ x_cN b p lo hi = 1 ∨ x_kd b p ≠ 4 ∧ x_kd b p ≠ 2 ∧ x_cN b p lo hi = 2 ∨ x_kd b p = 2 ∧ (x_vl b p < lo ∨ hi < x_vl b p) ∧ x_cN b p lo hi = 3 ∨ x_kd b p = 2 ∧ lo ≤ x_vl b p ∧ x_vl b p ≤ hi ∧ x_cN b p lo hi = 0 := by
  unfold x_cN
  split
  · left; omega
  · split
    · right; left; omega
    · split <;> omega
theorem x_cS_s (b : Int → Int) (p : Int) : x_kd b p = 4 ∧ x_cS b p = 1 ∨ x_kd b p ≠ 4 ∧ x_kd b p ≠ 3 ∧ x_cS b p = 2 ∨ x_kd b p = 3 ∧ x_cS b p = 0 := by
  unfold x_cS
  split
  · left; omega
  · split <;> omega
theorem x_cK_s (b : Int → Int) (p : Int) : x_kd b p = 4 ∧ x_cK b p = 1 ∨ x_kd b p ≠ 4 ∧ x_kd b p ≠ 1 ∧ x_cK b p = 2 ∨ x_kd b p = 1 ∧ x_nn b p = -1 ∧ x_cK b p = 2 ∨ x_kd b p = 1 ∧ x_nn b p ≠ -1 ∧ x_cK b p = 0 := by
  unfold x_cK
  split
  · left; omega
  · split
    · right; left; omega
    · split <;> omega
/-- a FAULT and its place, or what comes behind -/
def x_sq (c w : Int) (r : Int × Int) : Int × Int := if c = 0 then r else (c, w)
theorem x_sq_s (c w : Int) (r : Int × Int) : c ≠ 0 ∧ (x_sq c w r).1 = c ∧ (x_sq c w r).2 = w ∨ c = 0 ∧ (x_sq c w r).1 = r.1 ∧ (x_sq c w r).2 = r.2 := by
  unfold x_sq
  split
  · next h => exact Or.inr ⟨h, rfl, rfl⟩
  · next h => exact Or.inl ⟨h, rfl, rfl⟩
theorem x_sq_y {c w : Int} {r : Int × Int} (h : c ≠ 0) : x_sq c w r = (c, w) := if_neg h
theorem x_sq_n {c w : Int} {r : Int × Int} (h : c = 0) : x_sq c w r = r := if_pos h
/-- the FAULT of a thing told twice -/
def x_c4 (t : Int) : Int := if t = 0 then 0 else 4
theorem x_c4_s (t : Int) : t = 0 ∧ x_c4 t = 0 ∨ t ≠ 0 ∧ x_c4 t = 4 := by
  unfold x_c4
  split <;> omega
/-- to himself -/
def x_ce (x y : Int) : Int := if x = y then 4 else 0
theorem x_ce_s (x y : Int) : x = y ∧ x_ce x y = 4 ∨ x ≠ y ∧ x_ce x y = 0 := by
  unfold x_ce
  split <;> omega
/-- county: p is the end of its NAME -/
def x_l0 (b : Int → Int) (T : Nat → Int → Int) (p : Int) : Int × Int := x_sq (x_cN b p 2 4) (x_fr b p) (x_sq (x_cN b (x_en b p) 2 4) (x_fr b (x_en b p)) (x_sq (x_cS b (x_en b (x_en b p))) (x_fr b (x_en b (x_en b p))) (0, x_en b (x_en b (x_en b p)))))
/-- wet: p is the end of its NAME -/
def x_l1 (b : Int → Int) (T : Nat → Int → Int) (p : Int) : Int × Int := x_sq (x_cN b p 0 15) (x_fr b p) (x_sq (x_c4 (T 1 (x_vl b p))) (x_fr b p) (x_sq (x_cN b (x_en b p) 1 9) (x_fr b (x_en b p)) (x_sq (x_cS b (x_en b (x_en b p))) (x_fr b (x_en b (x_en b p))) (0, x_en b (x_en b (x_en b p))))))
/-- iron: p is the end of its NAME -/
def x_l2 (b : Int → Int) (T : Nat → Int → Int) (p : Int) : Int × Int := x_sq (x_cN b p 0 15) (x_fr b p) (x_sq (x_c4 (T 2 (x_vl b p))) (x_fr b p) (x_sq (x_cS b (x_en b p)) (x_fr b (x_en b p)) (0, x_en b (x_en b p))))
/-- odds: p is the end of its NAME -/
def x_l3 (b : Int → Int) (T : Nat → Int → Int) (p : Int) : Int × Int := x_sq (x_cN b p 0 15) (x_fr b p) (x_sq (x_c4 (T 3 (x_vl b p))) (x_fr b p) (x_sq (x_cN b (x_en b p) 0 10) (x_fr b (x_en b p)) (x_sq (x_cS b (x_en b (x_en b p))) (x_fr b (x_en b (x_en b p))) (0, x_en b (x_en b (x_en b p))))))
/-- claim: p is the end of its NAME -/
def x_l4 (b : Int → Int) (T : Nat → Int → Int) (p : Int) : Int × Int := x_sq (x_cN b p 0 15) (x_fr b p) (x_sq (x_c4 (T 4 (x_vl b p))) (x_fr b p) (x_sq (x_cN b (x_en b p) 0 3) (x_fr b (x_en b p)) (x_sq (x_cS b (x_en b (x_en b p))) (x_fr b (x_en b (x_en b p))) (0, x_en b (x_en b (x_en b p))))))
/-- purse: p is the end of its NAME -/
def x_l5 (b : Int → Int) (T : Nat → Int → Int) (p : Int) : Int × Int := x_sq (x_cN b p 0 3) (x_fr b p) (x_sq (x_c4 (T 5 (x_vl b p))) (x_fr b p) (x_sq (x_cN b (x_en b p) 0 99) (x_fr b (x_en b p)) (x_sq (x_cS b (x_en b (x_en b p))) (x_fr b (x_en b (x_en b p))) (0, x_en b (x_en b (x_en b p))))))
/-- cost: p is the end of its NAME -/
def x_l6 (b : Int → Int) (T : Nat → Int → Int) (p : Int) : Int × Int := x_sq (x_cN b p 1 9) (x_fr b p) (x_sq (x_cS b (x_en b p)) (x_fr b (x_en b p)) (0, x_en b (x_en b p)))
/-- price: p is the end of its NAME -/
def x_l7 (b : Int → Int) (T : Nat → Int → Int) (p : Int) : Int × Int := x_sq (x_cN b p 1 99) (x_fr b p) (x_sq (x_cS b (x_en b p)) (x_fr b (x_en b p)) (0, x_en b (x_en b p)))
/-- rod: p is the end of its NAME -/
def x_l8 (b : Int → Int) (T : Nat → Int → Int) (p : Int) : Int × Int := x_sq (x_cK b p) (x_fr b p) (x_sq (x_cN b (x_en b p) 1 9) (x_fr b (x_en b p)) (x_sq (x_cS b (x_en b (x_en b p))) (x_fr b (x_en b (x_en b p))) (0, x_en b (x_en b (x_en b p)))))
/-- owe: p is the end of its NAME -/
def x_l9 (b : Int → Int) (T : Nat → Int → Int) (p : Int) : Int × Int := x_sq (x_cN b p 0 3) (x_fr b p) (x_sq (x_cN b (x_en b p) 0 3) (x_fr b (x_en b p)) (x_sq (x_ce (x_vl b (x_en b p)) (x_vl b p)) (x_fr b (x_en b p)) (x_sq (x_cN b (x_en b (x_en b p)) 1 99) (x_fr b (x_en b (x_en b p))) (x_sq (x_cS b (x_en b (x_en b (x_en b p)))) (x_fr b (x_en b (x_en b (x_en b p)))) (0, x_en b (x_en b (x_en b (x_en b p))))))))
def x_li (b : Int → Int) (p : Int) : Int := x_ln b (x_fr b p) (x_en b p)
/-- the FAULT of a line's NAME; n: DEBTS told before -/
def x_cH (b : Int → Int) (T : Nat → Int → Int) (n p : Int) : Int := if x_kd b p = 4 then 1 else if x_kd b p ≠ 1 then 2 else if x_li b p = -1 then 2 else if x_li b p = 0 ∧ T 0 0 ≠ 0 ∨ x_li b p = 6 ∧ T 6 0 ≠ 0 ∨ x_li b p = 7 ∧ T 7 0 ≠ 0 ∨ x_li b p = 8 ∧ T 8 0 ≠ 0 then 4 else if x_li b p = 9 ∧ 8 ≤ n then 5 else 0
/-- a line: its FAULT and the place, or 0 and where it ends -/
def x_line (b : Int → Int) (T : Nat → Int → Int) (n p : Int) : Int × Int := x_sq (x_cH b T n p) (x_fr b p) (if x_li b p = 0 then x_l0 b T (x_en b p) else if x_li b p = 1 then x_l1 b T (x_en b p) else if x_li b p = 2 then x_l2 b T (x_en b p) else if x_li b p = 3 then x_l3 b T (x_en b p) else if x_li b p = 4 then x_l4 b T (x_en b p) else if x_li b p = 5 then x_l5 b T (x_en b p) else if x_li b p = 6 then x_l6 b T (x_en b p) else if x_li b p = 7 then x_l7 b T (x_en b p) else if x_li b p = 8 then x_l8 b T (x_en b p) else x_l9 b T (x_en b p))
def x_up (D : Nat → Int) (k : Int) (v : Int) : Nat → Int := fun i => if (i : Int) = k then v else D i
def x_upT (T : Nat → Int → Int) (l c : Int) : Nat → Int → Int := fun i j => if (i : Int) = l ∧ j = c then 1 else T i j
/-- what is told behind a line -/
def x_T (b : Int → Int) (T : Nat → Int → Int) (p : Int) : Nat → Int → Int := if 1 ≤ x_li b p ∧ x_li b p ≤ 5 then x_upT T (x_li b p) (x_vl b (x_en b p)) else x_upT T (x_li b p) 0
/-- the draft behind a line -/
def x_D (b : Int → Int) (D : Nat → Int) (p : Int) : Nat → Int := if x_li b p = 0 then x_up (x_up D 144 (x_vl b (x_en b p))) 145 (x_vl b (x_en b (x_en b p))) else if x_li b p = 1 then x_up D (x_vl b (x_en b p)) (x_vl b (x_en b (x_en b p))) else if x_li b p = 2 then x_up D (16 + (x_vl b (x_en b p))) 1 else if x_li b p = 3 then x_up D (32 + (x_vl b (x_en b p))) (x_vl b (x_en b (x_en b p))) else if x_li b p = 4 then x_up D (48 + (x_vl b (x_en b p))) (x_vl b (x_en b (x_en b p))) else if x_li b p = 5 then x_up D (80 + (x_vl b (x_en b p))) (x_vl b (x_en b (x_en b p))) else if x_li b p = 6 then x_up D 146 (x_vl b (x_en b p)) else if x_li b p = 7 then x_up D 147 (x_vl b (x_en b p)) else if x_li b p = 8 then x_up (x_up D 84 (x_nn b (x_en b p))) 85 (x_vl b (x_en b (x_en b p))) else x_up (x_up (x_up (x_up D (87 + 3 * D 86) (x_vl b (x_en b p))) (88 + 3 * D 86) (x_vl b (x_en b (x_en b p)))) (89 + 3 * D 86) (x_vl b (x_en b (x_en b (x_en b p))))) 86 (D 86 + 1)
theorem x_cH_s (b : Int → Int) (T : Nat → Int → Int) (n p : Int) : x_kd b p = 4 ∧ x_cH b T n p = 1 ∨ x_kd b p ≠ 4 ∧ x_kd b p ≠ 1 ∧ x_cH b T n p = 2 ∨ x_kd b p = 1 ∧ x_li b p = -1 ∧ x_cH b T n p = 2 ∨ x_kd b p = 1 ∧ x_li b p ≠ -1 ∧ (x_li b p = 0 ∧ T 0 0 ≠ 0 ∨ x_li b p = 6 ∧ T 6 0 ≠ 0 ∨ x_li b p = 7 ∧ T 7 0 ≠ 0 ∨ x_li b p = 8 ∧ T 8 0 ≠ 0) ∧ x_cH b T n p = 4 ∨ x_kd b p = 1 ∧ x_li b p = 9 ∧ 8 ≤ n ∧ x_cH b T n p = 5 ∨ x_kd b p = 1 ∧ x_li b p ≠ -1 ∧ ¬ (x_li b p = 0 ∧ T 0 0 ≠ 0 ∨ x_li b p = 6 ∧ T 6 0 ≠ 0 ∨ x_li b p = 7 ∧ T 7 0 ≠ 0 ∨ x_li b p = 8 ∧ T 8 0 ≠ 0) ∧ ¬ (x_li b p = 9 ∧ 8 ≤ n) ∧ x_cH b T n p = 0 := by
  unfold x_cH
  by_cases h1 : x_kd b p = 4
  · rw [if_pos h1]; exact Or.inl ⟨h1, rfl⟩
  rw [if_neg h1]
  by_cases h2 : x_kd b p ≠ 1
  · rw [if_pos h2]; exact Or.inr (Or.inl ⟨h1, h2, rfl⟩)
  rw [if_neg h2]
  have h2' : x_kd b p = 1 := Decidable.of_not_not h2
  by_cases h3 : x_li b p = -1
  · rw [if_pos h3]; exact Or.inr (Or.inr (Or.inl ⟨h2', h3, rfl⟩))
  rw [if_neg h3]
  by_cases h4 : x_li b p = 0 ∧ T 0 0 ≠ 0 ∨ x_li b p = 6 ∧ T 6 0 ≠ 0 ∨ x_li b p = 7 ∧ T 7 0 ≠ 0 ∨ x_li b p = 8 ∧ T 8 0 ≠ 0
  · rw [if_pos h4]; exact Or.inr (Or.inr (Or.inr (Or.inl ⟨h2', h3, h4, rfl⟩)))
  rw [if_neg h4]
  by_cases h5 : x_li b p = 9 ∧ 8 ≤ n
  · rw [if_pos h5]; exact Or.inr (Or.inr (Or.inr (Or.inr (Or.inl ⟨h2', h5.1, h5.2, rfl⟩))))
  rw [if_neg h5]; exact Or.inr (Or.inr (Or.inr (Or.inr (Or.inr ⟨h2', h3, h4, h5, rfl⟩))))
theorem x_line_0 {b : Int → Int} {T : Nat → Int → Int} {n p u : Int} (hu : u = x_en b p) (hH : x_cH b T n p = 0) (hl : x_li b p = 0) : x_line b T n p = x_l0 b T u := by
  subst hu
  unfold x_line
  rw [x_sq_n hH, if_pos hl]
theorem x_line_1 {b : Int → Int} {T : Nat → Int → Int} {n p u : Int} (hu : u = x_en b p) (hH : x_cH b T n p = 0) (hl : x_li b p = 1) : x_line b T n p = x_l1 b T u := by
  subst hu
  unfold x_line
  rw [x_sq_n hH, if_neg (by omega), if_pos hl]
theorem x_line_2 {b : Int → Int} {T : Nat → Int → Int} {n p u : Int} (hu : u = x_en b p) (hH : x_cH b T n p = 0) (hl : x_li b p = 2) : x_line b T n p = x_l2 b T u := by
  subst hu
  unfold x_line
  rw [x_sq_n hH, if_neg (by omega), if_neg (by omega), if_pos hl]
theorem x_line_3 {b : Int → Int} {T : Nat → Int → Int} {n p u : Int} (hu : u = x_en b p) (hH : x_cH b T n p = 0) (hl : x_li b p = 3) : x_line b T n p = x_l3 b T u := by
  subst hu
  unfold x_line
  rw [x_sq_n hH, if_neg (by omega), if_neg (by omega), if_neg (by omega), if_pos hl]
theorem x_line_4 {b : Int → Int} {T : Nat → Int → Int} {n p u : Int} (hu : u = x_en b p) (hH : x_cH b T n p = 0) (hl : x_li b p = 4) : x_line b T n p = x_l4 b T u := by
  subst hu
  unfold x_line
  rw [x_sq_n hH, if_neg (by omega), if_neg (by omega), if_neg (by omega), if_neg (by omega), if_pos hl]
theorem x_line_5 {b : Int → Int} {T : Nat → Int → Int} {n p u : Int} (hu : u = x_en b p) (hH : x_cH b T n p = 0) (hl : x_li b p = 5) : x_line b T n p = x_l5 b T u := by
  subst hu
  unfold x_line
  rw [x_sq_n hH, if_neg (by omega), if_neg (by omega), if_neg (by omega), if_neg (by omega), if_neg (by omega), if_pos hl]
theorem x_line_6 {b : Int → Int} {T : Nat → Int → Int} {n p u : Int} (hu : u = x_en b p) (hH : x_cH b T n p = 0) (hl : x_li b p = 6) : x_line b T n p = x_l6 b T u := by
  subst hu
  unfold x_line
  rw [x_sq_n hH, if_neg (by omega), if_neg (by omega), if_neg (by omega), if_neg (by omega), if_neg (by omega), if_neg (by omega), if_pos hl]
theorem x_line_7 {b : Int → Int} {T : Nat → Int → Int} {n p u : Int} (hu : u = x_en b p) (hH : x_cH b T n p = 0) (hl : x_li b p = 7) : x_line b T n p = x_l7 b T u := by
  subst hu
  unfold x_line
  rw [x_sq_n hH, if_neg (by omega), if_neg (by omega), if_neg (by omega), if_neg (by omega), if_neg (by omega), if_neg (by omega), if_neg (by omega), if_pos hl]
theorem x_line_8 {b : Int → Int} {T : Nat → Int → Int} {n p u : Int} (hu : u = x_en b p) (hH : x_cH b T n p = 0) (hl : x_li b p = 8) : x_line b T n p = x_l8 b T u := by
  subst hu
  unfold x_line
  rw [x_sq_n hH, if_neg (by omega), if_neg (by omega), if_neg (by omega), if_neg (by omega), if_neg (by omega), if_neg (by omega), if_neg (by omega), if_neg (by omega), if_pos hl]
theorem x_line_9 {b : Int → Int} {T : Nat → Int → Int} {n p u : Int} (hu : u = x_en b p) (hH : x_cH b T n p = 0) (hl : x_li b p = 9) : x_line b T n p = x_l9 b T u := by
  subst hu
  unfold x_line
  rw [x_sq_n hH, if_neg (by omega), if_neg (by omega), if_neg (by omega), if_neg (by omega), if_neg (by omega), if_neg (by omega), if_neg (by omega), if_neg (by omega), if_neg (by omega)]
theorem x_line_H {b : Int → Int} {T : Nat → Int → Int} {n p : Int} (hH : x_cH b T n p ≠ 0) : x_line b T n p = (x_cH b T n p, x_fr b p) := x_sq_y hH
/-- a bit, as both programs ask for it -/
def x_bt (x : Int32) (c : Int) : Int := ((x >>> (Int32.ofInt c &&& 31)) &&& 1).toInt
def x_TB (z : Int32) (t : Int → Int) : Prop := (∀ c : Int, 0 ≤ c → c ≤ 15 → x_bt z c = t c) ∧ ∀ i : Nat, 16 ≤ i → z.toBitVec.getLsbD i = false
theorem x_TB_cg {z : Int32} {t t' : Int → Int} (e : ∀ c : Int, t' c = t c) (r : x_TB z t) : x_TB z t' := ⟨fun c h0 h1 => by rw [e c]; exact r.1 c h0 h1, r.2⟩
theorem x_bt_of {z v y s : Int32} {t : Int → Int} {V Y : Int} (tb : x_TB z t) (h0 : 0 ≤ V) (h1 : V ≤ 15) (pv : v.toInt = V) (py : y.toInt = Y) (e2 : y = s &&& 1) (e1 : s = z >>> (v &&& 31)) : Y = t V := by
  have hv : v = Int32.ofInt V := by rw [← pv, Int32.ofInt_toInt]
  rw [← tb.1 V h0 h1, ← py, e2, e1, hv]
  rfl
theorem x_nt_b (b : Int → Int) (f e : Int) : -1 ≤ x_nt b f e ∧ x_nt b f e ≤ 4 := by
  unfold x_nt
  repeat' split
  all_goals omega
theorem x_ln_b (b : Int → Int) (f e : Int) : -1 ≤ x_ln b f e ∧ x_ln b f e ≤ 9 := by
  unfold x_ln
  repeat' split
  all_goals omega
theorem x_T_0 {b : Int → Int} {p u : Int} (T : Nat → Int → Int) (hu : u = x_en b p) (hl : x_li b p = 0) : x_T b T p = x_upT T 0 0 := by
  subst hu
  unfold x_T
  rw [if_neg (by omega), hl]
theorem x_D_0 {b : Int → Int} {p u : Int} (D : Nat → Int) (hu : u = x_en b p) (hl : x_li b p = 0) : x_D b D p = x_up (x_up D 144 (x_vl b u)) 145 (x_vl b (x_en b u)) := by
  subst hu
  unfold x_D
  rw [if_pos hl]
theorem x_T_1 {b : Int → Int} {p u : Int} (T : Nat → Int → Int) (hu : u = x_en b p) (hl : x_li b p = 1) : x_T b T p = x_upT T 1 (x_vl b u) := by
  subst hu
  unfold x_T
  rw [if_pos (by omega), hl]
theorem x_D_1 {b : Int → Int} {p u : Int} (D : Nat → Int) (hu : u = x_en b p) (hl : x_li b p = 1) : x_D b D p = x_up D (x_vl b u) (x_vl b (x_en b u)) := by
  subst hu
  unfold x_D
  rw [if_neg (by omega), if_pos hl]
theorem x_T_2 {b : Int → Int} {p u : Int} (T : Nat → Int → Int) (hu : u = x_en b p) (hl : x_li b p = 2) : x_T b T p = x_upT T 2 (x_vl b u) := by
  subst hu
  unfold x_T
  rw [if_pos (by omega), hl]
theorem x_D_2 {b : Int → Int} {p u : Int} (D : Nat → Int) (hu : u = x_en b p) (hl : x_li b p = 2) : x_D b D p = x_up D (16 + (x_vl b u)) 1 := by
  subst hu
  unfold x_D
  rw [if_neg (by omega), if_neg (by omega), if_pos hl]
theorem x_T_3 {b : Int → Int} {p u : Int} (T : Nat → Int → Int) (hu : u = x_en b p) (hl : x_li b p = 3) : x_T b T p = x_upT T 3 (x_vl b u) := by
  subst hu
  unfold x_T
  rw [if_pos (by omega), hl]
theorem x_D_3 {b : Int → Int} {p u : Int} (D : Nat → Int) (hu : u = x_en b p) (hl : x_li b p = 3) : x_D b D p = x_up D (32 + (x_vl b u)) (x_vl b (x_en b u)) := by
  subst hu
  unfold x_D
  rw [if_neg (by omega), if_neg (by omega), if_neg (by omega), if_pos hl]
theorem x_T_4 {b : Int → Int} {p u : Int} (T : Nat → Int → Int) (hu : u = x_en b p) (hl : x_li b p = 4) : x_T b T p = x_upT T 4 (x_vl b u) := by
  subst hu
  unfold x_T
  rw [if_pos (by omega), hl]
theorem x_D_4 {b : Int → Int} {p u : Int} (D : Nat → Int) (hu : u = x_en b p) (hl : x_li b p = 4) : x_D b D p = x_up D (48 + (x_vl b u)) (x_vl b (x_en b u)) := by
  subst hu
  unfold x_D
  rw [if_neg (by omega), if_neg (by omega), if_neg (by omega), if_neg (by omega), if_pos hl]
theorem x_T_5 {b : Int → Int} {p u : Int} (T : Nat → Int → Int) (hu : u = x_en b p) (hl : x_li b p = 5) : x_T b T p = x_upT T 5 (x_vl b u) := by
  subst hu
  unfold x_T
  rw [if_pos (by omega), hl]
theorem x_D_5 {b : Int → Int} {p u : Int} (D : Nat → Int) (hu : u = x_en b p) (hl : x_li b p = 5) : x_D b D p = x_up D (80 + (x_vl b u)) (x_vl b (x_en b u)) := by
  subst hu
  unfold x_D
  rw [if_neg (by omega), if_neg (by omega), if_neg (by omega), if_neg (by omega), if_neg (by omega), if_pos hl]
theorem x_T_6 {b : Int → Int} {p u : Int} (T : Nat → Int → Int) (hu : u = x_en b p) (hl : x_li b p = 6) : x_T b T p = x_upT T 6 0 := by
  subst hu
  unfold x_T
  rw [if_neg (by omega), hl]
theorem x_D_6 {b : Int → Int} {p u : Int} (D : Nat → Int) (hu : u = x_en b p) (hl : x_li b p = 6) : x_D b D p = x_up D 146 (x_vl b u) := by
  subst hu
  unfold x_D
  rw [if_neg (by omega), if_neg (by omega), if_neg (by omega), if_neg (by omega), if_neg (by omega), if_neg (by omega), if_pos hl]
theorem x_T_7 {b : Int → Int} {p u : Int} (T : Nat → Int → Int) (hu : u = x_en b p) (hl : x_li b p = 7) : x_T b T p = x_upT T 7 0 := by
  subst hu
  unfold x_T
  rw [if_neg (by omega), hl]
theorem x_D_7 {b : Int → Int} {p u : Int} (D : Nat → Int) (hu : u = x_en b p) (hl : x_li b p = 7) : x_D b D p = x_up D 147 (x_vl b u) := by
  subst hu
  unfold x_D
  rw [if_neg (by omega), if_neg (by omega), if_neg (by omega), if_neg (by omega), if_neg (by omega), if_neg (by omega), if_neg (by omega), if_pos hl]
theorem x_T_8 {b : Int → Int} {p u : Int} (T : Nat → Int → Int) (hu : u = x_en b p) (hl : x_li b p = 8) : x_T b T p = x_upT T 8 0 := by
  subst hu
  unfold x_T
  rw [if_neg (by omega), hl]
theorem x_D_8 {b : Int → Int} {p u : Int} (D : Nat → Int) (hu : u = x_en b p) (hl : x_li b p = 8) : x_D b D p = x_up (x_up D 84 (x_nn b u)) 85 (x_vl b (x_en b u)) := by
  subst hu
  unfold x_D
  rw [if_neg (by omega), if_neg (by omega), if_neg (by omega), if_neg (by omega), if_neg (by omega), if_neg (by omega), if_neg (by omega), if_neg (by omega), if_pos hl]
theorem x_T_9 {b : Int → Int} {p u : Int} (T : Nat → Int → Int) (hu : u = x_en b p) (hl : x_li b p = 9) : x_T b T p = x_upT T 9 0 := by
  subst hu
  unfold x_T
  rw [if_neg (by omega), hl]
theorem x_D_9 {b : Int → Int} {p u : Int} (D : Nat → Int) (hu : u = x_en b p) (hl : x_li b p = 9) : x_D b D p = x_up (x_up (x_up (x_up D (87 + 3 * D 86) (x_vl b u)) (88 + 3 * D 86) (x_vl b (x_en b u))) (89 + 3 * D 86) (x_vl b (x_en b (x_en b u)))) 86 (D 86 + 1) := by
  subst hu
  unfold x_D
  rw [if_neg (by omega), if_neg (by omega), if_neg (by omega), if_neg (by omega), if_neg (by omega), if_neg (by omega), if_neg (by omega), if_neg (by omega), if_neg (by omega)]
theorem pq {a b c d : Int} (h1 : a = c) (h2 : b = d) : (a, b) = (c, d) := by rw [h1, h2]
theorem x_up86 {D : Nat → Int} {k v : Int} (h : k ≠ 86) : x_up D k v 86 = D 86 := if_neg (by omega)
end
section
theorem num_3 {b : Int → Int} {t lo hi v : Int} (h : x_kd b t = 2) (hv : v = x_vl b t) (c : v < lo ∨ hi < v) : x_cN b t lo hi = 3 := by
  rcases x_cN_s b t lo hi with ⟨a, _⟩ | ⟨_, a, _⟩ | ⟨_, _, a⟩ | ⟨_, a1, a2, _⟩
  · omega
  · omega
  · exact a
  · exfalso; omega
theorem num_0 {b : Int → Int} {t lo hi v : Int} (h : x_kd b t = 2) (hv : v = x_vl b t) (c : lo ≤ v ∧ v ≤ hi) : x_cN b t lo hi = 0 := by
  rcases x_cN_s b t lo hi with ⟨a, _⟩ | ⟨_, a, _⟩ | ⟨_, a, _⟩ | ⟨_, _, _, a⟩
  · omega
  · omega
  · exfalso; omega
  · exact a
theorem num_k {b : Int → Int} {t s f k u v r e w y a : Int} (lo hi : Int) (p : f = x_fr b t ∧ k = x_kd b t ∧ (k = 4 ∨ u = x_en b t) ∧ (k ≠ 2 ∨ v = x_vl b t ∧ 0 ≤ v ∧ v ≤ 99) ∧ t ≤ f ∧ f ≤ u ∧ u ≤ s ∧ (k = 0 ∧ f = s ∨ k ≠ 0 ∧ f < s) ∧ 0 ≤ k ∧ k ≤ 4 ∧ (k = 0 ∨ k = 4 ∨ f < u)) (q : k = 4 ∧ r = 0 ∧ e = 1 ∧ y = f ∨ k ≠ 4 ∧ k = 2 ∧ r = 1 ∧ e = w ∧ y = a ∨ k ≠ 4 ∧ k ≠ 2 ∧ r = 0 ∧ e = 2 ∧ y = f) (hr : r = 0) : x_cN b t lo hi ≠ 0 ∧ e = x_cN b t lo hi ∧ y = x_fr b t := by
  obtain ⟨p1, p2, _⟩ := p
  rcases kd_n q hr with ⟨q1, q2, q3⟩ | ⟨q1, q2, q3, q4⟩
  · rcases x_cN_s b t lo hi with ⟨_, a⟩ | ⟨a, _⟩ | ⟨a, _⟩ | ⟨a, _⟩
    · exact ⟨by omega, by omega, by omega⟩
    · omega
    · omega
    · omega
  · rcases x_cN_s b t lo hi with ⟨a, _⟩ | ⟨_, _, a⟩ | ⟨a, _⟩ | ⟨a, _⟩
    · omega
    · exact ⟨by omega, by omega, by omega⟩
    · omega
    · omega
theorem nu_all {b : Int → Int} {p0 c d s p g k v w a z u1 y1 q f m x u y : Int} (h1 : 0 ≤ p ∧ p ≤ s ∧ 0 ≤ w) (h2 : w ≠ 0 ∨ (g = x_fr b p0 ∧ k = x_kd b p0 ∧ k ≠ 4 ∧ 0 ≤ k ∧ k ≤ 3 ∧ p = x_en b p0 ∧ (k ≠ 2 ∨ v = x_vl b p0 ∧ 0 ≤ v ∧ v ≤ 99) ∧ p0 ≤ g ∧ g ≤ p ∧ p ≤ s ∧ (k = 0 ∨ g < p)))
    (p6 : w ≠ 0 ∧ u1 = w ∧ y1 = a ∧ z = 0 ∨ w = 0 ∧ k ≠ 2 ∧ u1 = 2 ∧ y1 = g ∧ z = 0 ∨ w = 0 ∧ k = 2 ∧ (v < c ∨ d < v) ∧ u1 = 3 ∧ y1 = g ∧ z = 0 ∨ w = 0 ∧ k = 2 ∧ c ≤ v ∧ v ≤ d ∧ u1 = 0 ∧ y1 = a ∧ z = v)
    (p18 : u1 ≠ 0 ∧ q = p ∧ f = g ∧ m = k ∧ x = v ∧ u = u1 ∧ y = y1 ∨ u1 = 0 ∧ f = x_fr b p ∧ p ≤ f ∧ f ≤ q ∧ q ≤ s ∧ (u = 1 ∧ x_kd b p = 4 ∧ y = f ∨ u = 0 ∧ y = y1 ∧ m = x_kd b p ∧ m ≠ 4 ∧ 0 ≤ m ∧ m ≤ 3 ∧ q = x_en b p ∧ (m ≠ 2 ∨ x = x_vl b p ∧ 0 ≤ x ∧ x ≤ 99) ∧ (m = 0 ∨ f < q))) :
    (w ≠ 0 ∧ u = w ∧ y = a ∧ z = 0 ∨ w = 0 ∧ x_cN b p0 c d ≠ 0 ∧ u = x_cN b p0 c d ∧ y = x_fr b p0 ∧ z = 0 ∨ w = 0 ∧ x_cN b p0 c d = 0 ∧ z = x_vl b p0 ∧ (u = 1 ∧ x_kd b (x_en b p0) = 4 ∧ y = x_fr b (x_en b p0) ∨ u = 0 ∧ f = x_fr b (x_en b p0) ∧ m = x_kd b (x_en b p0) ∧ m ≠ 4 ∧ 0 ≤ m ∧ m ≤ 3 ∧ q = x_en b (x_en b p0) ∧ (m ≠ 2 ∨ x = x_vl b (x_en b p0) ∧ 0 ≤ x ∧ x ≤ 99) ∧ (x_en b p0) ≤ f ∧ f ≤ q ∧ q ≤ s ∧ (m = 0 ∨ f < q))) ∧ 0 ≤ q ∧ q ≤ s ∧ 0 ≤ u := by
  by_cases hw : w = 0
  · obtain ⟨a1, a2, a3, a4, a5, a6, a7, a8, a9, a10, a11⟩ := h2.resolve_left (fun n => n hw)
    clear h2 a11
    have K : x_cN b p0 c d = u1 ∧ (u1 ≠ 0 ∧ 0 ≤ u1 ∧ y1 = g ∧ z = 0 ∨ u1 = 0 ∧ y1 = a ∧ z = v ∧ k = 2) := by
      clear p18
      rcases p6 with ⟨b1, _⟩ | ⟨_, b2, b3, b4, b5⟩ | ⟨_, b2, b3, b4, b5, b6⟩ | ⟨_, b2, b3, b4, b5, b6, b7⟩
      · exact absurd hw b1
      · rcases x_cN_s b p0 c d with ⟨e, _⟩ | ⟨_, _, e⟩ | ⟨e, _⟩ | ⟨e, _⟩
        · omega
        · exact ⟨by omega, Or.inl ⟨by omega, by omega, b4, b5⟩⟩
        · omega
        · omega
      · have e7 := a7.resolve_left (fun n => n b2)
        exact ⟨(num_3 (by omega) e7.1 b3).trans b4.symm, Or.inl ⟨by omega, by omega, b5, b6⟩⟩
      · have e7 := a7.resolve_left (fun n => n b2)
        exact ⟨(num_0 (by omega) e7.1 ⟨b3, b4⟩).trans b5.symm, Or.inr ⟨b5, b6, b7, b2⟩⟩
    clear p6
    rcases K with ⟨e, ⟨k1, k0, k2, k3⟩ | ⟨k1, k2, k3, k4⟩⟩
    · obtain ⟨_, q1, q2, q3, q4, q5, q6⟩ := p18.resolve_right (fun n => k1 n.1)
      exact ⟨Or.inr (Or.inl ⟨hw, by omega, by omega, by omega, k3⟩), by omega, by omega, by omega⟩
    · obtain ⟨_, q1, q2, q3, q4, q5⟩ := p18.resolve_left (fun n => n.1 k1)
      have e7 := a7.resolve_left (fun n => n k4)
      clear p18 a7
      rw [a6] at q1 q2 q5
      rcases q5 with ⟨r1, r2, r3⟩ | ⟨r1, r2, r3, r4, r5, r6, r7, r8, r9⟩
      · exact ⟨Or.inr (Or.inr ⟨hw, e.trans k1, k3.trans e7.1, Or.inl ⟨r1, r2, r3.trans q1⟩⟩), by omega, by omega, by omega⟩
      · exact ⟨Or.inr (Or.inr ⟨hw, e.trans k1, k3.trans e7.1, Or.inr ⟨r1, q1, r3, r4, r5, r6, r7, r8, q2, q3, q4, r9⟩⟩), by omega, by omega, by omega⟩
  · have b1 : u1 = w ∧ y1 = a ∧ z = 0 := by
      rcases p6 with ⟨_, b⟩ | ⟨b, _⟩ | ⟨b, _⟩ | ⟨b, _⟩
      · exact b
      · exact absurd b hw
      · exact absurd b hw
      · exact absurd b hw
    clear p6 h2
    obtain ⟨_, q1, q2, q3, q4, q5, q6⟩ := p18.resolve_right (fun n => by omega)
    clear p18
    exact ⟨Or.inl ⟨hw, by omega, by omega, b1.2.2⟩, by omega, by omega, by omega⟩
theorem cN_0 {b : Int → Int} {t lo hi : Int} (h : x_cN b t lo hi = 0) : x_kd b t = 2 ∧ lo ≤ x_vl b t ∧ x_vl b t ≤ hi := by
  rcases x_cN_s b t lo hi with ⟨_, a⟩ | ⟨_, _, a⟩ | ⟨_, _, a⟩ | ⟨a, a1, a2, _⟩
  · omega
  · omega
  · omega
  · exact ⟨a, a1, a2⟩
theorem cS_of {b : Int → Int} {t : Int} (h : x_kd b t = 3) : x_cS b t = 0 := by
  unfold x_cS
  rw [if_neg (by omega), if_neg (by omega)]
theorem cH_0 {b : Int → Int} {T : Nat → Int → Int} {n p : Int} (k : x_kd b p = 1) (l : x_li b p ≠ -1) (a : ¬ (x_li b p = 0 ∧ T 0 0 ≠ 0 ∨ x_li b p = 6 ∧ T 6 0 ≠ 0 ∨ x_li b p = 7 ∧ T 7 0 ≠ 0 ∨ x_li b p = 8 ∧ T 8 0 ≠ 0)) (c : ¬ (x_li b p = 9 ∧ 8 ≤ n)) : x_cH b T n p = 0 := by
  rcases x_cH_s b T n p with ⟨q, _⟩ | ⟨_, q, _⟩ | ⟨_, q, _⟩ | ⟨_, _, q, _⟩ | ⟨_, q1, q2, _⟩ | q
  · omega
  · omega
  · exact absurd q l
  · exact absurd q a
  · exact absurd ⟨q1, q2⟩ c
  · omega
theorem lk_all {b : Int → Int} {p0 c d s p g k v w a z u1 y1 : Int} (h2 : g = x_fr b p0 ∧ k = x_kd b p0 ∧ k ≠ 4 ∧ 0 ≤ k ∧ k ≤ 3 ∧ p = x_en b p0 ∧ (k ≠ 2 ∨ v = x_vl b p0 ∧ 0 ≤ v ∧ v ≤ 99) ∧ p0 ≤ g ∧ g ≤ p ∧ p ≤ s ∧ (k = 0 ∨ g < p)) (hw : w = 0)
    (p6 : w ≠ 0 ∧ u1 = w ∧ y1 = a ∧ z = 0 ∨ w = 0 ∧ k ≠ 2 ∧ u1 = 2 ∧ y1 = g ∧ z = 0 ∨ w = 0 ∧ k = 2 ∧ (v < c ∨ d < v) ∧ u1 = 3 ∧ y1 = g ∧ z = 0 ∨ w = 0 ∧ k = 2 ∧ c ≤ v ∧ v ≤ d ∧ u1 = 0 ∧ y1 = a ∧ z = v) :
    x_cN b p0 c d = u1 ∧ (u1 ≠ 0 ∧ 0 ≤ u1 ∧ y1 = g ∧ z = 0 ∨ u1 = 0 ∧ y1 = a ∧ z = v ∧ k = 2 ∧ v = x_vl b p0 ∧ c ≤ v ∧ v ≤ d) := by
  obtain ⟨a1, a2, a3, a4, a5, a6, a7, a8, a9, a10, a11⟩ := h2
  clear a11
  rcases p6 with ⟨b1, _⟩ | ⟨_, b2, b3, b4, b5⟩ | ⟨_, b2, b3, b4, b5, b6⟩ | ⟨_, b2, b3, b4, b5, b6, b7⟩
  · exact absurd hw b1
  · rcases x_cN_s b p0 c d with ⟨e, _⟩ | ⟨_, _, e⟩ | ⟨e, _⟩ | ⟨e, _⟩
    · omega
    · exact ⟨by omega, Or.inl ⟨by omega, by omega, b4, b5⟩⟩
    · omega
    · omega
  · have e7 := a7.resolve_left (fun n => n b2)
    exact ⟨(num_3 (by omega) e7.1 b3).trans b4.symm, Or.inl ⟨by omega, by omega, b5, b6⟩⟩
  · have e7 := a7.resolve_left (fun n => n b2)
    exact ⟨(num_0 (by omega) e7.1 ⟨b3, b4⟩).trans b5.symm, Or.inr ⟨b5, b6, b7, b2, e7.1, b3, b4⟩⟩
theorem lx_s {b : Int → Int} {p0 s p g k v : Int} (h2 : g = x_fr b p0 ∧ k = x_kd b p0 ∧ k ≠ 4 ∧ 0 ≤ k ∧ k ≤ 3 ∧ p = x_en b p0 ∧ (k ≠ 2 ∨ v = x_vl b p0 ∧ 0 ≤ v ∧ v ≤ 99) ∧ p0 ≤ g ∧ g ≤ p ∧ p ≤ s ∧ (k = 0 ∨ g < p)) : g = x_fr b p0 ∧ k = x_kd b p0 ∧ k ≠ 4 ∧ 0 ≤ k ∧ k ≤ 3 ∧ p = x_en b p0 ∧ p0 ≤ g ∧ g ≤ p ∧ p ≤ s := ⟨h2.1, h2.2.1, h2.2.2.1, h2.2.2.2.1, h2.2.2.2.2.1, h2.2.2.2.2.2.1, h2.2.2.2.2.2.2.2.1, h2.2.2.2.2.2.2.2.2.1, h2.2.2.2.2.2.2.2.2.2.1⟩
theorem nx_1 {b : Int → Int} {w f p q s u y m x a : Int} (h : w = 0 ∧ f = x_fr b p ∧ p ≤ f ∧ f ≤ q ∧ q ≤ s ∧ (u = 1 ∧ x_kd b p = 4 ∧ y = f ∨ u = 0 ∧ y = a ∧ m = x_kd b p ∧ m ≠ 4 ∧ 0 ≤ m ∧ m ≤ 3 ∧ q = x_en b p ∧ (m ≠ 2 ∨ x = x_vl b p ∧ 0 ≤ x ∧ x ≤ 99) ∧ (m = 0 ∨ f < q))) (hu : u ≠ 0) : w = 0 ∧ f = x_fr b p ∧ p ≤ f ∧ f ≤ q ∧ q ≤ s ∧ u = 1 ∧ x_kd b p = 4 ∧ y = f := by
  obtain ⟨h1, h2, h3, h4, h5, h6⟩ := h
  exact ⟨h1, h2, h3, h4, h5, h6.resolve_right (fun n => hu n.1)⟩
theorem nx_0 {b : Int → Int} {w f p q s u y m x a : Int} (h : w = 0 ∧ f = x_fr b p ∧ p ≤ f ∧ f ≤ q ∧ q ≤ s ∧ (u = 1 ∧ x_kd b p = 4 ∧ y = f ∨ u = 0 ∧ y = a ∧ m = x_kd b p ∧ m ≠ 4 ∧ 0 ≤ m ∧ m ≤ 3 ∧ q = x_en b p ∧ (m ≠ 2 ∨ x = x_vl b p ∧ 0 ≤ x ∧ x ≤ 99) ∧ (m = 0 ∨ f < q))) (hu : u = 0) : w = 0 ∧ f = x_fr b p ∧ p ≤ f ∧ f ≤ q ∧ q ≤ s ∧ u = 0 ∧ y = a ∧ m = x_kd b p ∧ m ≠ 4 ∧ 0 ≤ m ∧ m ≤ 3 ∧ q = x_en b p ∧ (m ≠ 2 ∨ x = x_vl b p ∧ 0 ≤ x ∧ x ≤ 99) ∧ (m = 0 ∨ f < q) := by
  obtain ⟨h1, h2, h3, h4, h5, h6⟩ := h
  exact ⟨h1, h2, h3, h4, h5, h6.resolve_left (fun n => by omega)⟩
theorem nx_e {b : Int → Int} {w f p q s u y m x a e : Int} (h : w = 0 ∧ f = x_fr b p ∧ p ≤ f ∧ f ≤ q ∧ q ≤ s ∧ (u = 1 ∧ x_kd b p = 4 ∧ y = f ∨ u = 0 ∧ y = a ∧ m = x_kd b p ∧ m ≠ 4 ∧ 0 ≤ m ∧ m ≤ 3 ∧ q = x_en b p ∧ (m ≠ 2 ∨ x = x_vl b p ∧ 0 ≤ x ∧ x ≤ 99) ∧ (m = 0 ∨ f < q))) (hp : p = e) : u = 1 ∧ x_kd b e = 4 ∧ y = x_fr b e ∨ u = 0 ∧ f = x_fr b e ∧ m = x_kd b e ∧ m ≠ 4 ∧ 0 ≤ m ∧ m ≤ 3 ∧ q = x_en b e ∧ (m ≠ 2 ∨ x = x_vl b e ∧ 0 ≤ x ∧ x ≤ 99) ∧ e ≤ f ∧ f ≤ q ∧ q ≤ s ∧ (m = 0 ∨ f < q) := by
  subst hp
  obtain ⟨h1, h2, h3, h4, h5, ⟨r1, r2, r3⟩ | ⟨r1, r2, r3, r4, r5, r6, r7, r8, r9⟩⟩ := h
  · exact Or.inl ⟨r1, r2, r3.trans h2⟩
  · exact Or.inr ⟨r1, h2, r3, r4, r5, r6, r7, r8, h3, h4, h5, r9⟩
theorem lx_of {b : Int → Int} {w f p q s u y m x a e : Int} (h : w = 0 ∧ f = x_fr b p ∧ p ≤ f ∧ f ≤ q ∧ q ≤ s ∧ u = 0 ∧ y = a ∧ m = x_kd b p ∧ m ≠ 4 ∧ 0 ≤ m ∧ m ≤ 3 ∧ q = x_en b p ∧ (m ≠ 2 ∨ x = x_vl b p ∧ 0 ≤ x ∧ x ≤ 99) ∧ (m = 0 ∨ f < q)) (hp : p = e) : f = x_fr b e ∧ m = x_kd b e ∧ m ≠ 4 ∧ 0 ≤ m ∧ m ≤ 3 ∧ q = x_en b e ∧ (m ≠ 2 ∨ x = x_vl b e ∧ 0 ≤ x ∧ x ≤ 99) ∧ e ≤ f ∧ f ≤ q ∧ q ≤ s ∧ (m = 0 ∨ f < q) := by
  subst hp
  obtain ⟨h1, h2, h3, h4, h5, r1, r2, r3, r4, r5, r6, r7, r8, r9⟩ := h
  exact ⟨h2, r3, r4, r5, r6, r7, r8, h3, h4, h5, r9⟩
end
section
def S_Reader_isRefusedX : List (Nat × Option Nat) := [(88, some 5), (88, some 6)]
abbrev q_Reader_isRefusedX (h : Hp) (n : Int32) (nZ : Int) (p : Int32) (pZ : Int) : Option Value → Hp → Prop := pInt (fun r h' => Inv h' ∧ fr S_Reader_isRefusedX h h' ∧ ∃ (e : Int32) (eZ : Int), e.toInt = eZ ∧ h'.1 88 6 = e ∧ ∃ (y : Int32) (yZ : Int), y.toInt = yZ ∧ h'.1 88 5 = y ∧ (r.toInt = 0 ∧ eZ = nZ ∧ yZ = pZ))
set_option maxRecDepth 100000 in
theorem c_Reader_isRefusedX (h : Hp) (hI : Inv h) (n : Int32) (nZ : Int) (nE : n.toInt = nZ) (p : Int32) (pZ : Int) (pE : p.toInt = pZ) : Ct y_Reader_isRefused b_Reader_isRefused 3 (some .boolean) 0 0 [.ref 88, .int n, .int p] h (q_Reader_isRefusedX h n nZ p pZ) := by
  refine ct_ow R_Reader [some (.ref 88), some (.int n), some (.int p)] rfl (by decide) rfl (Nat.le_of_ble_eq_true rfl) ?_
  have f0 : fr S_Reader_isRefusedX h h := fr_rf
  refine V_aload_n 0 d_Reader_isRefused_0 rfl rfl ?_
  refine V_iload_n 1 d_Reader_isRefused_1 rfl rfl ?_
  refine N_putI fp_Reader_41 sk_88 rfl d_Reader_isRefused_2 (fun h1 eh1 => ?_)
  have hI2 : Inv h1 := inv_full hI eh1 rfl
  have f3 : fr S_Reader_isRefusedX h h1 := fr_put f0 eh1 rfl
  refine V_aload_n 0 d_Reader_isRefused_5 rfl rfl ?_
  refine V_iload_n 2 d_Reader_isRefused_6 rfl rfl ?_
  refine N_putI fp_Reader_68 sk_88 rfl d_Reader_isRefused_7 (fun h4 eh4 => ?_)
  have hI5 : Inv h4 := inv_full hI2 eh4 rfl
  have f6 : fr S_Reader_isRefusedX h h4 := fr_put f3 eh4 rfl
  refine V_iconst 0 d_Reader_isRefused_10 (by decide) ?_
  exact V_zret rfl (by decide) d_Reader_isRefused_11 ⟨0, rfl, ⟨hI5, f6, n, nZ, nE, (kn_nei eh4 (kn_put eh1) (by decide)), p, pZ, pE, (kn_put eh4), (by (try rw [show Int32.toInt 0 = 0 from rfl]) <;> omega)⟩⟩
def S_Reader_isKindX : List (Nat × Option Nat) := [(88, some 5), (88, some 6)]
abbrev q_Reader_isKindX (h : Hp) (m : Int32) (mZ : Int) (k : Int32) (kZ : Int) (f : Int32) (fZ : Int) (a : Int32) (aZ : Int) (w : Int32) (wZ : Int) : Option Value → Hp → Prop := pInt (fun r h' => Inv h' ∧ fr S_Reader_isKindX h h' ∧ ∃ (e : Int32) (eZ : Int), e.toInt = eZ ∧ h'.1 88 6 = e ∧ ∃ (y : Int32) (yZ : Int), y.toInt = yZ ∧ h'.1 88 5 = y ∧ (kZ = 4 ∧ r.toInt = 0 ∧ eZ = 1 ∧ yZ = fZ ∨ kZ ≠ 4 ∧ kZ = mZ ∧ r.toInt = 1 ∧ eZ = wZ ∧ yZ = aZ ∨ kZ ≠ 4 ∧ kZ ≠ mZ ∧ r.toInt = 0 ∧ eZ = 2 ∧ yZ = fZ))
set_option maxRecDepth 100000 in
theorem c_Reader_isKindX (h : Hp) (hI : Inv h) (m : Int32) (mZ : Int) (mE : m.toInt = mZ) (k : Int32) (kZ : Int) (kE : k.toInt = kZ) (kK : h.1 89 2 = k) (f : Int32) (fZ : Int) (fE : f.toInt = fZ) (fK : h.1 89 3 = f) (a : Int32) (aZ : Int) (aE : a.toInt = aZ) (aK : h.1 88 5 = a) (w : Int32) (wZ : Int) (wE : w.toInt = wZ) (wK : h.1 88 6 = w) : Ct y_Reader_isKind b_Reader_isKind 2 (some .boolean) 1 22 [.ref 88, .int m] h (q_Reader_isKindX h m mZ k kZ f fZ a aZ w wZ) := by
  refine ct_ow R_Reader [some (.ref 88), some (.int m)] rfl (by decide) rfl (Nat.le_of_ble_eq_true rfl) ?_
  have f0 : fr S_Reader_isKindX h h := fr_rf
  have g1 : 0 ≤ fZ ∧ fZ ≤ 160 := inv_at hI fE fK.symm rfl
  refine V_aload_n 0 d_Reader_isKind_0 rfl rfl ?_
  refine V_getR fa_Reader_12 sk_88 rfl d_Reader_isKind_1 ?_
  refine N_getK fa_Reader_51 sk_89 rfl d_Reader_isKind_4 kK ?_
  refine V_iconst 4 d_Reader_isKind_7 (by decide) ?_
  refine V_icmp_ne 24 kE tc_4 d_Reader_isKind_8 (by decide) (fun c2 => ?_) (fun c2 => ?_)
  ·
    refine V_aload_n 0 d_Reader_isKind_24 rfl rfl ?_
    refine V_getR fa_Reader_12 sk_88 rfl d_Reader_isKind_25 ?_
    refine N_getK fa_Reader_51 sk_89 rfl d_Reader_isKind_28 kK ?_
    refine V_iload_n 1 d_Reader_isKind_31 rfl rfl ?_
    refine V_icmp_eq 50 kE mE d_Reader_isKind_32 (by decide) (fun c3 => ?_) (fun c3 => ?_)
    ·
      refine V_iconst 1 d_Reader_isKind_50 (by decide) ?_
      refine V_goto 55 d_Reader_isKind_51 (by decide) ?_
      exact V_zret rfl (by decide) d_Reader_isKind_55 ⟨1, rfl, ⟨hI, f0, w, wZ, wE, wK, a, aZ, aE, aK, (by (try rw [show Int32.toInt 1 = 1 from rfl]) <;> omega)⟩⟩
    ·
      refine V_aload_n 0 d_Reader_isKind_35 rfl rfl ?_
      refine V_iconst 2 d_Reader_isKind_36 (by decide) ?_
      refine V_aload_n 0 d_Reader_isKind_37 rfl rfl ?_
      refine V_getR fa_Reader_12 sk_88 rfl d_Reader_isKind_38 ?_
      refine N_getK fa_Reader_81 sk_89 rfl d_Reader_isKind_41 fK ?_
      refine N_callVI [.int 2, .int f] [] cv_Reader_64 sk_88 rfl d_Reader_isKind_44 rfl (Nat.le_of_ble_eq_true rfl) (by decide) (by decide) (c_Reader_isRefusedX h hI 2 2 tc_2 f fZ fE) (fun z4 h5 z4Z z4E p6 => ?_)
      obtain ⟨hI7, fh5, o9, o9Z, o9E, o9K, o10, o10Z, o10E, o10K, p6⟩ := p6
      have f8 : fr S_Reader_isKindX h h5 := fr_call f0 fh5 rfl
      refine V_if_eq 54 z4E d_Reader_isKind_47 (by decide) (fun c11 => ?_) (fun c11 => ?_)
      ·
        refine V_iconst 0 d_Reader_isKind_54 (by decide) ?_
        exact V_zret rfl (by decide) d_Reader_isKind_55 ⟨0, rfl, ⟨hI7, f8, o9, o9Z, o9E, o9K, o10, o10Z, o10E, o10K, (by (try rw [show Int32.toInt 0 = 0 from rfl]) <;> omega)⟩⟩
      ·
        refine V_iconst 1 d_Reader_isKind_50 (by decide) ?_
        refine V_goto 55 d_Reader_isKind_51 (by decide) ?_
        exact V_zret rfl (by decide) d_Reader_isKind_55 ⟨1, rfl, ⟨hI7, f8, o9, o9Z, o9E, o9K, o10, o10Z, o10E, o10K, (by (try rw [show Int32.toInt 1 = 1 from rfl]) <;> omega)⟩⟩
  ·
    refine V_aload_n 0 d_Reader_isKind_11 rfl rfl ?_
    refine V_iconst 1 d_Reader_isKind_12 (by decide) ?_
    refine V_aload_n 0 d_Reader_isKind_13 rfl rfl ?_
    refine V_getR fa_Reader_12 sk_88 rfl d_Reader_isKind_14 ?_
    refine N_getK fa_Reader_81 sk_89 rfl d_Reader_isKind_17 fK ?_
    refine N_callVI [.int 1, .int f] [] cv_Reader_64 sk_88 rfl d_Reader_isKind_20 rfl (Nat.le_of_ble_eq_true rfl) (by decide) (by decide) (c_Reader_isRefusedX h hI 1 1 tc_1 f fZ fE) (fun z12 h13 z12Z z12E p14 => ?_)
    obtain ⟨hI15, fh13, o17, o17Z, o17E, o17K, o18, o18Z, o18E, o18K, p14⟩ := p14
    have f16 : fr S_Reader_isKindX h h13 := fr_call f0 fh13 rfl
    exact V_zret rfl (by rw [z12E]; omega) d_Reader_isKind_23 ⟨z12, rfl, ⟨hI15, f16, o17, o17Z, o17E, o17K, o18, o18Z, o18E, o18K, (by (try rw [z12E]); omega)⟩⟩
def S_Reader_readNatureX : List (Nat × Option Nat) := [(89, some 2), (89, some 3), (89, some 4), (89, some 5), (88, some 5), (88, some 6), (88, some 4)]
abbrev q_Reader_readNatureX (h : Hp) (b : Int → Int) (T : Nat → Int → Int) (s : Int32) (sZ : Int) (t : Int32) (tZ : Int) (a : Int32) (aZ : Int) (w : Int32) (wZ : Int) : Option Value → Hp → Prop := pInt (fun r h' => Inv h' ∧ fr S_Reader_readNatureX h h' ∧ ∃ (k : Int32) (kZ : Int), k.toInt = kZ ∧ h'.1 89 2 = k ∧ ∃ (f : Int32) (fZ : Int), f.toInt = fZ ∧ h'.1 89 3 = f ∧ ∃ (u : Int32) (uZ : Int), u.toInt = uZ ∧ h'.1 89 4 = u ∧ ∃ (v : Int32) (vZ : Int), v.toInt = vZ ∧ h'.1 89 5 = v ∧ ∃ (e : Int32) (eZ : Int), e.toInt = eZ ∧ h'.1 88 6 = e ∧ ∃ (y : Int32) (yZ : Int), y.toInt = yZ ∧ h'.1 88 5 = y ∧ ∃ (x : Int32) (xZ : Int), x.toInt = xZ ∧ h'.1 88 4 = x ∧ (r.toInt = 1 ∧ x_cK b tZ = 0 ∧ uZ = x_en b tZ ∧ xZ = x_nn b tZ ∧ eZ = wZ ∧ yZ = aZ ∧ tZ < uZ ∧ uZ ≤ sZ ∨ r.toInt = 0 ∧ x_cK b tZ ≠ 0 ∧ eZ = x_cK b tZ ∧ yZ = x_fr b tZ))
set_option maxRecDepth 100000 in
theorem c_Reader_readNatureX (h : Hp) (b : Int → Int) (T : Nat → Int → Int) (hI : Inv h) (s : Int32) (sZ : Int) (sE : s.toInt = sZ) (sK : h.1 89 1 = s) (t : Int32) (tZ : Int) (tE : t.toInt = tZ) (tK : h.1 89 4 = t) (a : Int32) (aZ : Int) (aE : a.toInt = aZ) (aK : h.1 88 5 = a) (w : Int32) (wZ : Int) (wE : w.toInt = wZ) (wK : h.1 88 6 = w) (hy0 : TP h 90 sZ b) (hy1 : 0 ≤ tZ ∧ tZ ≤ sZ) : Ct y_Reader_readNature b_Reader_readNature 1 (some .boolean) 6 129 [.ref 88] h (q_Reader_readNatureX h b T s sZ t tZ a aZ w wZ) := by
  refine ct_ow R_Reader [some (.ref 88)] rfl (by decide) rfl (Nat.le_of_ble_eq_true rfl) ?_
  have f0 : fr S_Reader_readNatureX h h := fr_rf
  have g1 : 0 ≤ sZ ∧ sZ ≤ 160 := inv_at hI sE sK.symm rfl
  have g2 : 0 ≤ tZ ∧ tZ ≤ 160 := inv_at hI tE tK.symm rfl
  refine V_aload_n 0 d_Reader_readNature_0 rfl rfl ?_
  refine V_getR fa_Reader_12 sk_88 rfl d_Reader_readNature_1 ?_
  refine N_callVV [] [] cv_Reader_48 sk_89 rfl d_Reader_readNature_4 rfl (Nat.le_of_ble_eq_true rfl) (by decide) (by decide) (c_Tape_advanceX h b hI s sZ sE sK t tZ tE tK (TP_fr f0 (fun _ => rfl) hy0) (by omega)) (fun h4 p5 => ?_)
  obtain ⟨hI6, fh4, o8, o8Z, o8E, o8K, o9, o9Z, o9E, o9K, o10, o10Z, o10E, o10K, o11, o11Z, o11E, o11K, p5⟩ := p5
  have f7 : fr S_Reader_readNatureX h h4 := fr_call f0 fh4 rfl
  have g12 : 0 ≤ o9Z ∧ o9Z ≤ 160 := inv_at hI6 o9E o9K.symm rfl
  have g13 : 0 ≤ o10Z ∧ o10Z ≤ 160 := inv_at hI6 o10E o10K.symm rfl
  refine V_aload_n 0 d_Reader_readNature_7 rfl rfl ?_
  refine V_iconst 1 d_Reader_readNature_8 (by decide) ?_
  refine N_callVI [.int 1] [] cv_Reader_84 sk_88 rfl d_Reader_readNature_9 rfl (Nat.le_of_ble_eq_true rfl) (by decide) (by decide) (c_Reader_isKindX h4 hI6 1 1 tc_1 o8 o8Z o8E o8K o9 o9Z o9E o9K a aZ aE (kn_call fh4 aK rfl) w wZ wE (kn_call fh4 wK rfl)) (fun z14 h15 z14Z z14E p16 => ?_)
  obtain ⟨hI17, fh15, o19, o19Z, o19E, o19K, o20, o20Z, o20E, o20K, p16⟩ := p16
  have f18 : fr S_Reader_readNatureX h h15 := fr_call f7 fh15 rfl
  refine V_if_ne 17 z14E d_Reader_readNature_12 (by decide) (fun c21 => ?_) (fun c21 => ?_)
  ·
    replace p16 := kd_y p16 (by omega)
    replace p5 := adv_m 1 p5 (by omega) (by decide)
    refine V_aload_n 0 d_Reader_readNature_17 rfl rfl ?_
    refine V_aload_n 0 d_Reader_readNature_18 rfl rfl ?_
    refine N_callVI [] [.ref 88] cv_Reader_116 sk_88 rfl d_Reader_readNature_19 rfl (Nat.le_of_ble_eq_true rfl) (by decide) (by decide) (c_Reader_natureNamedX h15 b hI17 s sZ sE (kn_call fh15 (kn_call fh4 sK rfl) rfl) o8 o8Z o8E (kn_call fh15 o8K rfl) o9 o9Z o9E (kn_call fh15 o9K rfl) o10 o10Z o10E (kn_call fh15 o10K rfl) (TP_fr f18 (fun _ => rfl) hy0) (by omega)) (fun z22 h23 z22Z z22E p24 => ?_)
    obtain ⟨eh23, p24⟩ := p24
    subst eh23
    refine N_putI fp_Reader_119 sk_88 rfl d_Reader_readNature_22 (fun h25 eh25 => ?_)
    have hI26 : Inv h25 := inv_full hI17 eh25 rfl
    have f27 : fr S_Reader_readNatureX h h25 := fr_put f18 eh25 rfl
    have g28 : x_nt b o9Z o10Z = x_nn b tZ := by unfold x_nn; rw [show o9Z = x_fr b tZ by omega, show o10Z = x_en b tZ by omega]
    have g29 := x_nt_b b o9Z o10Z
    refine V_aload_n 0 d_Reader_readNature_25 rfl rfl ?_
    refine N_getK fa_Reader_119 sk_88 rfl d_Reader_readNature_26 (kn_put eh25) ?_
    refine V_if_ge 47 z22E d_Reader_readNature_29 (by decide) (fun c30 => ?_) (fun c30 => ?_)
    ·
      refine V_iconst 1 d_Reader_readNature_47 (by decide) ?_
      refine V_goto 52 d_Reader_readNature_48 (by decide) ?_
      exact V_zret rfl (by decide) d_Reader_readNature_52 ⟨1, rfl, ⟨hI26, f27, o8, o8Z, o8E, (kn_ne eh25 (kn_call fh15 o8K rfl) (by decide)), o9, o9Z, o9E, (kn_ne eh25 (kn_call fh15 o9K rfl) (by decide)), o10, o10Z, o10E, (kn_ne eh25 (kn_call fh15 o10K rfl) (by decide)), o11, o11Z, o11E, (kn_ne eh25 (kn_call fh15 o11K rfl) (by decide)), o19, o19Z, o19E, (kn_nei eh25 o19K (by decide)), o20, o20Z, o20E, (kn_nei eh25 o20K (by decide)), z22, z22Z, z22E, (kn_put eh25), (by have s1 := x_cK_s b tZ; exact Or.inl ⟨rfl, by omega, by omega, by omega, by omega, by omega, by omega, by omega⟩)⟩⟩
    ·
      refine V_aload_n 0 d_Reader_readNature_32 rfl rfl ?_
      refine V_iconst 2 d_Reader_readNature_33 (by decide) ?_
      refine V_aload_n 0 d_Reader_readNature_34 rfl rfl ?_
      refine V_getR fa_Reader_12 sk_88 rfl d_Reader_readNature_35 ?_
      refine N_getK fa_Reader_81 sk_89 rfl d_Reader_readNature_38 (kn_ne eh25 (kn_call fh15 o9K rfl) (by decide)) ?_
      refine N_callVI [.int 2, .int o9] [] cv_Reader_64 sk_88 rfl d_Reader_readNature_41 rfl (Nat.le_of_ble_eq_true rfl) (by decide) (by decide) (c_Reader_isRefusedX h25 hI26 2 2 tc_2 o9 o9Z o9E) (fun z31 h32 z31Z z31E p33 => ?_)
      obtain ⟨hI34, fh32, o36, o36Z, o36E, o36K, o37, o37Z, o37E, o37K, p33⟩ := p33
      have f35 : fr S_Reader_readNatureX h h32 := fr_call f27 fh32 rfl
      refine V_if_eq 51 z31E d_Reader_readNature_44 (by decide) (fun c38 => ?_) (fun c38 => ?_)
      ·
        refine V_iconst 0 d_Reader_readNature_51 (by decide) ?_
        exact V_zret rfl (by decide) d_Reader_readNature_52 ⟨0, rfl, ⟨hI34, f35, o8, o8Z, o8E, (kn_call fh32 (kn_ne eh25 (kn_call fh15 o8K rfl) (by decide)) rfl), o9, o9Z, o9E, (kn_call fh32 (kn_ne eh25 (kn_call fh15 o9K rfl) (by decide)) rfl), o10, o10Z, o10E, (kn_call fh32 (kn_ne eh25 (kn_call fh15 o10K rfl) (by decide)) rfl), o11, o11Z, o11E, (kn_call fh32 (kn_ne eh25 (kn_call fh15 o11K rfl) (by decide)) rfl), o36, o36Z, o36E, o36K, o37, o37Z, o37E, o37K, z22, z22Z, z22E, (kn_call fh32 (kn_put eh25) rfl), (by have s1 := x_cK_s b tZ; exact Or.inr ⟨tc_0, by omega, by omega, by omega⟩)⟩⟩
      ·
        refine V_iconst 1 d_Reader_readNature_47 (by decide) ?_
        refine V_goto 52 d_Reader_readNature_48 (by decide) ?_
        exact V_zret rfl (by decide) d_Reader_readNature_52 ⟨1, rfl, ⟨hI34, f35, o8, o8Z, o8E, (kn_call fh32 (kn_ne eh25 (kn_call fh15 o8K rfl) (by decide)) rfl), o9, o9Z, o9E, (kn_call fh32 (kn_ne eh25 (kn_call fh15 o9K rfl) (by decide)) rfl), o10, o10Z, o10E, (kn_call fh32 (kn_ne eh25 (kn_call fh15 o10K rfl) (by decide)) rfl), o11, o11Z, o11E, (kn_call fh32 (kn_ne eh25 (kn_call fh15 o11K rfl) (by decide)) rfl), o36, o36Z, o36E, o36K, o37, o37Z, o37E, o37K, z22, z22Z, z22E, (kn_call fh32 (kn_put eh25) rfl), (by have s1 := x_cK_s b tZ; exact Or.inl ⟨rfl, by omega, by omega, by omega, by omega, by omega, by omega, by omega⟩)⟩⟩
  ·
    replace p16 := kd_n p16 (by omega)
    replace p5 := adv_0 p5
    refine V_iconst 0 d_Reader_readNature_15 (by decide) ?_
    obtain ⟨z39, z39Z, z39E, z39e⟩ : ∃ (y : Int32) (Y : Int), y.toInt = Y ∧ y = h15.1 88 4 := ⟨_, _, rfl, rfl⟩
    exact V_zret rfl (by decide) d_Reader_readNature_16 ⟨0, rfl, ⟨hI17, f18, o8, o8Z, o8E, (kn_call fh15 o8K rfl), o9, o9Z, o9E, (kn_call fh15 o9K rfl), o10, o10Z, o10E, (kn_call fh15 o10K rfl), o11, o11Z, o11E, (kn_call fh15 o11K rfl), o19, o19Z, o19E, o19K, o20, o20Z, o20E, o20K, z39, z39Z, z39E, z39e.symm, (by have s1 := x_cK_s b tZ; exact Or.inr ⟨tc_0, by omega, by omega, by omega⟩)⟩⟩
abbrev q_Reader_isOfOneX_0 (h : Hp)  : Option Value → Hp → Prop := pInt (fun r h' => h = h' ∧ (r.toInt = 0))
set_option maxRecDepth 100000 in
theorem c_Reader_isOfOneX_0 (h : Hp) : Ct y_Reader_isOfOne b_Reader_isOfOne 1 (some .boolean) 0 0 [.int 0] h (q_Reader_isOfOneX_0 h ) := by
  refine ct_ow R_Reader [some (.int 0)] rfl (by decide) rfl (Nat.le_of_ble_eq_true rfl) ?_
  have f0 : fr [] h h := fr_rf
  refine V_iload_n 0 d_Reader_isOfOne_0 rfl rfl ?_
  refine V_iconst 1 d_Reader_isOfOne_1 (by decide) ?_
  refine V_icmp_lt 14 tc_0 tc_1 d_Reader_isOfOne_2 (by decide) (fun c1 => ?_) (fun c1 => ?_)
  ·
    refine V_iconst 0 d_Reader_isOfOne_14 (by decide) ?_
    exact V_zret rfl (by decide) d_Reader_isOfOne_15 ⟨0, rfl, ⟨rfl, (by (try rw [show Int32.toInt 0 = 0 from rfl]) <;> omega)⟩⟩
  ·
    exact absurd c1 (by decide)
abbrev q_Reader_isOfOneX_1 (h : Hp)  : Option Value → Hp → Prop := pInt (fun r h' => h = h' ∧ (r.toInt = 1))
set_option maxRecDepth 100000 in
theorem c_Reader_isOfOneX_1 (h : Hp) : Ct y_Reader_isOfOne b_Reader_isOfOne 1 (some .boolean) 0 0 [.int 1] h (q_Reader_isOfOneX_1 h ) := by
  refine ct_ow R_Reader [some (.int 1)] rfl (by decide) rfl (Nat.le_of_ble_eq_true rfl) ?_
  have f0 : fr [] h h := fr_rf
  refine V_iload_n 0 d_Reader_isOfOne_0 rfl rfl ?_
  refine V_iconst 1 d_Reader_isOfOne_1 (by decide) ?_
  refine V_icmp_lt 14 tc_1 tc_1 d_Reader_isOfOne_2 (by decide) (fun c1 => ?_) (fun c1 => ?_)
  ·
    exact absurd c1 (by decide)
  ·
    refine V_iload_n 0 d_Reader_isOfOne_5 rfl rfl ?_
    refine V_iconst 5 d_Reader_isOfOne_6 (by decide) ?_
    refine V_icmp_gt 14 tc_1 tc_5 d_Reader_isOfOne_7 (by decide) (fun c2 => ?_) (fun c2 => ?_)
    ·
      exact absurd c2 (by decide)
    ·
      refine V_iconst 1 d_Reader_isOfOne_10 (by decide) ?_
      refine V_goto 15 d_Reader_isOfOne_11 (by decide) ?_
      exact V_zret rfl (by decide) d_Reader_isOfOne_15 ⟨1, rfl, ⟨rfl, (by (try rw [show Int32.toInt 1 = 1 from rfl]) <;> omega)⟩⟩
abbrev q_Reader_isOfOneX_2 (h : Hp)  : Option Value → Hp → Prop := pInt (fun r h' => h = h' ∧ (r.toInt = 1))
set_option maxRecDepth 100000 in
theorem c_Reader_isOfOneX_2 (h : Hp) : Ct y_Reader_isOfOne b_Reader_isOfOne 1 (some .boolean) 0 0 [.int 2] h (q_Reader_isOfOneX_2 h ) := by
  refine ct_ow R_Reader [some (.int 2)] rfl (by decide) rfl (Nat.le_of_ble_eq_true rfl) ?_
  have f0 : fr [] h h := fr_rf
  refine V_iload_n 0 d_Reader_isOfOne_0 rfl rfl ?_
  refine V_iconst 1 d_Reader_isOfOne_1 (by decide) ?_
  refine V_icmp_lt 14 tc_2 tc_1 d_Reader_isOfOne_2 (by decide) (fun c1 => ?_) (fun c1 => ?_)
  ·
    exact absurd c1 (by decide)
  ·
    refine V_iload_n 0 d_Reader_isOfOne_5 rfl rfl ?_
    refine V_iconst 5 d_Reader_isOfOne_6 (by decide) ?_
    refine V_icmp_gt 14 tc_2 tc_5 d_Reader_isOfOne_7 (by decide) (fun c2 => ?_) (fun c2 => ?_)
    ·
      exact absurd c2 (by decide)
    ·
      refine V_iconst 1 d_Reader_isOfOne_10 (by decide) ?_
      refine V_goto 15 d_Reader_isOfOne_11 (by decide) ?_
      exact V_zret rfl (by decide) d_Reader_isOfOne_15 ⟨1, rfl, ⟨rfl, (by (try rw [show Int32.toInt 1 = 1 from rfl]) <;> omega)⟩⟩
abbrev q_Reader_isOfOneX_3 (h : Hp)  : Option Value → Hp → Prop := pInt (fun r h' => h = h' ∧ (r.toInt = 1))
set_option maxRecDepth 100000 in
theorem c_Reader_isOfOneX_3 (h : Hp) : Ct y_Reader_isOfOne b_Reader_isOfOne 1 (some .boolean) 0 0 [.int 3] h (q_Reader_isOfOneX_3 h ) := by
  refine ct_ow R_Reader [some (.int 3)] rfl (by decide) rfl (Nat.le_of_ble_eq_true rfl) ?_
  have f0 : fr [] h h := fr_rf
  refine V_iload_n 0 d_Reader_isOfOne_0 rfl rfl ?_
  refine V_iconst 1 d_Reader_isOfOne_1 (by decide) ?_
  refine V_icmp_lt 14 tc_3 tc_1 d_Reader_isOfOne_2 (by decide) (fun c1 => ?_) (fun c1 => ?_)
  ·
    exact absurd c1 (by decide)
  ·
    refine V_iload_n 0 d_Reader_isOfOne_5 rfl rfl ?_
    refine V_iconst 5 d_Reader_isOfOne_6 (by decide) ?_
    refine V_icmp_gt 14 tc_3 tc_5 d_Reader_isOfOne_7 (by decide) (fun c2 => ?_) (fun c2 => ?_)
    ·
      exact absurd c2 (by decide)
    ·
      refine V_iconst 1 d_Reader_isOfOne_10 (by decide) ?_
      refine V_goto 15 d_Reader_isOfOne_11 (by decide) ?_
      exact V_zret rfl (by decide) d_Reader_isOfOne_15 ⟨1, rfl, ⟨rfl, (by (try rw [show Int32.toInt 1 = 1 from rfl]) <;> omega)⟩⟩
abbrev q_Reader_isOfOneX_4 (h : Hp)  : Option Value → Hp → Prop := pInt (fun r h' => h = h' ∧ (r.toInt = 1))
set_option maxRecDepth 100000 in
theorem c_Reader_isOfOneX_4 (h : Hp) : Ct y_Reader_isOfOne b_Reader_isOfOne 1 (some .boolean) 0 0 [.int 4] h (q_Reader_isOfOneX_4 h ) := by
  refine ct_ow R_Reader [some (.int 4)] rfl (by decide) rfl (Nat.le_of_ble_eq_true rfl) ?_
  have f0 : fr [] h h := fr_rf
  refine V_iload_n 0 d_Reader_isOfOne_0 rfl rfl ?_
  refine V_iconst 1 d_Reader_isOfOne_1 (by decide) ?_
  refine V_icmp_lt 14 tc_4 tc_1 d_Reader_isOfOne_2 (by decide) (fun c1 => ?_) (fun c1 => ?_)
  ·
    exact absurd c1 (by decide)
  ·
    refine V_iload_n 0 d_Reader_isOfOne_5 rfl rfl ?_
    refine V_iconst 5 d_Reader_isOfOne_6 (by decide) ?_
    refine V_icmp_gt 14 tc_4 tc_5 d_Reader_isOfOne_7 (by decide) (fun c2 => ?_) (fun c2 => ?_)
    ·
      exact absurd c2 (by decide)
    ·
      refine V_iconst 1 d_Reader_isOfOne_10 (by decide) ?_
      refine V_goto 15 d_Reader_isOfOne_11 (by decide) ?_
      exact V_zret rfl (by decide) d_Reader_isOfOne_15 ⟨1, rfl, ⟨rfl, (by (try rw [show Int32.toInt 1 = 1 from rfl]) <;> omega)⟩⟩
abbrev q_Reader_isOfOneX_5 (h : Hp)  : Option Value → Hp → Prop := pInt (fun r h' => h = h' ∧ (r.toInt = 1))
set_option maxRecDepth 100000 in
theorem c_Reader_isOfOneX_5 (h : Hp) : Ct y_Reader_isOfOne b_Reader_isOfOne 1 (some .boolean) 0 0 [.int 5] h (q_Reader_isOfOneX_5 h ) := by
  refine ct_ow R_Reader [some (.int 5)] rfl (by decide) rfl (Nat.le_of_ble_eq_true rfl) ?_
  have f0 : fr [] h h := fr_rf
  refine V_iload_n 0 d_Reader_isOfOne_0 rfl rfl ?_
  refine V_iconst 1 d_Reader_isOfOne_1 (by decide) ?_
  refine V_icmp_lt 14 tc_5 tc_1 d_Reader_isOfOne_2 (by decide) (fun c1 => ?_) (fun c1 => ?_)
  ·
    exact absurd c1 (by decide)
  ·
    refine V_iload_n 0 d_Reader_isOfOne_5 rfl rfl ?_
    refine V_iconst 5 d_Reader_isOfOne_6 (by decide) ?_
    refine V_icmp_gt 14 tc_5 tc_5 d_Reader_isOfOne_7 (by decide) (fun c2 => ?_) (fun c2 => ?_)
    ·
      exact absurd c2 (by decide)
    ·
      refine V_iconst 1 d_Reader_isOfOne_10 (by decide) ?_
      refine V_goto 15 d_Reader_isOfOne_11 (by decide) ?_
      exact V_zret rfl (by decide) d_Reader_isOfOne_15 ⟨1, rfl, ⟨rfl, (by (try rw [show Int32.toInt 1 = 1 from rfl]) <;> omega)⟩⟩
abbrev q_Reader_isOfOneX_6 (h : Hp)  : Option Value → Hp → Prop := pInt (fun r h' => h = h' ∧ (r.toInt = 0))
set_option maxRecDepth 100000 in
theorem c_Reader_isOfOneX_6 (h : Hp) : Ct y_Reader_isOfOne b_Reader_isOfOne 1 (some .boolean) 0 0 [.int 6] h (q_Reader_isOfOneX_6 h ) := by
  refine ct_ow R_Reader [some (.int 6)] rfl (by decide) rfl (Nat.le_of_ble_eq_true rfl) ?_
  have f0 : fr [] h h := fr_rf
  refine V_iload_n 0 d_Reader_isOfOne_0 rfl rfl ?_
  refine V_iconst 1 d_Reader_isOfOne_1 (by decide) ?_
  refine V_icmp_lt 14 tc_6 tc_1 d_Reader_isOfOne_2 (by decide) (fun c1 => ?_) (fun c1 => ?_)
  ·
    exact absurd c1 (by decide)
  ·
    refine V_iload_n 0 d_Reader_isOfOne_5 rfl rfl ?_
    refine V_iconst 5 d_Reader_isOfOne_6 (by decide) ?_
    refine V_icmp_gt 14 tc_6 tc_5 d_Reader_isOfOne_7 (by decide) (fun c2 => ?_) (fun c2 => ?_)
    ·
      refine V_iconst 0 d_Reader_isOfOne_14 (by decide) ?_
      exact V_zret rfl (by decide) d_Reader_isOfOne_15 ⟨0, rfl, ⟨rfl, (by (try rw [show Int32.toInt 0 = 0 from rfl]) <;> omega)⟩⟩
    ·
      exact absurd c2 (by decide)
abbrev q_Reader_isOfOneX_7 (h : Hp)  : Option Value → Hp → Prop := pInt (fun r h' => h = h' ∧ (r.toInt = 0))
set_option maxRecDepth 100000 in
theorem c_Reader_isOfOneX_7 (h : Hp) : Ct y_Reader_isOfOne b_Reader_isOfOne 1 (some .boolean) 0 0 [.int 7] h (q_Reader_isOfOneX_7 h ) := by
  refine ct_ow R_Reader [some (.int 7)] rfl (by decide) rfl (Nat.le_of_ble_eq_true rfl) ?_
  have f0 : fr [] h h := fr_rf
  refine V_iload_n 0 d_Reader_isOfOne_0 rfl rfl ?_
  refine V_iconst 1 d_Reader_isOfOne_1 (by decide) ?_
  refine V_icmp_lt 14 tc_7 tc_1 d_Reader_isOfOne_2 (by decide) (fun c1 => ?_) (fun c1 => ?_)
  ·
    exact absurd c1 (by decide)
  ·
    refine V_iload_n 0 d_Reader_isOfOne_5 rfl rfl ?_
    refine V_iconst 5 d_Reader_isOfOne_6 (by decide) ?_
    refine V_icmp_gt 14 tc_7 tc_5 d_Reader_isOfOne_7 (by decide) (fun c2 => ?_) (fun c2 => ?_)
    ·
      refine V_iconst 0 d_Reader_isOfOne_14 (by decide) ?_
      exact V_zret rfl (by decide) d_Reader_isOfOne_15 ⟨0, rfl, ⟨rfl, (by (try rw [show Int32.toInt 0 = 0 from rfl]) <;> omega)⟩⟩
    ·
      exact absurd c2 (by decide)
abbrev q_Reader_isOfOneX_8 (h : Hp)  : Option Value → Hp → Prop := pInt (fun r h' => h = h' ∧ (r.toInt = 0))
set_option maxRecDepth 100000 in
theorem c_Reader_isOfOneX_8 (h : Hp) : Ct y_Reader_isOfOne b_Reader_isOfOne 1 (some .boolean) 0 0 [.int 8] h (q_Reader_isOfOneX_8 h ) := by
  refine ct_ow R_Reader [some (.int 8)] rfl (by decide) rfl (Nat.le_of_ble_eq_true rfl) ?_
  have f0 : fr [] h h := fr_rf
  refine V_iload_n 0 d_Reader_isOfOne_0 rfl rfl ?_
  refine V_iconst 1 d_Reader_isOfOne_1 (by decide) ?_
  refine V_icmp_lt 14 tc_8 tc_1 d_Reader_isOfOne_2 (by decide) (fun c1 => ?_) (fun c1 => ?_)
  ·
    exact absurd c1 (by decide)
  ·
    refine V_iload_n 0 d_Reader_isOfOne_5 rfl rfl ?_
    refine V_iconst 5 d_Reader_isOfOne_6 (by decide) ?_
    refine V_icmp_gt 14 tc_8 tc_5 d_Reader_isOfOne_7 (by decide) (fun c2 => ?_) (fun c2 => ?_)
    ·
      refine V_iconst 0 d_Reader_isOfOne_14 (by decide) ?_
      exact V_zret rfl (by decide) d_Reader_isOfOne_15 ⟨0, rfl, ⟨rfl, (by (try rw [show Int32.toInt 0 = 0 from rfl]) <;> omega)⟩⟩
    ·
      exact absurd c2 (by decide)
abbrev q_Reader_isOfOneX_9 (h : Hp)  : Option Value → Hp → Prop := pInt (fun r h' => h = h' ∧ (r.toInt = 0))
set_option maxRecDepth 100000 in
theorem c_Reader_isOfOneX_9 (h : Hp) : Ct y_Reader_isOfOne b_Reader_isOfOne 1 (some .boolean) 0 0 [.int 9] h (q_Reader_isOfOneX_9 h ) := by
  refine ct_ow R_Reader [some (.int 9)] rfl (by decide) rfl (Nat.le_of_ble_eq_true rfl) ?_
  have f0 : fr [] h h := fr_rf
  refine V_iload_n 0 d_Reader_isOfOne_0 rfl rfl ?_
  refine V_iconst 1 d_Reader_isOfOne_1 (by decide) ?_
  refine V_icmp_lt 14 tc_9 tc_1 d_Reader_isOfOne_2 (by decide) (fun c1 => ?_) (fun c1 => ?_)
  ·
    exact absurd c1 (by decide)
  ·
    refine V_iload_n 0 d_Reader_isOfOne_5 rfl rfl ?_
    refine V_iconst 5 d_Reader_isOfOne_6 (by decide) ?_
    refine V_icmp_gt 14 tc_9 tc_5 d_Reader_isOfOne_7 (by decide) (fun c2 => ?_) (fun c2 => ?_)
    ·
      refine V_iconst 0 d_Reader_isOfOne_14 (by decide) ?_
      exact V_zret rfl (by decide) d_Reader_isOfOne_15 ⟨0, rfl, ⟨rfl, (by (try rw [show Int32.toInt 0 = 0 from rfl]) <;> omega)⟩⟩
    ·
      exact absurd c2 (by decide)
abbrev q_Reader_isOnceOnlyX_0 (h : Hp)  : Option Value → Hp → Prop := pInt (fun r h' => h = h' ∧ (r.toInt = 1))
set_option maxRecDepth 100000 in
theorem c_Reader_isOnceOnlyX_0 (h : Hp) : Ct y_Reader_isOnceOnly b_Reader_isOnceOnly 1 (some .boolean) 0 0 [.int 0] h (q_Reader_isOnceOnlyX_0 h ) := by
  refine ct_ow R_Reader [some (.int 0)] rfl (by decide) rfl (Nat.le_of_ble_eq_true rfl) ?_
  have f0 : fr [] h h := fr_rf
  refine V_iload_n 0 d_Reader_isOnceOnly_0 rfl rfl ?_
  refine V_if_eq 22 tc_0 d_Reader_isOnceOnly_1 (by decide) (fun c1 => ?_) (fun c1 => ?_)
  ·
    refine V_iconst 1 d_Reader_isOnceOnly_22 (by decide) ?_
    refine V_goto 27 d_Reader_isOnceOnly_23 (by decide) ?_
    exact V_zret rfl (by decide) d_Reader_isOnceOnly_27 ⟨1, rfl, ⟨rfl, (by (try rw [show Int32.toInt 1 = 1 from rfl]) <;> omega)⟩⟩
  ·
    exact absurd c1 (by decide)
abbrev q_Reader_isOnceOnlyX_1 (h : Hp)  : Option Value → Hp → Prop := pInt (fun r h' => h = h' ∧ (r.toInt = 0))
set_option maxRecDepth 100000 in
theorem c_Reader_isOnceOnlyX_1 (h : Hp) : Ct y_Reader_isOnceOnly b_Reader_isOnceOnly 1 (some .boolean) 0 0 [.int 1] h (q_Reader_isOnceOnlyX_1 h ) := by
  refine ct_ow R_Reader [some (.int 1)] rfl (by decide) rfl (Nat.le_of_ble_eq_true rfl) ?_
  have f0 : fr [] h h := fr_rf
  refine V_iload_n 0 d_Reader_isOnceOnly_0 rfl rfl ?_
  refine V_if_eq 22 tc_1 d_Reader_isOnceOnly_1 (by decide) (fun c1 => ?_) (fun c1 => ?_)
  ·
    exact absurd c1 (by decide)
  ·
    refine V_iload_n 0 d_Reader_isOnceOnly_4 rfl rfl ?_
    refine V_bipush 6 d_Reader_isOnceOnly_5 (by decide) ?_
    refine V_icmp_eq 22 tc_1 tc_6 d_Reader_isOnceOnly_7 (by decide) (fun c2 => ?_) (fun c2 => ?_)
    ·
      exact absurd c2 (by decide)
    ·
      refine V_iload_n 0 d_Reader_isOnceOnly_10 rfl rfl ?_
      refine V_bipush 7 d_Reader_isOnceOnly_11 (by decide) ?_
      refine V_icmp_eq 22 tc_1 tc_7 d_Reader_isOnceOnly_13 (by decide) (fun c3 => ?_) (fun c3 => ?_)
      ·
        exact absurd c3 (by decide)
      ·
        refine V_iload_n 0 d_Reader_isOnceOnly_16 rfl rfl ?_
        refine V_bipush 8 d_Reader_isOnceOnly_17 (by decide) ?_
        refine V_icmp_ne 26 tc_1 tc_8 d_Reader_isOnceOnly_19 (by decide) (fun c4 => ?_) (fun c4 => ?_)
        ·
          refine V_iconst 0 d_Reader_isOnceOnly_26 (by decide) ?_
          exact V_zret rfl (by decide) d_Reader_isOnceOnly_27 ⟨0, rfl, ⟨rfl, (by (try rw [show Int32.toInt 0 = 0 from rfl]) <;> omega)⟩⟩
        ·
          exact absurd c4 (by decide)
abbrev q_Reader_isOnceOnlyX_2 (h : Hp)  : Option Value → Hp → Prop := pInt (fun r h' => h = h' ∧ (r.toInt = 0))
set_option maxRecDepth 100000 in
theorem c_Reader_isOnceOnlyX_2 (h : Hp) : Ct y_Reader_isOnceOnly b_Reader_isOnceOnly 1 (some .boolean) 0 0 [.int 2] h (q_Reader_isOnceOnlyX_2 h ) := by
  refine ct_ow R_Reader [some (.int 2)] rfl (by decide) rfl (Nat.le_of_ble_eq_true rfl) ?_
  have f0 : fr [] h h := fr_rf
  refine V_iload_n 0 d_Reader_isOnceOnly_0 rfl rfl ?_
  refine V_if_eq 22 tc_2 d_Reader_isOnceOnly_1 (by decide) (fun c1 => ?_) (fun c1 => ?_)
  ·
    exact absurd c1 (by decide)
  ·
    refine V_iload_n 0 d_Reader_isOnceOnly_4 rfl rfl ?_
    refine V_bipush 6 d_Reader_isOnceOnly_5 (by decide) ?_
    refine V_icmp_eq 22 tc_2 tc_6 d_Reader_isOnceOnly_7 (by decide) (fun c2 => ?_) (fun c2 => ?_)
    ·
      exact absurd c2 (by decide)
    ·
      refine V_iload_n 0 d_Reader_isOnceOnly_10 rfl rfl ?_
      refine V_bipush 7 d_Reader_isOnceOnly_11 (by decide) ?_
      refine V_icmp_eq 22 tc_2 tc_7 d_Reader_isOnceOnly_13 (by decide) (fun c3 => ?_) (fun c3 => ?_)
      ·
        exact absurd c3 (by decide)
      ·
        refine V_iload_n 0 d_Reader_isOnceOnly_16 rfl rfl ?_
        refine V_bipush 8 d_Reader_isOnceOnly_17 (by decide) ?_
        refine V_icmp_ne 26 tc_2 tc_8 d_Reader_isOnceOnly_19 (by decide) (fun c4 => ?_) (fun c4 => ?_)
        ·
          refine V_iconst 0 d_Reader_isOnceOnly_26 (by decide) ?_
          exact V_zret rfl (by decide) d_Reader_isOnceOnly_27 ⟨0, rfl, ⟨rfl, (by (try rw [show Int32.toInt 0 = 0 from rfl]) <;> omega)⟩⟩
        ·
          exact absurd c4 (by decide)
abbrev q_Reader_isOnceOnlyX_3 (h : Hp)  : Option Value → Hp → Prop := pInt (fun r h' => h = h' ∧ (r.toInt = 0))
set_option maxRecDepth 100000 in
theorem c_Reader_isOnceOnlyX_3 (h : Hp) : Ct y_Reader_isOnceOnly b_Reader_isOnceOnly 1 (some .boolean) 0 0 [.int 3] h (q_Reader_isOnceOnlyX_3 h ) := by
  refine ct_ow R_Reader [some (.int 3)] rfl (by decide) rfl (Nat.le_of_ble_eq_true rfl) ?_
  have f0 : fr [] h h := fr_rf
  refine V_iload_n 0 d_Reader_isOnceOnly_0 rfl rfl ?_
  refine V_if_eq 22 tc_3 d_Reader_isOnceOnly_1 (by decide) (fun c1 => ?_) (fun c1 => ?_)
  ·
    exact absurd c1 (by decide)
  ·
    refine V_iload_n 0 d_Reader_isOnceOnly_4 rfl rfl ?_
    refine V_bipush 6 d_Reader_isOnceOnly_5 (by decide) ?_
    refine V_icmp_eq 22 tc_3 tc_6 d_Reader_isOnceOnly_7 (by decide) (fun c2 => ?_) (fun c2 => ?_)
    ·
      exact absurd c2 (by decide)
    ·
      refine V_iload_n 0 d_Reader_isOnceOnly_10 rfl rfl ?_
      refine V_bipush 7 d_Reader_isOnceOnly_11 (by decide) ?_
      refine V_icmp_eq 22 tc_3 tc_7 d_Reader_isOnceOnly_13 (by decide) (fun c3 => ?_) (fun c3 => ?_)
      ·
        exact absurd c3 (by decide)
      ·
        refine V_iload_n 0 d_Reader_isOnceOnly_16 rfl rfl ?_
        refine V_bipush 8 d_Reader_isOnceOnly_17 (by decide) ?_
        refine V_icmp_ne 26 tc_3 tc_8 d_Reader_isOnceOnly_19 (by decide) (fun c4 => ?_) (fun c4 => ?_)
        ·
          refine V_iconst 0 d_Reader_isOnceOnly_26 (by decide) ?_
          exact V_zret rfl (by decide) d_Reader_isOnceOnly_27 ⟨0, rfl, ⟨rfl, (by (try rw [show Int32.toInt 0 = 0 from rfl]) <;> omega)⟩⟩
        ·
          exact absurd c4 (by decide)
abbrev q_Reader_isOnceOnlyX_4 (h : Hp)  : Option Value → Hp → Prop := pInt (fun r h' => h = h' ∧ (r.toInt = 0))
set_option maxRecDepth 100000 in
theorem c_Reader_isOnceOnlyX_4 (h : Hp) : Ct y_Reader_isOnceOnly b_Reader_isOnceOnly 1 (some .boolean) 0 0 [.int 4] h (q_Reader_isOnceOnlyX_4 h ) := by
  refine ct_ow R_Reader [some (.int 4)] rfl (by decide) rfl (Nat.le_of_ble_eq_true rfl) ?_
  have f0 : fr [] h h := fr_rf
  refine V_iload_n 0 d_Reader_isOnceOnly_0 rfl rfl ?_
  refine V_if_eq 22 tc_4 d_Reader_isOnceOnly_1 (by decide) (fun c1 => ?_) (fun c1 => ?_)
  ·
    exact absurd c1 (by decide)
  ·
    refine V_iload_n 0 d_Reader_isOnceOnly_4 rfl rfl ?_
    refine V_bipush 6 d_Reader_isOnceOnly_5 (by decide) ?_
    refine V_icmp_eq 22 tc_4 tc_6 d_Reader_isOnceOnly_7 (by decide) (fun c2 => ?_) (fun c2 => ?_)
    ·
      exact absurd c2 (by decide)
    ·
      refine V_iload_n 0 d_Reader_isOnceOnly_10 rfl rfl ?_
      refine V_bipush 7 d_Reader_isOnceOnly_11 (by decide) ?_
      refine V_icmp_eq 22 tc_4 tc_7 d_Reader_isOnceOnly_13 (by decide) (fun c3 => ?_) (fun c3 => ?_)
      ·
        exact absurd c3 (by decide)
      ·
        refine V_iload_n 0 d_Reader_isOnceOnly_16 rfl rfl ?_
        refine V_bipush 8 d_Reader_isOnceOnly_17 (by decide) ?_
        refine V_icmp_ne 26 tc_4 tc_8 d_Reader_isOnceOnly_19 (by decide) (fun c4 => ?_) (fun c4 => ?_)
        ·
          refine V_iconst 0 d_Reader_isOnceOnly_26 (by decide) ?_
          exact V_zret rfl (by decide) d_Reader_isOnceOnly_27 ⟨0, rfl, ⟨rfl, (by (try rw [show Int32.toInt 0 = 0 from rfl]) <;> omega)⟩⟩
        ·
          exact absurd c4 (by decide)
abbrev q_Reader_isOnceOnlyX_5 (h : Hp)  : Option Value → Hp → Prop := pInt (fun r h' => h = h' ∧ (r.toInt = 0))
set_option maxRecDepth 100000 in
theorem c_Reader_isOnceOnlyX_5 (h : Hp) : Ct y_Reader_isOnceOnly b_Reader_isOnceOnly 1 (some .boolean) 0 0 [.int 5] h (q_Reader_isOnceOnlyX_5 h ) := by
  refine ct_ow R_Reader [some (.int 5)] rfl (by decide) rfl (Nat.le_of_ble_eq_true rfl) ?_
  have f0 : fr [] h h := fr_rf
  refine V_iload_n 0 d_Reader_isOnceOnly_0 rfl rfl ?_
  refine V_if_eq 22 tc_5 d_Reader_isOnceOnly_1 (by decide) (fun c1 => ?_) (fun c1 => ?_)
  ·
    exact absurd c1 (by decide)
  ·
    refine V_iload_n 0 d_Reader_isOnceOnly_4 rfl rfl ?_
    refine V_bipush 6 d_Reader_isOnceOnly_5 (by decide) ?_
    refine V_icmp_eq 22 tc_5 tc_6 d_Reader_isOnceOnly_7 (by decide) (fun c2 => ?_) (fun c2 => ?_)
    ·
      exact absurd c2 (by decide)
    ·
      refine V_iload_n 0 d_Reader_isOnceOnly_10 rfl rfl ?_
      refine V_bipush 7 d_Reader_isOnceOnly_11 (by decide) ?_
      refine V_icmp_eq 22 tc_5 tc_7 d_Reader_isOnceOnly_13 (by decide) (fun c3 => ?_) (fun c3 => ?_)
      ·
        exact absurd c3 (by decide)
      ·
        refine V_iload_n 0 d_Reader_isOnceOnly_16 rfl rfl ?_
        refine V_bipush 8 d_Reader_isOnceOnly_17 (by decide) ?_
        refine V_icmp_ne 26 tc_5 tc_8 d_Reader_isOnceOnly_19 (by decide) (fun c4 => ?_) (fun c4 => ?_)
        ·
          refine V_iconst 0 d_Reader_isOnceOnly_26 (by decide) ?_
          exact V_zret rfl (by decide) d_Reader_isOnceOnly_27 ⟨0, rfl, ⟨rfl, (by (try rw [show Int32.toInt 0 = 0 from rfl]) <;> omega)⟩⟩
        ·
          exact absurd c4 (by decide)
abbrev q_Reader_isOnceOnlyX_6 (h : Hp)  : Option Value → Hp → Prop := pInt (fun r h' => h = h' ∧ (r.toInt = 1))
set_option maxRecDepth 100000 in
theorem c_Reader_isOnceOnlyX_6 (h : Hp) : Ct y_Reader_isOnceOnly b_Reader_isOnceOnly 1 (some .boolean) 0 0 [.int 6] h (q_Reader_isOnceOnlyX_6 h ) := by
  refine ct_ow R_Reader [some (.int 6)] rfl (by decide) rfl (Nat.le_of_ble_eq_true rfl) ?_
  have f0 : fr [] h h := fr_rf
  refine V_iload_n 0 d_Reader_isOnceOnly_0 rfl rfl ?_
  refine V_if_eq 22 tc_6 d_Reader_isOnceOnly_1 (by decide) (fun c1 => ?_) (fun c1 => ?_)
  ·
    exact absurd c1 (by decide)
  ·
    refine V_iload_n 0 d_Reader_isOnceOnly_4 rfl rfl ?_
    refine V_bipush 6 d_Reader_isOnceOnly_5 (by decide) ?_
    refine V_icmp_eq 22 tc_6 tc_6 d_Reader_isOnceOnly_7 (by decide) (fun c2 => ?_) (fun c2 => ?_)
    ·
      refine V_iconst 1 d_Reader_isOnceOnly_22 (by decide) ?_
      refine V_goto 27 d_Reader_isOnceOnly_23 (by decide) ?_
      exact V_zret rfl (by decide) d_Reader_isOnceOnly_27 ⟨1, rfl, ⟨rfl, (by (try rw [show Int32.toInt 1 = 1 from rfl]) <;> omega)⟩⟩
    ·
      exact absurd c2 (by decide)
abbrev q_Reader_isOnceOnlyX_7 (h : Hp)  : Option Value → Hp → Prop := pInt (fun r h' => h = h' ∧ (r.toInt = 1))
set_option maxRecDepth 100000 in
theorem c_Reader_isOnceOnlyX_7 (h : Hp) : Ct y_Reader_isOnceOnly b_Reader_isOnceOnly 1 (some .boolean) 0 0 [.int 7] h (q_Reader_isOnceOnlyX_7 h ) := by
  refine ct_ow R_Reader [some (.int 7)] rfl (by decide) rfl (Nat.le_of_ble_eq_true rfl) ?_
  have f0 : fr [] h h := fr_rf
  refine V_iload_n 0 d_Reader_isOnceOnly_0 rfl rfl ?_
  refine V_if_eq 22 tc_7 d_Reader_isOnceOnly_1 (by decide) (fun c1 => ?_) (fun c1 => ?_)
  ·
    exact absurd c1 (by decide)
  ·
    refine V_iload_n 0 d_Reader_isOnceOnly_4 rfl rfl ?_
    refine V_bipush 6 d_Reader_isOnceOnly_5 (by decide) ?_
    refine V_icmp_eq 22 tc_7 tc_6 d_Reader_isOnceOnly_7 (by decide) (fun c2 => ?_) (fun c2 => ?_)
    ·
      exact absurd c2 (by decide)
    ·
      refine V_iload_n 0 d_Reader_isOnceOnly_10 rfl rfl ?_
      refine V_bipush 7 d_Reader_isOnceOnly_11 (by decide) ?_
      refine V_icmp_eq 22 tc_7 tc_7 d_Reader_isOnceOnly_13 (by decide) (fun c3 => ?_) (fun c3 => ?_)
      ·
        refine V_iconst 1 d_Reader_isOnceOnly_22 (by decide) ?_
        refine V_goto 27 d_Reader_isOnceOnly_23 (by decide) ?_
        exact V_zret rfl (by decide) d_Reader_isOnceOnly_27 ⟨1, rfl, ⟨rfl, (by (try rw [show Int32.toInt 1 = 1 from rfl]) <;> omega)⟩⟩
      ·
        exact absurd c3 (by decide)
abbrev q_Reader_isOnceOnlyX_8 (h : Hp)  : Option Value → Hp → Prop := pInt (fun r h' => h = h' ∧ (r.toInt = 1))
set_option maxRecDepth 100000 in
theorem c_Reader_isOnceOnlyX_8 (h : Hp) : Ct y_Reader_isOnceOnly b_Reader_isOnceOnly 1 (some .boolean) 0 0 [.int 8] h (q_Reader_isOnceOnlyX_8 h ) := by
  refine ct_ow R_Reader [some (.int 8)] rfl (by decide) rfl (Nat.le_of_ble_eq_true rfl) ?_
  have f0 : fr [] h h := fr_rf
  refine V_iload_n 0 d_Reader_isOnceOnly_0 rfl rfl ?_
  refine V_if_eq 22 tc_8 d_Reader_isOnceOnly_1 (by decide) (fun c1 => ?_) (fun c1 => ?_)
  ·
    exact absurd c1 (by decide)
  ·
    refine V_iload_n 0 d_Reader_isOnceOnly_4 rfl rfl ?_
    refine V_bipush 6 d_Reader_isOnceOnly_5 (by decide) ?_
    refine V_icmp_eq 22 tc_8 tc_6 d_Reader_isOnceOnly_7 (by decide) (fun c2 => ?_) (fun c2 => ?_)
    ·
      exact absurd c2 (by decide)
    ·
      refine V_iload_n 0 d_Reader_isOnceOnly_10 rfl rfl ?_
      refine V_bipush 7 d_Reader_isOnceOnly_11 (by decide) ?_
      refine V_icmp_eq 22 tc_8 tc_7 d_Reader_isOnceOnly_13 (by decide) (fun c3 => ?_) (fun c3 => ?_)
      ·
        exact absurd c3 (by decide)
      ·
        refine V_iload_n 0 d_Reader_isOnceOnly_16 rfl rfl ?_
        refine V_bipush 8 d_Reader_isOnceOnly_17 (by decide) ?_
        refine V_icmp_ne 26 tc_8 tc_8 d_Reader_isOnceOnly_19 (by decide) (fun c4 => ?_) (fun c4 => ?_)
        ·
          exact absurd c4 (by decide)
        ·
          refine V_iconst 1 d_Reader_isOnceOnly_22 (by decide) ?_
          refine V_goto 27 d_Reader_isOnceOnly_23 (by decide) ?_
          exact V_zret rfl (by decide) d_Reader_isOnceOnly_27 ⟨1, rfl, ⟨rfl, (by (try rw [show Int32.toInt 1 = 1 from rfl]) <;> omega)⟩⟩
abbrev q_Reader_isOnceOnlyX_9 (h : Hp)  : Option Value → Hp → Prop := pInt (fun r h' => h = h' ∧ (r.toInt = 0))
set_option maxRecDepth 100000 in
theorem c_Reader_isOnceOnlyX_9 (h : Hp) : Ct y_Reader_isOnceOnly b_Reader_isOnceOnly 1 (some .boolean) 0 0 [.int 9] h (q_Reader_isOnceOnlyX_9 h ) := by
  refine ct_ow R_Reader [some (.int 9)] rfl (by decide) rfl (Nat.le_of_ble_eq_true rfl) ?_
  have f0 : fr [] h h := fr_rf
  refine V_iload_n 0 d_Reader_isOnceOnly_0 rfl rfl ?_
  refine V_if_eq 22 tc_9 d_Reader_isOnceOnly_1 (by decide) (fun c1 => ?_) (fun c1 => ?_)
  ·
    exact absurd c1 (by decide)
  ·
    refine V_iload_n 0 d_Reader_isOnceOnly_4 rfl rfl ?_
    refine V_bipush 6 d_Reader_isOnceOnly_5 (by decide) ?_
    refine V_icmp_eq 22 tc_9 tc_6 d_Reader_isOnceOnly_7 (by decide) (fun c2 => ?_) (fun c2 => ?_)
    ·
      exact absurd c2 (by decide)
    ·
      refine V_iload_n 0 d_Reader_isOnceOnly_10 rfl rfl ?_
      refine V_bipush 7 d_Reader_isOnceOnly_11 (by decide) ?_
      refine V_icmp_eq 22 tc_9 tc_7 d_Reader_isOnceOnly_13 (by decide) (fun c3 => ?_) (fun c3 => ?_)
      ·
        exact absurd c3 (by decide)
      ·
        refine V_iload_n 0 d_Reader_isOnceOnly_16 rfl rfl ?_
        refine V_bipush 8 d_Reader_isOnceOnly_17 (by decide) ?_
        refine V_icmp_ne 26 tc_9 tc_8 d_Reader_isOnceOnly_19 (by decide) (fun c4 => ?_) (fun c4 => ?_)
        ·
          refine V_iconst 0 d_Reader_isOnceOnly_26 (by decide) ?_
          exact V_zret rfl (by decide) d_Reader_isOnceOnly_27 ⟨0, rfl, ⟨rfl, (by (try rw [show Int32.toInt 0 = 0 from rfl]) <;> omega)⟩⟩
        ·
          exact absurd c4 (by decide)
def S_Reader_readNumberX_0_0 : List (Nat × Option Nat) := [(89, some 2), (89, some 3), (89, some 4), (89, some 5), (88, some 5), (88, some 6), (91, some 0)]
abbrev q_Reader_readNumberX_0_0 (h : Hp) (b : Int → Int) (T : Nat → Int → Int) (s : Int32) (sZ : Int) (t : Int32) (tZ : Int) (a : Int32) (aZ : Int) (w : Int32) (wZ : Int) : Option Value → Hp → Prop := pInt (fun r h' => Inv h' ∧ fr S_Reader_readNumberX_0_0 h h' ∧ ∃ (k : Int32) (kZ : Int), k.toInt = kZ ∧ h'.1 89 2 = k ∧ ∃ (f : Int32) (fZ : Int), f.toInt = fZ ∧ h'.1 89 3 = f ∧ ∃ (u : Int32) (uZ : Int), u.toInt = uZ ∧ h'.1 89 4 = u ∧ ∃ (v : Int32) (vZ : Int), v.toInt = vZ ∧ h'.1 89 5 = v ∧ ∃ (e : Int32) (eZ : Int), e.toInt = eZ ∧ h'.1 88 6 = e ∧ ∃ (y : Int32) (yZ : Int), y.toInt = yZ ∧ h'.1 88 5 = y ∧ ∃ (x : Int32) (xZ : Int), x.toInt = xZ ∧ h'.1 91 0 = x ∧ (r.toInt = 1 ∧ x_cN b tZ 2 4 = 0 ∧ uZ = x_en b tZ ∧ xZ = x_vl b tZ ∧ eZ = wZ ∧ yZ = aZ ∧ tZ < uZ ∧ uZ ≤ sZ ∨ r.toInt = 0 ∧ (x_cN b tZ 2 4 ≠ 0 ∧ eZ = x_cN b tZ 2 4) ∧ yZ = x_fr b tZ))
set_option maxRecDepth 100000 in
theorem c_Reader_readNumberX_0_0 (h : Hp) (b : Int → Int) (T : Nat → Int → Int) (hI : Inv h) (s : Int32) (sZ : Int) (sE : s.toInt = sZ) (sK : h.1 89 1 = s) (t : Int32) (tZ : Int) (tE : t.toInt = tZ) (tK : h.1 89 4 = t) (a : Int32) (aZ : Int) (aE : a.toInt = aZ) (aK : h.1 88 5 = a) (w : Int32) (wZ : Int) (wE : w.toInt = wZ) (wK : h.1 88 6 = w) (hy0 : TP h 90 sZ b) (hy1 : 0 ≤ tZ ∧ tZ ≤ sZ) : Ct y_Reader_readNumber b_Reader_readNumber 6 (some .boolean) 3 60 [.ref 88, .int 0, .int 0] h (q_Reader_readNumberX_0_0 h b T s sZ t tZ a aZ w wZ) := by
  refine ct_ow R_Reader [some (.ref 88), some (.int 0), some (.int 0), none, none, none] rfl (by decide) rfl (Nat.le_of_ble_eq_true rfl) ?_
  have f0 : fr S_Reader_readNumberX_0_0 h h := fr_rf
  have g1 : 0 ≤ sZ ∧ sZ ≤ 160 := inv_at hI sE sK.symm rfl
  have g2 : 0 ≤ tZ ∧ tZ ≤ 160 := inv_at hI tE tK.symm rfl
  refine V_aload_n 0 d_Reader_readNumber_0 rfl rfl ?_
  refine V_getR fa_Reader_12 sk_88 rfl d_Reader_readNumber_1 ?_
  refine N_callVV [] [] cv_Reader_48 sk_89 rfl d_Reader_readNumber_4 rfl (Nat.le_of_ble_eq_true rfl) (by decide) (by decide) (c_Tape_advanceX h b hI s sZ sE sK t tZ tE tK (TP_fr f0 (fun _ => rfl) hy0) (by omega)) (fun h4 p5 => ?_)
  obtain ⟨hI6, fh4, o8, o8Z, o8E, o8K, o9, o9Z, o9E, o9K, o10, o10Z, o10E, o10K, o11, o11Z, o11E, o11K, p5⟩ := p5
  have f7 : fr S_Reader_readNumberX_0_0 h h4 := fr_call f0 fh4 rfl
  have g12 : 0 ≤ o9Z ∧ o9Z ≤ 160 := inv_at hI6 o9E o9K.symm rfl
  have g13 : 0 ≤ o10Z ∧ o10Z ≤ 160 := inv_at hI6 o10E o10K.symm rfl
  refine V_aload_n 0 d_Reader_readNumber_7 rfl rfl ?_
  refine V_iconst 2 d_Reader_readNumber_8 (by decide) ?_
  refine N_callVI [.int 2] [] cv_Reader_84 sk_88 rfl d_Reader_readNumber_9 rfl (Nat.le_of_ble_eq_true rfl) (by decide) (by decide) (c_Reader_isKindX h4 hI6 2 2 tc_2 o8 o8Z o8E o8K o9 o9Z o9E o9K a aZ aE (kn_call fh4 aK rfl) w wZ wE (kn_call fh4 wK rfl)) (fun z14 h15 z14Z z14E p16 => ?_)
  obtain ⟨hI17, fh15, o19, o19Z, o19E, o19K, o20, o20Z, o20E, o20K, p16⟩ := p16
  have f18 : fr S_Reader_readNumberX_0_0 h h15 := fr_call f7 fh15 rfl
  refine V_if_ne 17 z14E d_Reader_readNumber_12 (by decide) (fun c21 => ?_) (fun c21 => ?_)
  ·
    replace p16 := kd_y p16 (by omega)
    replace p5 := adv_2 p5 (by omega)
    refine V_aload_n 0 d_Reader_readNumber_17 rfl rfl ?_
    refine V_getR fa_Reader_12 sk_88 rfl d_Reader_readNumber_18 ?_
    refine N_getK fa_Reader_122 sk_89 rfl d_Reader_readNumber_21 (kn_call fh15 o11K rfl) ?_
    refine V_istore_n 3 [some (.ref 88), some (.int 0), some (.int 0), some (.int o11), none, none] d_Reader_readNumber_24 rfl (by decide) rfl rfl ?_
    refine V_iload_n 3 d_Reader_readNumber_25 rfl rfl ?_
    refine V_gets (v := .ref 133) zL ws_Reader_125 d_Reader_readNumber_26 ?_
    refine V_iconst 3 d_Reader_readNumber_29 (by decide) ?_
    refine V_iload_n 1 d_Reader_readNumber_30 rfl rfl ?_
    refine V_imulw d_Reader_readNumber_31 (fun z22 z22e => ?_)
    obtain rfl : z22 = 0 := z22e.trans (by decide)
    refine V_iload_n 2 d_Reader_readNumber_32 rfl rfl ?_
    refine V_iaddw d_Reader_readNumber_33 (fun z23 z23e => ?_)
    obtain rfl : z23 = 0 := z23e.trans (by decide)
    refine V_tald roL tc_0 (by decide) d_Reader_readNumber_34 (fun z24 z24Z z24E z24e => ?_)
    obtain rfl : z24 = 2 := z24e.trans rfl
    refine V_icmp_lt 51 o11E tc_2 d_Reader_readNumber_35 (by decide) (fun c25 => ?_) (fun c25 => ?_)
    ·
      refine V_aload_n 0 d_Reader_readNumber_51 rfl rfl ?_
      refine V_iconst 3 d_Reader_readNumber_52 (by decide) ?_
      refine V_aload_n 0 d_Reader_readNumber_53 rfl rfl ?_
      refine V_getR fa_Reader_12 sk_88 rfl d_Reader_readNumber_54 ?_
      refine N_getK fa_Reader_81 sk_89 rfl d_Reader_readNumber_57 (kn_call fh15 o9K rfl) ?_
      refine N_callVI [.int 3, .int o9] [] cv_Reader_64 sk_88 rfl d_Reader_readNumber_60 rfl (Nat.le_of_ble_eq_true rfl) (by decide) (by decide) (c_Reader_isRefusedX h15 hI17 3 3 tc_3 o9 o9Z o9E) (fun z26 h27 z26Z z26E p28 => ?_)
      obtain ⟨hI29, fh27, o31, o31Z, o31E, o31K, o32, o32Z, o32E, o32K, p28⟩ := p28
      have f30 : fr S_Reader_readNumberX_0_0 h h27 := fr_call f18 fh27 rfl
      obtain ⟨z33, z33Z, z33E, z33e⟩ : ∃ (y : Int32) (Y : Int), y.toInt = Y ∧ y = h27.1 91 0 := ⟨_, _, rfl, rfl⟩
      exact V_zret rfl (by rw [z26E]; omega) d_Reader_readNumber_63 ⟨z26, rfl, ⟨hI29, f30, o8, o8Z, o8E, (kn_call fh27 (kn_call fh15 o8K rfl) rfl), o9, o9Z, o9E, (kn_call fh27 (kn_call fh15 o9K rfl) rfl), o10, o10Z, o10E, (kn_call fh27 (kn_call fh15 o10K rfl) rfl), o11, o11Z, o11E, (kn_call fh27 (kn_call fh15 o11K rfl) rfl), o31, o31Z, o31E, o31K, o32, o32Z, o32E, o32K, z33, z33Z, z33E, z33e.symm, (by have s1 := num_3 (lo := 2) (hi := 4) p5.2.2.1 p5.2.2.2.2.1 (by omega); exact Or.inr ⟨by omega, ⟨by omega, by omega⟩, by omega⟩)⟩⟩
    ·
      refine V_iload_n 3 d_Reader_readNumber_38 rfl rfl ?_
      refine V_gets (v := .ref 134) zM ws_Reader_128 d_Reader_readNumber_39 ?_
      refine V_iconst 3 d_Reader_readNumber_42 (by decide) ?_
      refine V_iload_n 1 d_Reader_readNumber_43 rfl rfl ?_
      refine V_imulw d_Reader_readNumber_44 (fun z34 z34e => ?_)
      obtain rfl : z34 = 0 := z34e.trans (by decide)
      refine V_iload_n 2 d_Reader_readNumber_45 rfl rfl ?_
      refine V_iaddw d_Reader_readNumber_46 (fun z35 z35e => ?_)
      obtain rfl : z35 = 0 := z35e.trans (by decide)
      refine V_tald roM tc_0 (by decide) d_Reader_readNumber_47 (fun z36 z36Z z36E z36e => ?_)
      obtain rfl : z36 = 4 := z36e.trans rfl
      refine V_icmp_le 64 o11E tc_4 d_Reader_readNumber_48 (by decide) (fun c37 => ?_) (fun c37 => ?_)
      ·
        refine V_aload_n 0 d_Reader_readNumber_64 rfl rfl ?_
        refine V_getR fa_Reader_25 sk_88 rfl d_Reader_readNumber_65 ?_
        refine V_iload_n 2 d_Reader_readNumber_68 rfl rfl ?_
        refine V_iload_n 3 d_Reader_readNumber_69 rfl rfl ?_
        refine N_iast sk_91 tc_0 (by omega) d_Reader_readNumber_70 (fun h38 eh38 => ?_)
        have hI39 : Inv h38 := inv_full hI17 eh38 rfl
        have f40 : fr S_Reader_readNumberX_0_0 h h38 := fr_put f18 eh38 rfl
        refine V_iload_n 2 d_Reader_readNumber_71 rfl rfl ?_
        refine V_if_ne 99 tc_0 d_Reader_readNumber_72 (by decide) (fun c41 => ?_) (fun c41 => ?_)
        ·
          exact absurd c41 (by decide)
        ·
          refine V_iload_n 1 d_Reader_readNumber_75 rfl rfl ?_
          refine N_callSI [.int 0] [] cs_Reader_131 d_Reader_readNumber_76 rfl (Nat.le_of_ble_eq_true rfl) (by decide) (by decide) (c_Reader_isOfOneX_0 h38) (fun z42 h43 z42Z z42E p44 => ?_)
          obtain ⟨eh43, p44⟩ := p44
          subst eh43
          refine V_if_eq 99 z42E d_Reader_readNumber_79 (by decide) (fun c45 => ?_) (fun c45 => ?_)
          ·
            refine V_iconst 0 d_Reader_readNumber_99 (by decide) ?_
            refine V_istore 4 [some (.ref 88), some (.int 0), some (.int 0), some (.int o11), some (.int 0), none] d_Reader_readNumber_100 (by decide) rfl rfl ?_
            refine V_iload_n 2 d_Reader_readNumber_102 rfl rfl ?_
            refine V_iconst 1 d_Reader_readNumber_103 (by decide) ?_
            refine V_icmp_ne 127 tc_0 tc_1 d_Reader_readNumber_104 (by decide) (fun c46 => ?_) (fun c46 => ?_)
            ·
              refine V_iconst 0 d_Reader_readNumber_127 (by decide) ?_
              refine V_istore 5 [some (.ref 88), some (.int 0), some (.int 0), some (.int o11), some (.int 0), some (.int 0)] d_Reader_readNumber_128 (by decide) rfl rfl ?_
              refine V_iload d_Reader_readNumber_130 rfl ?_
              refine V_if_ne 140 tc_0 d_Reader_readNumber_132 (by decide) (fun c47 => ?_) (fun c47 => ?_)
              ·
                exact absurd c47 (by decide)
              ·
                refine V_iload d_Reader_readNumber_135 rfl ?_
                refine V_if_eq 155 tc_0 d_Reader_readNumber_137 (by decide) (fun c48 => ?_) (fun c48 => ?_)
                ·
                  refine V_iconst 1 d_Reader_readNumber_155 (by decide) ?_
                  refine V_goto 160 d_Reader_readNumber_156 (by decide) ?_
                  exact V_zret rfl (by decide) d_Reader_readNumber_160 ⟨1, rfl, ⟨hI39, f40, o8, o8Z, o8E, (kn_ne eh38 (kn_call fh15 o8K rfl) (by decide)), o9, o9Z, o9E, (kn_ne eh38 (kn_call fh15 o9K rfl) (by decide)), o10, o10Z, o10E, (kn_ne eh38 (kn_call fh15 o10K rfl) (by decide)), o11, o11Z, o11E, (kn_ne eh38 (kn_call fh15 o11K rfl) (by decide)), o19, o19Z, o19E, (kn_ne eh38 o19K (by decide)), o20, o20Z, o20E, (kn_ne eh38 o20K (by decide)), o11, o11Z, o11E, (kn_put eh38), (by have s1 := num_0 (lo := 2) (hi := 4) p5.2.2.1 p5.2.2.2.2.1 ⟨by omega, by omega⟩; exact Or.inl ⟨rfl, by omega, by omega, by omega, by omega, by omega, by omega, by omega⟩)⟩⟩
                ·
                  exact absurd c48 (by decide)
            ·
              exact absurd c46 (by decide)
          ·
            refine V_aload_n 0 d_Reader_readNumber_82 rfl rfl ?_
            refine V_getR fa_Reader_29 sk_88 rfl d_Reader_readNumber_83 ?_
            refine V_iload_n 1 d_Reader_readNumber_86 rfl rfl ?_
            refine N_iald sk_92 tc_0 (by omega) d_Reader_readNumber_87 (fun z49 z49Z z49E z49e => ?_)
            refine V_iload_n 3 d_Reader_readNumber_88 rfl rfl ?_
            refine N_ishr d_Reader_readNumber_89 (fun z50 z50Z z50E z50e => ?_)
            refine V_iconst 1 d_Reader_readNumber_90 (by decide) ?_
            refine N_iand d_Reader_readNumber_91 (fun z51 z51Z z51E z51e => ?_)
            refine V_if_eq 99 z51E d_Reader_readNumber_92 (by decide) (fun c52 => ?_) (fun c52 => ?_)
            ·
              refine V_iconst 0 d_Reader_readNumber_99 (by decide) ?_
              refine V_istore 4 [some (.ref 88), some (.int 0), some (.int 0), some (.int o11), some (.int 0), none] d_Reader_readNumber_100 (by decide) rfl rfl ?_
              refine V_iload_n 2 d_Reader_readNumber_102 rfl rfl ?_
              refine V_iconst 1 d_Reader_readNumber_103 (by decide) ?_
              refine V_icmp_ne 127 tc_0 tc_1 d_Reader_readNumber_104 (by decide) (fun c53 => ?_) (fun c53 => ?_)
              ·
                refine V_iconst 0 d_Reader_readNumber_127 (by decide) ?_
                refine V_istore 5 [some (.ref 88), some (.int 0), some (.int 0), some (.int o11), some (.int 0), some (.int 0)] d_Reader_readNumber_128 (by decide) rfl rfl ?_
                refine V_iload d_Reader_readNumber_130 rfl ?_
                refine V_if_ne 140 tc_0 d_Reader_readNumber_132 (by decide) (fun c54 => ?_) (fun c54 => ?_)
                ·
                  exact absurd c54 (by decide)
                ·
                  refine V_iload d_Reader_readNumber_135 rfl ?_
                  refine V_if_eq 155 tc_0 d_Reader_readNumber_137 (by decide) (fun c55 => ?_) (fun c55 => ?_)
                  ·
                    refine V_iconst 1 d_Reader_readNumber_155 (by decide) ?_
                    refine V_goto 160 d_Reader_readNumber_156 (by decide) ?_
                    exact V_zret rfl (by decide) d_Reader_readNumber_160 ⟨1, rfl, ⟨hI39, f40, o8, o8Z, o8E, (kn_ne eh38 (kn_call fh15 o8K rfl) (by decide)), o9, o9Z, o9E, (kn_ne eh38 (kn_call fh15 o9K rfl) (by decide)), o10, o10Z, o10E, (kn_ne eh38 (kn_call fh15 o10K rfl) (by decide)), o11, o11Z, o11E, (kn_ne eh38 (kn_call fh15 o11K rfl) (by decide)), o19, o19Z, o19E, (kn_ne eh38 o19K (by decide)), o20, o20Z, o20E, (kn_ne eh38 o20K (by decide)), o11, o11Z, o11E, (kn_put eh38), (by have s1 := num_0 (lo := 2) (hi := 4) p5.2.2.1 p5.2.2.2.2.1 ⟨by omega, by omega⟩; exact Or.inl ⟨rfl, by omega, by omega, by omega, by omega, by omega, by omega, by omega⟩)⟩⟩
                  ·
                    exact absurd c55 (by decide)
              ·
                exact absurd c53 (by decide)
            ·
              refine V_iconst 1 d_Reader_readNumber_95 (by decide) ?_
              refine V_goto 100 d_Reader_readNumber_96 (by decide) ?_
              refine V_istore 4 [some (.ref 88), some (.int 0), some (.int 0), some (.int o11), some (.int 1), none] d_Reader_readNumber_100 (by decide) rfl rfl ?_
              refine V_iload_n 2 d_Reader_readNumber_102 rfl rfl ?_
              refine V_iconst 1 d_Reader_readNumber_103 (by decide) ?_
              refine V_icmp_ne 127 tc_0 tc_1 d_Reader_readNumber_104 (by decide) (fun c56 => ?_) (fun c56 => ?_)
              ·
                refine V_iconst 0 d_Reader_readNumber_127 (by decide) ?_
                refine V_istore 5 [some (.ref 88), some (.int 0), some (.int 0), some (.int o11), some (.int 1), some (.int 0)] d_Reader_readNumber_128 (by decide) rfl rfl ?_
                refine V_iload d_Reader_readNumber_130 rfl ?_
                refine V_if_ne 140 tc_1 d_Reader_readNumber_132 (by decide) (fun c57 => ?_) (fun c57 => ?_)
                ·
                  refine V_aload_n 0 d_Reader_readNumber_140 rfl rfl ?_
                  refine V_iconst 4 d_Reader_readNumber_141 (by decide) ?_
                  refine V_aload_n 0 d_Reader_readNumber_142 rfl rfl ?_
                  refine V_getR fa_Reader_12 sk_88 rfl d_Reader_readNumber_143 ?_
                  refine N_getK fa_Reader_81 sk_89 rfl d_Reader_readNumber_146 (kn_ne eh38 (kn_call fh15 o9K rfl) (by decide)) ?_
                  refine N_callVI [.int 4, .int o9] [] cv_Reader_64 sk_88 rfl d_Reader_readNumber_149 rfl (Nat.le_of_ble_eq_true rfl) (by decide) (by decide) (c_Reader_isRefusedX h38 hI39 4 4 tc_4 o9 o9Z o9E) (fun z58 h59 z58Z z58E p60 => ?_)
                  obtain ⟨hI61, fh59, o63, o63Z, o63E, o63K, o64, o64Z, o64E, o64K, p60⟩ := p60
                  have f62 : fr S_Reader_readNumberX_0_0 h h59 := fr_call f40 fh59 rfl
                  refine V_if_eq 159 z58E d_Reader_readNumber_152 (by decide) (fun c65 => ?_) (fun c65 => ?_)
                  ·
                    refine V_iconst 0 d_Reader_readNumber_159 (by decide) ?_
                    exact V_zret rfl (by decide) d_Reader_readNumber_160 ⟨0, rfl, ⟨hI61, f62, o8, o8Z, o8E, (kn_call fh59 (kn_ne eh38 (kn_call fh15 o8K rfl) (by decide)) rfl), o9, o9Z, o9E, (kn_call fh59 (kn_ne eh38 (kn_call fh15 o9K rfl) (by decide)) rfl), o10, o10Z, o10E, (kn_call fh59 (kn_ne eh38 (kn_call fh15 o10K rfl) (by decide)) rfl), o11, o11Z, o11E, (kn_call fh59 (kn_ne eh38 (kn_call fh15 o11K rfl) (by decide)) rfl), o63, o63Z, o63E, o63K, o64, o64Z, o64E, o64K, o11, o11Z, o11E, (kn_call fh59 (kn_put eh38) rfl), (by have s1 := num_0 (lo := 2) (hi := 4) p5.2.2.1 p5.2.2.2.2.1 ⟨by omega, by omega⟩; exact Or.inr ⟨tc_0, ⟨by omega, by omega⟩, by omega⟩)⟩⟩
                  ·
                    refine V_iconst 1 d_Reader_readNumber_155 (by decide) ?_
                    refine V_goto 160 d_Reader_readNumber_156 (by decide) ?_
                    exact V_zret rfl (by decide) d_Reader_readNumber_160 ⟨1, rfl, ⟨hI61, f62, o8, o8Z, o8E, (kn_call fh59 (kn_ne eh38 (kn_call fh15 o8K rfl) (by decide)) rfl), o9, o9Z, o9E, (kn_call fh59 (kn_ne eh38 (kn_call fh15 o9K rfl) (by decide)) rfl), o10, o10Z, o10E, (kn_call fh59 (kn_ne eh38 (kn_call fh15 o10K rfl) (by decide)) rfl), o11, o11Z, o11E, (kn_call fh59 (kn_ne eh38 (kn_call fh15 o11K rfl) (by decide)) rfl), o63, o63Z, o63E, o63K, o64, o64Z, o64E, o64K, o11, o11Z, o11E, (kn_call fh59 (kn_put eh38) rfl), (by have s1 := num_0 (lo := 2) (hi := 4) p5.2.2.1 p5.2.2.2.2.1 ⟨by omega, by omega⟩; exact Or.inl ⟨rfl, by omega, by omega, by omega, by omega, by omega, by omega, by omega⟩)⟩⟩
                ·
                  exact absurd c57 (by decide)
              ·
                exact absurd c56 (by decide)
      ·
        refine V_aload_n 0 d_Reader_readNumber_51 rfl rfl ?_
        refine V_iconst 3 d_Reader_readNumber_52 (by decide) ?_
        refine V_aload_n 0 d_Reader_readNumber_53 rfl rfl ?_
        refine V_getR fa_Reader_12 sk_88 rfl d_Reader_readNumber_54 ?_
        refine N_getK fa_Reader_81 sk_89 rfl d_Reader_readNumber_57 (kn_call fh15 o9K rfl) ?_
        refine N_callVI [.int 3, .int o9] [] cv_Reader_64 sk_88 rfl d_Reader_readNumber_60 rfl (Nat.le_of_ble_eq_true rfl) (by decide) (by decide) (c_Reader_isRefusedX h15 hI17 3 3 tc_3 o9 o9Z o9E) (fun z66 h67 z66Z z66E p68 => ?_)
        obtain ⟨hI69, fh67, o71, o71Z, o71E, o71K, o72, o72Z, o72E, o72K, p68⟩ := p68
        have f70 : fr S_Reader_readNumberX_0_0 h h67 := fr_call f18 fh67 rfl
        obtain ⟨z73, z73Z, z73E, z73e⟩ : ∃ (y : Int32) (Y : Int), y.toInt = Y ∧ y = h67.1 91 0 := ⟨_, _, rfl, rfl⟩
        exact V_zret rfl (by rw [z66E]; omega) d_Reader_readNumber_63 ⟨z66, rfl, ⟨hI69, f70, o8, o8Z, o8E, (kn_call fh67 (kn_call fh15 o8K rfl) rfl), o9, o9Z, o9E, (kn_call fh67 (kn_call fh15 o9K rfl) rfl), o10, o10Z, o10E, (kn_call fh67 (kn_call fh15 o10K rfl) rfl), o11, o11Z, o11E, (kn_call fh67 (kn_call fh15 o11K rfl) rfl), o71, o71Z, o71E, o71K, o72, o72Z, o72E, o72K, z73, z73Z, z73E, z73e.symm, (by have s1 := num_3 (lo := 2) (hi := 4) p5.2.2.1 p5.2.2.2.2.1 (by omega); exact Or.inr ⟨by omega, ⟨by omega, by omega⟩, by omega⟩)⟩⟩
  ·
    have hk9 := num_k 2 4 p5 p16 (by omega)
    refine V_iconst 0 d_Reader_readNumber_15 (by decide) ?_
    obtain ⟨z74, z74Z, z74E, z74e⟩ : ∃ (y : Int32) (Y : Int), y.toInt = Y ∧ y = h15.1 91 0 := ⟨_, _, rfl, rfl⟩
    exact V_zret rfl (by decide) d_Reader_readNumber_16 ⟨0, rfl, ⟨hI17, f18, o8, o8Z, o8E, (kn_call fh15 o8K rfl), o9, o9Z, o9E, (kn_call fh15 o9K rfl), o10, o10Z, o10E, (kn_call fh15 o10K rfl), o11, o11Z, o11E, (kn_call fh15 o11K rfl), o19, o19Z, o19E, o19K, o20, o20Z, o20E, o20K, z74, z74Z, z74E, z74e.symm, (Or.inr ⟨tc_0, ⟨hk9.1, hk9.2.1⟩, hk9.2.2⟩)⟩⟩
def S_Reader_readNumberX_0_1 : List (Nat × Option Nat) := [(89, some 2), (89, some 3), (89, some 4), (89, some 5), (88, some 5), (88, some 6), (91, some 1)]
abbrev q_Reader_readNumberX_0_1 (h : Hp) (b : Int → Int) (T : Nat → Int → Int) (s : Int32) (sZ : Int) (t : Int32) (tZ : Int) (a : Int32) (aZ : Int) (w : Int32) (wZ : Int) : Option Value → Hp → Prop := pInt (fun r h' => Inv h' ∧ fr S_Reader_readNumberX_0_1 h h' ∧ ∃ (k : Int32) (kZ : Int), k.toInt = kZ ∧ h'.1 89 2 = k ∧ ∃ (f : Int32) (fZ : Int), f.toInt = fZ ∧ h'.1 89 3 = f ∧ ∃ (u : Int32) (uZ : Int), u.toInt = uZ ∧ h'.1 89 4 = u ∧ ∃ (v : Int32) (vZ : Int), v.toInt = vZ ∧ h'.1 89 5 = v ∧ ∃ (e : Int32) (eZ : Int), e.toInt = eZ ∧ h'.1 88 6 = e ∧ ∃ (y : Int32) (yZ : Int), y.toInt = yZ ∧ h'.1 88 5 = y ∧ ∃ (x : Int32) (xZ : Int), x.toInt = xZ ∧ h'.1 91 1 = x ∧ (r.toInt = 1 ∧ x_cN b tZ 2 4 = 0 ∧ uZ = x_en b tZ ∧ xZ = x_vl b tZ ∧ eZ = wZ ∧ yZ = aZ ∧ tZ < uZ ∧ uZ ≤ sZ ∨ r.toInt = 0 ∧ (x_cN b tZ 2 4 ≠ 0 ∧ eZ = x_cN b tZ 2 4) ∧ yZ = x_fr b tZ))
set_option maxRecDepth 100000 in
theorem c_Reader_readNumberX_0_1 (h : Hp) (b : Int → Int) (T : Nat → Int → Int) (hI : Inv h) (s : Int32) (sZ : Int) (sE : s.toInt = sZ) (sK : h.1 89 1 = s) (t : Int32) (tZ : Int) (tE : t.toInt = tZ) (tK : h.1 89 4 = t) (a : Int32) (aZ : Int) (aE : a.toInt = aZ) (aK : h.1 88 5 = a) (w : Int32) (wZ : Int) (wE : w.toInt = wZ) (wK : h.1 88 6 = w) (hy0 : TP h 90 sZ b) (hy1 : 0 ≤ tZ ∧ tZ ≤ sZ) : Ct y_Reader_readNumber b_Reader_readNumber 6 (some .boolean) 3 60 [.ref 88, .int 0, .int 1] h (q_Reader_readNumberX_0_1 h b T s sZ t tZ a aZ w wZ) := by
  refine ct_ow R_Reader [some (.ref 88), some (.int 0), some (.int 1), none, none, none] rfl (by decide) rfl (Nat.le_of_ble_eq_true rfl) ?_
  have f0 : fr S_Reader_readNumberX_0_1 h h := fr_rf
  have g1 : 0 ≤ sZ ∧ sZ ≤ 160 := inv_at hI sE sK.symm rfl
  have g2 : 0 ≤ tZ ∧ tZ ≤ 160 := inv_at hI tE tK.symm rfl
  refine V_aload_n 0 d_Reader_readNumber_0 rfl rfl ?_
  refine V_getR fa_Reader_12 sk_88 rfl d_Reader_readNumber_1 ?_
  refine N_callVV [] [] cv_Reader_48 sk_89 rfl d_Reader_readNumber_4 rfl (Nat.le_of_ble_eq_true rfl) (by decide) (by decide) (c_Tape_advanceX h b hI s sZ sE sK t tZ tE tK (TP_fr f0 (fun _ => rfl) hy0) (by omega)) (fun h4 p5 => ?_)
  obtain ⟨hI6, fh4, o8, o8Z, o8E, o8K, o9, o9Z, o9E, o9K, o10, o10Z, o10E, o10K, o11, o11Z, o11E, o11K, p5⟩ := p5
  have f7 : fr S_Reader_readNumberX_0_1 h h4 := fr_call f0 fh4 rfl
  have g12 : 0 ≤ o9Z ∧ o9Z ≤ 160 := inv_at hI6 o9E o9K.symm rfl
  have g13 : 0 ≤ o10Z ∧ o10Z ≤ 160 := inv_at hI6 o10E o10K.symm rfl
  refine V_aload_n 0 d_Reader_readNumber_7 rfl rfl ?_
  refine V_iconst 2 d_Reader_readNumber_8 (by decide) ?_
  refine N_callVI [.int 2] [] cv_Reader_84 sk_88 rfl d_Reader_readNumber_9 rfl (Nat.le_of_ble_eq_true rfl) (by decide) (by decide) (c_Reader_isKindX h4 hI6 2 2 tc_2 o8 o8Z o8E o8K o9 o9Z o9E o9K a aZ aE (kn_call fh4 aK rfl) w wZ wE (kn_call fh4 wK rfl)) (fun z14 h15 z14Z z14E p16 => ?_)
  obtain ⟨hI17, fh15, o19, o19Z, o19E, o19K, o20, o20Z, o20E, o20K, p16⟩ := p16
  have f18 : fr S_Reader_readNumberX_0_1 h h15 := fr_call f7 fh15 rfl
  refine V_if_ne 17 z14E d_Reader_readNumber_12 (by decide) (fun c21 => ?_) (fun c21 => ?_)
  ·
    replace p16 := kd_y p16 (by omega)
    replace p5 := adv_2 p5 (by omega)
    refine V_aload_n 0 d_Reader_readNumber_17 rfl rfl ?_
    refine V_getR fa_Reader_12 sk_88 rfl d_Reader_readNumber_18 ?_
    refine N_getK fa_Reader_122 sk_89 rfl d_Reader_readNumber_21 (kn_call fh15 o11K rfl) ?_
    refine V_istore_n 3 [some (.ref 88), some (.int 0), some (.int 1), some (.int o11), none, none] d_Reader_readNumber_24 rfl (by decide) rfl rfl ?_
    refine V_iload_n 3 d_Reader_readNumber_25 rfl rfl ?_
    refine V_gets (v := .ref 133) zL ws_Reader_125 d_Reader_readNumber_26 ?_
    refine V_iconst 3 d_Reader_readNumber_29 (by decide) ?_
    refine V_iload_n 1 d_Reader_readNumber_30 rfl rfl ?_
    refine V_imulw d_Reader_readNumber_31 (fun z22 z22e => ?_)
    obtain rfl : z22 = 0 := z22e.trans (by decide)
    refine V_iload_n 2 d_Reader_readNumber_32 rfl rfl ?_
    refine V_iaddw d_Reader_readNumber_33 (fun z23 z23e => ?_)
    obtain rfl : z23 = 1 := z23e.trans (by decide)
    refine V_tald roL tc_1 (by decide) d_Reader_readNumber_34 (fun z24 z24Z z24E z24e => ?_)
    obtain rfl : z24 = 2 := z24e.trans rfl
    refine V_icmp_lt 51 o11E tc_2 d_Reader_readNumber_35 (by decide) (fun c25 => ?_) (fun c25 => ?_)
    ·
      refine V_aload_n 0 d_Reader_readNumber_51 rfl rfl ?_
      refine V_iconst 3 d_Reader_readNumber_52 (by decide) ?_
      refine V_aload_n 0 d_Reader_readNumber_53 rfl rfl ?_
      refine V_getR fa_Reader_12 sk_88 rfl d_Reader_readNumber_54 ?_
      refine N_getK fa_Reader_81 sk_89 rfl d_Reader_readNumber_57 (kn_call fh15 o9K rfl) ?_
      refine N_callVI [.int 3, .int o9] [] cv_Reader_64 sk_88 rfl d_Reader_readNumber_60 rfl (Nat.le_of_ble_eq_true rfl) (by decide) (by decide) (c_Reader_isRefusedX h15 hI17 3 3 tc_3 o9 o9Z o9E) (fun z26 h27 z26Z z26E p28 => ?_)
      obtain ⟨hI29, fh27, o31, o31Z, o31E, o31K, o32, o32Z, o32E, o32K, p28⟩ := p28
      have f30 : fr S_Reader_readNumberX_0_1 h h27 := fr_call f18 fh27 rfl
      obtain ⟨z33, z33Z, z33E, z33e⟩ : ∃ (y : Int32) (Y : Int), y.toInt = Y ∧ y = h27.1 91 1 := ⟨_, _, rfl, rfl⟩
      exact V_zret rfl (by rw [z26E]; omega) d_Reader_readNumber_63 ⟨z26, rfl, ⟨hI29, f30, o8, o8Z, o8E, (kn_call fh27 (kn_call fh15 o8K rfl) rfl), o9, o9Z, o9E, (kn_call fh27 (kn_call fh15 o9K rfl) rfl), o10, o10Z, o10E, (kn_call fh27 (kn_call fh15 o10K rfl) rfl), o11, o11Z, o11E, (kn_call fh27 (kn_call fh15 o11K rfl) rfl), o31, o31Z, o31E, o31K, o32, o32Z, o32E, o32K, z33, z33Z, z33E, z33e.symm, (by have s1 := num_3 (lo := 2) (hi := 4) p5.2.2.1 p5.2.2.2.2.1 (by omega); exact Or.inr ⟨by omega, ⟨by omega, by omega⟩, by omega⟩)⟩⟩
    ·
      refine V_iload_n 3 d_Reader_readNumber_38 rfl rfl ?_
      refine V_gets (v := .ref 134) zM ws_Reader_128 d_Reader_readNumber_39 ?_
      refine V_iconst 3 d_Reader_readNumber_42 (by decide) ?_
      refine V_iload_n 1 d_Reader_readNumber_43 rfl rfl ?_
      refine V_imulw d_Reader_readNumber_44 (fun z34 z34e => ?_)
      obtain rfl : z34 = 0 := z34e.trans (by decide)
      refine V_iload_n 2 d_Reader_readNumber_45 rfl rfl ?_
      refine V_iaddw d_Reader_readNumber_46 (fun z35 z35e => ?_)
      obtain rfl : z35 = 1 := z35e.trans (by decide)
      refine V_tald roM tc_1 (by decide) d_Reader_readNumber_47 (fun z36 z36Z z36E z36e => ?_)
      obtain rfl : z36 = 4 := z36e.trans rfl
      refine V_icmp_le 64 o11E tc_4 d_Reader_readNumber_48 (by decide) (fun c37 => ?_) (fun c37 => ?_)
      ·
        refine V_aload_n 0 d_Reader_readNumber_64 rfl rfl ?_
        refine V_getR fa_Reader_25 sk_88 rfl d_Reader_readNumber_65 ?_
        refine V_iload_n 2 d_Reader_readNumber_68 rfl rfl ?_
        refine V_iload_n 3 d_Reader_readNumber_69 rfl rfl ?_
        refine N_iast sk_91 tc_1 (by omega) d_Reader_readNumber_70 (fun h38 eh38 => ?_)
        have hI39 : Inv h38 := inv_full hI17 eh38 rfl
        have f40 : fr S_Reader_readNumberX_0_1 h h38 := fr_put f18 eh38 rfl
        refine V_iload_n 2 d_Reader_readNumber_71 rfl rfl ?_
        refine V_if_ne 99 tc_1 d_Reader_readNumber_72 (by decide) (fun c41 => ?_) (fun c41 => ?_)
        ·
          refine V_iconst 0 d_Reader_readNumber_99 (by decide) ?_
          refine V_istore 4 [some (.ref 88), some (.int 0), some (.int 1), some (.int o11), some (.int 0), none] d_Reader_readNumber_100 (by decide) rfl rfl ?_
          refine V_iload_n 2 d_Reader_readNumber_102 rfl rfl ?_
          refine V_iconst 1 d_Reader_readNumber_103 (by decide) ?_
          refine V_icmp_ne 127 tc_1 tc_1 d_Reader_readNumber_104 (by decide) (fun c42 => ?_) (fun c42 => ?_)
          ·
            exact absurd c42 (by decide)
          ·
            refine V_iload_n 1 d_Reader_readNumber_107 rfl rfl ?_
            refine V_bipush 9 d_Reader_readNumber_108 (by decide) ?_
            refine V_icmp_ne 127 tc_0 tc_9 d_Reader_readNumber_110 (by decide) (fun c43 => ?_) (fun c43 => ?_)
            ·
              refine V_iconst 0 d_Reader_readNumber_127 (by decide) ?_
              refine V_istore 5 [some (.ref 88), some (.int 0), some (.int 1), some (.int o11), some (.int 0), some (.int 0)] d_Reader_readNumber_128 (by decide) rfl rfl ?_
              refine V_iload d_Reader_readNumber_130 rfl ?_
              refine V_if_ne 140 tc_0 d_Reader_readNumber_132 (by decide) (fun c44 => ?_) (fun c44 => ?_)
              ·
                exact absurd c44 (by decide)
              ·
                refine V_iload d_Reader_readNumber_135 rfl ?_
                refine V_if_eq 155 tc_0 d_Reader_readNumber_137 (by decide) (fun c45 => ?_) (fun c45 => ?_)
                ·
                  refine V_iconst 1 d_Reader_readNumber_155 (by decide) ?_
                  refine V_goto 160 d_Reader_readNumber_156 (by decide) ?_
                  exact V_zret rfl (by decide) d_Reader_readNumber_160 ⟨1, rfl, ⟨hI39, f40, o8, o8Z, o8E, (kn_ne eh38 (kn_call fh15 o8K rfl) (by decide)), o9, o9Z, o9E, (kn_ne eh38 (kn_call fh15 o9K rfl) (by decide)), o10, o10Z, o10E, (kn_ne eh38 (kn_call fh15 o10K rfl) (by decide)), o11, o11Z, o11E, (kn_ne eh38 (kn_call fh15 o11K rfl) (by decide)), o19, o19Z, o19E, (kn_ne eh38 o19K (by decide)), o20, o20Z, o20E, (kn_ne eh38 o20K (by decide)), o11, o11Z, o11E, (kn_put eh38), (by have s1 := num_0 (lo := 2) (hi := 4) p5.2.2.1 p5.2.2.2.2.1 ⟨by omega, by omega⟩; exact Or.inl ⟨rfl, by omega, by omega, by omega, by omega, by omega, by omega, by omega⟩)⟩⟩
                ·
                  exact absurd c45 (by decide)
            ·
              exact absurd c43 (by decide)
        ·
          exact absurd c41 (by decide)
      ·
        refine V_aload_n 0 d_Reader_readNumber_51 rfl rfl ?_
        refine V_iconst 3 d_Reader_readNumber_52 (by decide) ?_
        refine V_aload_n 0 d_Reader_readNumber_53 rfl rfl ?_
        refine V_getR fa_Reader_12 sk_88 rfl d_Reader_readNumber_54 ?_
        refine N_getK fa_Reader_81 sk_89 rfl d_Reader_readNumber_57 (kn_call fh15 o9K rfl) ?_
        refine N_callVI [.int 3, .int o9] [] cv_Reader_64 sk_88 rfl d_Reader_readNumber_60 rfl (Nat.le_of_ble_eq_true rfl) (by decide) (by decide) (c_Reader_isRefusedX h15 hI17 3 3 tc_3 o9 o9Z o9E) (fun z46 h47 z46Z z46E p48 => ?_)
        obtain ⟨hI49, fh47, o51, o51Z, o51E, o51K, o52, o52Z, o52E, o52K, p48⟩ := p48
        have f50 : fr S_Reader_readNumberX_0_1 h h47 := fr_call f18 fh47 rfl
        obtain ⟨z53, z53Z, z53E, z53e⟩ : ∃ (y : Int32) (Y : Int), y.toInt = Y ∧ y = h47.1 91 1 := ⟨_, _, rfl, rfl⟩
        exact V_zret rfl (by rw [z46E]; omega) d_Reader_readNumber_63 ⟨z46, rfl, ⟨hI49, f50, o8, o8Z, o8E, (kn_call fh47 (kn_call fh15 o8K rfl) rfl), o9, o9Z, o9E, (kn_call fh47 (kn_call fh15 o9K rfl) rfl), o10, o10Z, o10E, (kn_call fh47 (kn_call fh15 o10K rfl) rfl), o11, o11Z, o11E, (kn_call fh47 (kn_call fh15 o11K rfl) rfl), o51, o51Z, o51E, o51K, o52, o52Z, o52E, o52K, z53, z53Z, z53E, z53e.symm, (by have s1 := num_3 (lo := 2) (hi := 4) p5.2.2.1 p5.2.2.2.2.1 (by omega); exact Or.inr ⟨by omega, ⟨by omega, by omega⟩, by omega⟩)⟩⟩
  ·
    have hk9 := num_k 2 4 p5 p16 (by omega)
    refine V_iconst 0 d_Reader_readNumber_15 (by decide) ?_
    obtain ⟨z54, z54Z, z54E, z54e⟩ : ∃ (y : Int32) (Y : Int), y.toInt = Y ∧ y = h15.1 91 1 := ⟨_, _, rfl, rfl⟩
    exact V_zret rfl (by decide) d_Reader_readNumber_16 ⟨0, rfl, ⟨hI17, f18, o8, o8Z, o8E, (kn_call fh15 o8K rfl), o9, o9Z, o9E, (kn_call fh15 o9K rfl), o10, o10Z, o10E, (kn_call fh15 o10K rfl), o11, o11Z, o11E, (kn_call fh15 o11K rfl), o19, o19Z, o19E, o19K, o20, o20Z, o20E, o20K, z54, z54Z, z54E, z54e.symm, (Or.inr ⟨tc_0, ⟨hk9.1, hk9.2.1⟩, hk9.2.2⟩)⟩⟩
def S_Reader_readNumberX_1_0 : List (Nat × Option Nat) := [(89, some 2), (89, some 3), (89, some 4), (89, some 5), (88, some 5), (88, some 6), (91, some 0)]
abbrev q_Reader_readNumberX_1_0 (h : Hp) (b : Int → Int) (T : Nat → Int → Int) (s : Int32) (sZ : Int) (t : Int32) (tZ : Int) (a : Int32) (aZ : Int) (w : Int32) (wZ : Int) (z : Int32) (zZ : Int) : Option Value → Hp → Prop := pInt (fun r h' => Inv h' ∧ fr S_Reader_readNumberX_1_0 h h' ∧ ∃ (k : Int32) (kZ : Int), k.toInt = kZ ∧ h'.1 89 2 = k ∧ ∃ (f : Int32) (fZ : Int), f.toInt = fZ ∧ h'.1 89 3 = f ∧ ∃ (u : Int32) (uZ : Int), u.toInt = uZ ∧ h'.1 89 4 = u ∧ ∃ (v : Int32) (vZ : Int), v.toInt = vZ ∧ h'.1 89 5 = v ∧ ∃ (e : Int32) (eZ : Int), e.toInt = eZ ∧ h'.1 88 6 = e ∧ ∃ (y : Int32) (yZ : Int), y.toInt = yZ ∧ h'.1 88 5 = y ∧ ∃ (x : Int32) (xZ : Int), x.toInt = xZ ∧ h'.1 91 0 = x ∧ (r.toInt = 1 ∧ x_cN b tZ 0 15 = 0 ∧ x_c4 (T 1 (x_vl b tZ)) = 0 ∧ uZ = x_en b tZ ∧ xZ = x_vl b tZ ∧ eZ = wZ ∧ yZ = aZ ∧ tZ < uZ ∧ uZ ≤ sZ ∨ r.toInt = 0 ∧ (x_cN b tZ 0 15 ≠ 0 ∧ eZ = x_cN b tZ 0 15 ∨ x_cN b tZ 0 15 = 0 ∧ x_c4 (T 1 (x_vl b tZ)) ≠ 0 ∧ eZ = x_c4 (T 1 (x_vl b tZ))) ∧ yZ = x_fr b tZ))
set_option maxRecDepth 100000 in
theorem c_Reader_readNumberX_1_0 (h : Hp) (b : Int → Int) (T : Nat → Int → Int) (hI : Inv h) (s : Int32) (sZ : Int) (sE : s.toInt = sZ) (sK : h.1 89 1 = s) (t : Int32) (tZ : Int) (tE : t.toInt = tZ) (tK : h.1 89 4 = t) (a : Int32) (aZ : Int) (aE : a.toInt = aZ) (aK : h.1 88 5 = a) (w : Int32) (wZ : Int) (wE : w.toInt = wZ) (wK : h.1 88 6 = w) (z : Int32) (zZ : Int) (zE : z.toInt = zZ) (zK : h.1 92 1 = z) (hy0 : TP h 90 sZ b) (hy1 : 0 ≤ tZ ∧ tZ ≤ sZ) (hy2 : x_TB z (T 1)) : Ct y_Reader_readNumber b_Reader_readNumber 6 (some .boolean) 3 60 [.ref 88, .int 1, .int 0] h (q_Reader_readNumberX_1_0 h b T s sZ t tZ a aZ w wZ z zZ) := by
  refine ct_ow R_Reader [some (.ref 88), some (.int 1), some (.int 0), none, none, none] rfl (by decide) rfl (Nat.le_of_ble_eq_true rfl) ?_
  have f0 : fr S_Reader_readNumberX_1_0 h h := fr_rf
  have g1 : 0 ≤ sZ ∧ sZ ≤ 160 := inv_at hI sE sK.symm rfl
  have g2 : 0 ≤ tZ ∧ tZ ≤ 160 := inv_at hI tE tK.symm rfl
  refine V_aload_n 0 d_Reader_readNumber_0 rfl rfl ?_
  refine V_getR fa_Reader_12 sk_88 rfl d_Reader_readNumber_1 ?_
  refine N_callVV [] [] cv_Reader_48 sk_89 rfl d_Reader_readNumber_4 rfl (Nat.le_of_ble_eq_true rfl) (by decide) (by decide) (c_Tape_advanceX h b hI s sZ sE sK t tZ tE tK (TP_fr f0 (fun _ => rfl) hy0) (by omega)) (fun h4 p5 => ?_)
  obtain ⟨hI6, fh4, o8, o8Z, o8E, o8K, o9, o9Z, o9E, o9K, o10, o10Z, o10E, o10K, o11, o11Z, o11E, o11K, p5⟩ := p5
  have f7 : fr S_Reader_readNumberX_1_0 h h4 := fr_call f0 fh4 rfl
  have g12 : 0 ≤ o9Z ∧ o9Z ≤ 160 := inv_at hI6 o9E o9K.symm rfl
  have g13 : 0 ≤ o10Z ∧ o10Z ≤ 160 := inv_at hI6 o10E o10K.symm rfl
  refine V_aload_n 0 d_Reader_readNumber_7 rfl rfl ?_
  refine V_iconst 2 d_Reader_readNumber_8 (by decide) ?_
  refine N_callVI [.int 2] [] cv_Reader_84 sk_88 rfl d_Reader_readNumber_9 rfl (Nat.le_of_ble_eq_true rfl) (by decide) (by decide) (c_Reader_isKindX h4 hI6 2 2 tc_2 o8 o8Z o8E o8K o9 o9Z o9E o9K a aZ aE (kn_call fh4 aK rfl) w wZ wE (kn_call fh4 wK rfl)) (fun z14 h15 z14Z z14E p16 => ?_)
  obtain ⟨hI17, fh15, o19, o19Z, o19E, o19K, o20, o20Z, o20E, o20K, p16⟩ := p16
  have f18 : fr S_Reader_readNumberX_1_0 h h15 := fr_call f7 fh15 rfl
  refine V_if_ne 17 z14E d_Reader_readNumber_12 (by decide) (fun c21 => ?_) (fun c21 => ?_)
  ·
    replace p16 := kd_y p16 (by omega)
    replace p5 := adv_2 p5 (by omega)
    refine V_aload_n 0 d_Reader_readNumber_17 rfl rfl ?_
    refine V_getR fa_Reader_12 sk_88 rfl d_Reader_readNumber_18 ?_
    refine N_getK fa_Reader_122 sk_89 rfl d_Reader_readNumber_21 (kn_call fh15 o11K rfl) ?_
    refine V_istore_n 3 [some (.ref 88), some (.int 1), some (.int 0), some (.int o11), none, none] d_Reader_readNumber_24 rfl (by decide) rfl rfl ?_
    refine V_iload_n 3 d_Reader_readNumber_25 rfl rfl ?_
    refine V_gets (v := .ref 133) zL ws_Reader_125 d_Reader_readNumber_26 ?_
    refine V_iconst 3 d_Reader_readNumber_29 (by decide) ?_
    refine V_iload_n 1 d_Reader_readNumber_30 rfl rfl ?_
    refine V_imulw d_Reader_readNumber_31 (fun z22 z22e => ?_)
    obtain rfl : z22 = 3 := z22e.trans (by decide)
    refine V_iload_n 2 d_Reader_readNumber_32 rfl rfl ?_
    refine V_iaddw d_Reader_readNumber_33 (fun z23 z23e => ?_)
    obtain rfl : z23 = 3 := z23e.trans (by decide)
    refine V_tald roL tc_3 (by decide) d_Reader_readNumber_34 (fun z24 z24Z z24E z24e => ?_)
    obtain rfl : z24 = 0 := z24e.trans rfl
    refine V_icmp_lt 51 o11E tc_0 d_Reader_readNumber_35 (by decide) (fun c25 => ?_) (fun c25 => ?_)
    ·
      refine V_aload_n 0 d_Reader_readNumber_51 rfl rfl ?_
      refine V_iconst 3 d_Reader_readNumber_52 (by decide) ?_
      refine V_aload_n 0 d_Reader_readNumber_53 rfl rfl ?_
      refine V_getR fa_Reader_12 sk_88 rfl d_Reader_readNumber_54 ?_
      refine N_getK fa_Reader_81 sk_89 rfl d_Reader_readNumber_57 (kn_call fh15 o9K rfl) ?_
      refine N_callVI [.int 3, .int o9] [] cv_Reader_64 sk_88 rfl d_Reader_readNumber_60 rfl (Nat.le_of_ble_eq_true rfl) (by decide) (by decide) (c_Reader_isRefusedX h15 hI17 3 3 tc_3 o9 o9Z o9E) (fun z26 h27 z26Z z26E p28 => ?_)
      obtain ⟨hI29, fh27, o31, o31Z, o31E, o31K, o32, o32Z, o32E, o32K, p28⟩ := p28
      have f30 : fr S_Reader_readNumberX_1_0 h h27 := fr_call f18 fh27 rfl
      obtain ⟨z33, z33Z, z33E, z33e⟩ : ∃ (y : Int32) (Y : Int), y.toInt = Y ∧ y = h27.1 91 0 := ⟨_, _, rfl, rfl⟩
      exact V_zret rfl (by rw [z26E]; omega) d_Reader_readNumber_63 ⟨z26, rfl, ⟨hI29, f30, o8, o8Z, o8E, (kn_call fh27 (kn_call fh15 o8K rfl) rfl), o9, o9Z, o9E, (kn_call fh27 (kn_call fh15 o9K rfl) rfl), o10, o10Z, o10E, (kn_call fh27 (kn_call fh15 o10K rfl) rfl), o11, o11Z, o11E, (kn_call fh27 (kn_call fh15 o11K rfl) rfl), o31, o31Z, o31E, o31K, o32, o32Z, o32E, o32K, z33, z33Z, z33E, z33e.symm, (by have s1 := num_3 (lo := 0) (hi := 15) p5.2.2.1 p5.2.2.2.2.1 (by omega); exact Or.inr ⟨by omega, Or.inl ⟨by omega, by omega⟩, by omega⟩)⟩⟩
    ·
      refine V_iload_n 3 d_Reader_readNumber_38 rfl rfl ?_
      refine V_gets (v := .ref 134) zM ws_Reader_128 d_Reader_readNumber_39 ?_
      refine V_iconst 3 d_Reader_readNumber_42 (by decide) ?_
      refine V_iload_n 1 d_Reader_readNumber_43 rfl rfl ?_
      refine V_imulw d_Reader_readNumber_44 (fun z34 z34e => ?_)
      obtain rfl : z34 = 3 := z34e.trans (by decide)
      refine V_iload_n 2 d_Reader_readNumber_45 rfl rfl ?_
      refine V_iaddw d_Reader_readNumber_46 (fun z35 z35e => ?_)
      obtain rfl : z35 = 3 := z35e.trans (by decide)
      refine V_tald roM tc_3 (by decide) d_Reader_readNumber_47 (fun z36 z36Z z36E z36e => ?_)
      obtain rfl : z36 = 15 := z36e.trans rfl
      refine V_icmp_le 64 o11E tc_15 d_Reader_readNumber_48 (by decide) (fun c37 => ?_) (fun c37 => ?_)
      ·
        refine V_aload_n 0 d_Reader_readNumber_64 rfl rfl ?_
        refine V_getR fa_Reader_25 sk_88 rfl d_Reader_readNumber_65 ?_
        refine V_iload_n 2 d_Reader_readNumber_68 rfl rfl ?_
        refine V_iload_n 3 d_Reader_readNumber_69 rfl rfl ?_
        refine N_iast sk_91 tc_0 (by omega) d_Reader_readNumber_70 (fun h38 eh38 => ?_)
        have hI39 : Inv h38 := inv_full hI17 eh38 rfl
        have f40 : fr S_Reader_readNumberX_1_0 h h38 := fr_put f18 eh38 rfl
        refine V_iload_n 2 d_Reader_readNumber_71 rfl rfl ?_
        refine V_if_ne 99 tc_0 d_Reader_readNumber_72 (by decide) (fun c41 => ?_) (fun c41 => ?_)
        ·
          exact absurd c41 (by decide)
        ·
          refine V_iload_n 1 d_Reader_readNumber_75 rfl rfl ?_
          refine N_callSI [.int 1] [] cs_Reader_131 d_Reader_readNumber_76 rfl (Nat.le_of_ble_eq_true rfl) (by decide) (by decide) (c_Reader_isOfOneX_1 h38) (fun z42 h43 z42Z z42E p44 => ?_)
          obtain ⟨eh43, p44⟩ := p44
          subst eh43
          refine V_if_eq 99 z42E d_Reader_readNumber_79 (by decide) (fun c45 => ?_) (fun c45 => ?_)
          ·
            refine V_iconst 0 d_Reader_readNumber_99 (by decide) ?_
            refine V_istore 4 [some (.ref 88), some (.int 1), some (.int 0), some (.int o11), some (.int 0), none] d_Reader_readNumber_100 (by decide) rfl rfl ?_
            refine V_iload_n 2 d_Reader_readNumber_102 rfl rfl ?_
            refine V_iconst 1 d_Reader_readNumber_103 (by decide) ?_
            refine V_icmp_ne 127 tc_0 tc_1 d_Reader_readNumber_104 (by decide) (fun c46 => ?_) (fun c46 => ?_)
            ·
              refine V_iconst 0 d_Reader_readNumber_127 (by decide) ?_
              refine V_istore 5 [some (.ref 88), some (.int 1), some (.int 0), some (.int o11), some (.int 0), some (.int 0)] d_Reader_readNumber_128 (by decide) rfl rfl ?_
              refine V_iload d_Reader_readNumber_130 rfl ?_
              refine V_if_ne 140 tc_0 d_Reader_readNumber_132 (by decide) (fun c47 => ?_) (fun c47 => ?_)
              ·
                exact absurd c47 (by decide)
              ·
                refine V_iload d_Reader_readNumber_135 rfl ?_
                refine V_if_eq 155 tc_0 d_Reader_readNumber_137 (by decide) (fun c48 => ?_) (fun c48 => ?_)
                ·
                  refine V_iconst 1 d_Reader_readNumber_155 (by decide) ?_
                  refine V_goto 160 d_Reader_readNumber_156 (by decide) ?_
                  exact V_zret rfl (by decide) d_Reader_readNumber_160 ⟨1, rfl, ⟨hI39, f40, o8, o8Z, o8E, (kn_ne eh38 (kn_call fh15 o8K rfl) (by decide)), o9, o9Z, o9E, (kn_ne eh38 (kn_call fh15 o9K rfl) (by decide)), o10, o10Z, o10E, (kn_ne eh38 (kn_call fh15 o10K rfl) (by decide)), o11, o11Z, o11E, (kn_ne eh38 (kn_call fh15 o11K rfl) (by decide)), o19, o19Z, o19E, (kn_ne eh38 o19K (by decide)), o20, o20Z, o20E, (kn_ne eh38 o20K (by decide)), o11, o11Z, o11E, (kn_put eh38), (by have s1 := num_0 (lo := 0) (hi := 15) p5.2.2.1 p5.2.2.2.2.1 ⟨by omega, by omega⟩; have s2 := x_c4_s (T 1 (x_vl b tZ)); exact Or.inl ⟨rfl, by omega, by omega, by omega, by omega, by omega, by omega, by omega, by omega⟩)⟩⟩
                ·
                  exact absurd c48 (by decide)
            ·
              exact absurd c46 (by decide)
          ·
            refine V_aload_n 0 d_Reader_readNumber_82 rfl rfl ?_
            refine V_getR fa_Reader_29 sk_88 rfl d_Reader_readNumber_83 ?_
            refine V_iload_n 1 d_Reader_readNumber_86 rfl rfl ?_
            refine N_ialdK sk_92 tc_1 (by omega) d_Reader_readNumber_87 (kn_ne eh38 (kn_call fh15 (kn_call fh4 zK rfl) rfl) (by decide)) ?_
            refine V_iload_n 3 d_Reader_readNumber_88 rfl rfl ?_
            refine N_ishr d_Reader_readNumber_89 (fun z50 z50Z z50E z50e => ?_)
            refine V_iconst 1 d_Reader_readNumber_90 (by decide) ?_
            refine N_iand d_Reader_readNumber_91 (fun z51 z51Z z51E z51e => ?_)
            have g52 : z51Z = T 1 o11Z := x_bt_of hy2 (by omega) (by omega) o11E z51E (by assumption) (by assumption)
            have g53 : T 1 o11Z = T 1 (x_vl b tZ) := congrArg (T 1) (by omega)
            refine V_if_eq 99 z51E d_Reader_readNumber_92 (by decide) (fun c54 => ?_) (fun c54 => ?_)
            ·
              refine V_iconst 0 d_Reader_readNumber_99 (by decide) ?_
              refine V_istore 4 [some (.ref 88), some (.int 1), some (.int 0), some (.int o11), some (.int 0), none] d_Reader_readNumber_100 (by decide) rfl rfl ?_
              refine V_iload_n 2 d_Reader_readNumber_102 rfl rfl ?_
              refine V_iconst 1 d_Reader_readNumber_103 (by decide) ?_
              refine V_icmp_ne 127 tc_0 tc_1 d_Reader_readNumber_104 (by decide) (fun c55 => ?_) (fun c55 => ?_)
              ·
                refine V_iconst 0 d_Reader_readNumber_127 (by decide) ?_
                refine V_istore 5 [some (.ref 88), some (.int 1), some (.int 0), some (.int o11), some (.int 0), some (.int 0)] d_Reader_readNumber_128 (by decide) rfl rfl ?_
                refine V_iload d_Reader_readNumber_130 rfl ?_
                refine V_if_ne 140 tc_0 d_Reader_readNumber_132 (by decide) (fun c56 => ?_) (fun c56 => ?_)
                ·
                  exact absurd c56 (by decide)
                ·
                  refine V_iload d_Reader_readNumber_135 rfl ?_
                  refine V_if_eq 155 tc_0 d_Reader_readNumber_137 (by decide) (fun c57 => ?_) (fun c57 => ?_)
                  ·
                    refine V_iconst 1 d_Reader_readNumber_155 (by decide) ?_
                    refine V_goto 160 d_Reader_readNumber_156 (by decide) ?_
                    exact V_zret rfl (by decide) d_Reader_readNumber_160 ⟨1, rfl, ⟨hI39, f40, o8, o8Z, o8E, (kn_ne eh38 (kn_call fh15 o8K rfl) (by decide)), o9, o9Z, o9E, (kn_ne eh38 (kn_call fh15 o9K rfl) (by decide)), o10, o10Z, o10E, (kn_ne eh38 (kn_call fh15 o10K rfl) (by decide)), o11, o11Z, o11E, (kn_ne eh38 (kn_call fh15 o11K rfl) (by decide)), o19, o19Z, o19E, (kn_ne eh38 o19K (by decide)), o20, o20Z, o20E, (kn_ne eh38 o20K (by decide)), o11, o11Z, o11E, (kn_put eh38), (by have s1 := num_0 (lo := 0) (hi := 15) p5.2.2.1 p5.2.2.2.2.1 ⟨by omega, by omega⟩; have s2 := x_c4_s (T 1 (x_vl b tZ)); exact Or.inl ⟨rfl, by omega, by omega, by omega, by omega, by omega, by omega, by omega, by omega⟩)⟩⟩
                  ·
                    exact absurd c57 (by decide)
              ·
                exact absurd c55 (by decide)
            ·
              refine V_iconst 1 d_Reader_readNumber_95 (by decide) ?_
              refine V_goto 100 d_Reader_readNumber_96 (by decide) ?_
              refine V_istore 4 [some (.ref 88), some (.int 1), some (.int 0), some (.int o11), some (.int 1), none] d_Reader_readNumber_100 (by decide) rfl rfl ?_
              refine V_iload_n 2 d_Reader_readNumber_102 rfl rfl ?_
              refine V_iconst 1 d_Reader_readNumber_103 (by decide) ?_
              refine V_icmp_ne 127 tc_0 tc_1 d_Reader_readNumber_104 (by decide) (fun c58 => ?_) (fun c58 => ?_)
              ·
                refine V_iconst 0 d_Reader_readNumber_127 (by decide) ?_
                refine V_istore 5 [some (.ref 88), some (.int 1), some (.int 0), some (.int o11), some (.int 1), some (.int 0)] d_Reader_readNumber_128 (by decide) rfl rfl ?_
                refine V_iload d_Reader_readNumber_130 rfl ?_
                refine V_if_ne 140 tc_1 d_Reader_readNumber_132 (by decide) (fun c59 => ?_) (fun c59 => ?_)
                ·
                  refine V_aload_n 0 d_Reader_readNumber_140 rfl rfl ?_
                  refine V_iconst 4 d_Reader_readNumber_141 (by decide) ?_
                  refine V_aload_n 0 d_Reader_readNumber_142 rfl rfl ?_
                  refine V_getR fa_Reader_12 sk_88 rfl d_Reader_readNumber_143 ?_
                  refine N_getK fa_Reader_81 sk_89 rfl d_Reader_readNumber_146 (kn_ne eh38 (kn_call fh15 o9K rfl) (by decide)) ?_
                  refine N_callVI [.int 4, .int o9] [] cv_Reader_64 sk_88 rfl d_Reader_readNumber_149 rfl (Nat.le_of_ble_eq_true rfl) (by decide) (by decide) (c_Reader_isRefusedX h38 hI39 4 4 tc_4 o9 o9Z o9E) (fun z60 h61 z60Z z60E p62 => ?_)
                  obtain ⟨hI63, fh61, o65, o65Z, o65E, o65K, o66, o66Z, o66E, o66K, p62⟩ := p62
                  have f64 : fr S_Reader_readNumberX_1_0 h h61 := fr_call f40 fh61 rfl
                  refine V_if_eq 159 z60E d_Reader_readNumber_152 (by decide) (fun c67 => ?_) (fun c67 => ?_)
                  ·
                    refine V_iconst 0 d_Reader_readNumber_159 (by decide) ?_
                    exact V_zret rfl (by decide) d_Reader_readNumber_160 ⟨0, rfl, ⟨hI63, f64, o8, o8Z, o8E, (kn_call fh61 (kn_ne eh38 (kn_call fh15 o8K rfl) (by decide)) rfl), o9, o9Z, o9E, (kn_call fh61 (kn_ne eh38 (kn_call fh15 o9K rfl) (by decide)) rfl), o10, o10Z, o10E, (kn_call fh61 (kn_ne eh38 (kn_call fh15 o10K rfl) (by decide)) rfl), o11, o11Z, o11E, (kn_call fh61 (kn_ne eh38 (kn_call fh15 o11K rfl) (by decide)) rfl), o65, o65Z, o65E, o65K, o66, o66Z, o66E, o66K, o11, o11Z, o11E, (kn_call fh61 (kn_put eh38) rfl), (by have s1 := num_0 (lo := 0) (hi := 15) p5.2.2.1 p5.2.2.2.2.1 ⟨by omega, by omega⟩; have s2 := x_c4_s (T 1 (x_vl b tZ)); exact Or.inr ⟨tc_0, Or.inr ⟨by omega, by omega, by omega⟩, by omega⟩)⟩⟩
                  ·
                    refine V_iconst 1 d_Reader_readNumber_155 (by decide) ?_
                    refine V_goto 160 d_Reader_readNumber_156 (by decide) ?_
                    exact V_zret rfl (by decide) d_Reader_readNumber_160 ⟨1, rfl, ⟨hI63, f64, o8, o8Z, o8E, (kn_call fh61 (kn_ne eh38 (kn_call fh15 o8K rfl) (by decide)) rfl), o9, o9Z, o9E, (kn_call fh61 (kn_ne eh38 (kn_call fh15 o9K rfl) (by decide)) rfl), o10, o10Z, o10E, (kn_call fh61 (kn_ne eh38 (kn_call fh15 o10K rfl) (by decide)) rfl), o11, o11Z, o11E, (kn_call fh61 (kn_ne eh38 (kn_call fh15 o11K rfl) (by decide)) rfl), o65, o65Z, o65E, o65K, o66, o66Z, o66E, o66K, o11, o11Z, o11E, (kn_call fh61 (kn_put eh38) rfl), (by have s1 := num_0 (lo := 0) (hi := 15) p5.2.2.1 p5.2.2.2.2.1 ⟨by omega, by omega⟩; have s2 := x_c4_s (T 1 (x_vl b tZ)); exact Or.inl ⟨rfl, by omega, by omega, by omega, by omega, by omega, by omega, by omega, by omega⟩)⟩⟩
                ·
                  exact absurd c59 (by decide)
              ·
                exact absurd c58 (by decide)
      ·
        refine V_aload_n 0 d_Reader_readNumber_51 rfl rfl ?_
        refine V_iconst 3 d_Reader_readNumber_52 (by decide) ?_
        refine V_aload_n 0 d_Reader_readNumber_53 rfl rfl ?_
        refine V_getR fa_Reader_12 sk_88 rfl d_Reader_readNumber_54 ?_
        refine N_getK fa_Reader_81 sk_89 rfl d_Reader_readNumber_57 (kn_call fh15 o9K rfl) ?_
        refine N_callVI [.int 3, .int o9] [] cv_Reader_64 sk_88 rfl d_Reader_readNumber_60 rfl (Nat.le_of_ble_eq_true rfl) (by decide) (by decide) (c_Reader_isRefusedX h15 hI17 3 3 tc_3 o9 o9Z o9E) (fun z68 h69 z68Z z68E p70 => ?_)
        obtain ⟨hI71, fh69, o73, o73Z, o73E, o73K, o74, o74Z, o74E, o74K, p70⟩ := p70
        have f72 : fr S_Reader_readNumberX_1_0 h h69 := fr_call f18 fh69 rfl
        obtain ⟨z75, z75Z, z75E, z75e⟩ : ∃ (y : Int32) (Y : Int), y.toInt = Y ∧ y = h69.1 91 0 := ⟨_, _, rfl, rfl⟩
        exact V_zret rfl (by rw [z68E]; omega) d_Reader_readNumber_63 ⟨z68, rfl, ⟨hI71, f72, o8, o8Z, o8E, (kn_call fh69 (kn_call fh15 o8K rfl) rfl), o9, o9Z, o9E, (kn_call fh69 (kn_call fh15 o9K rfl) rfl), o10, o10Z, o10E, (kn_call fh69 (kn_call fh15 o10K rfl) rfl), o11, o11Z, o11E, (kn_call fh69 (kn_call fh15 o11K rfl) rfl), o73, o73Z, o73E, o73K, o74, o74Z, o74E, o74K, z75, z75Z, z75E, z75e.symm, (by have s1 := num_3 (lo := 0) (hi := 15) p5.2.2.1 p5.2.2.2.2.1 (by omega); exact Or.inr ⟨by omega, Or.inl ⟨by omega, by omega⟩, by omega⟩)⟩⟩
  ·
    have hk9 := num_k 0 15 p5 p16 (by omega)
    refine V_iconst 0 d_Reader_readNumber_15 (by decide) ?_
    obtain ⟨z76, z76Z, z76E, z76e⟩ : ∃ (y : Int32) (Y : Int), y.toInt = Y ∧ y = h15.1 91 0 := ⟨_, _, rfl, rfl⟩
    exact V_zret rfl (by decide) d_Reader_readNumber_16 ⟨0, rfl, ⟨hI17, f18, o8, o8Z, o8E, (kn_call fh15 o8K rfl), o9, o9Z, o9E, (kn_call fh15 o9K rfl), o10, o10Z, o10E, (kn_call fh15 o10K rfl), o11, o11Z, o11E, (kn_call fh15 o11K rfl), o19, o19Z, o19E, o19K, o20, o20Z, o20E, o20K, z76, z76Z, z76E, z76e.symm, (Or.inr ⟨tc_0, Or.inl ⟨hk9.1, hk9.2.1⟩, hk9.2.2⟩)⟩⟩
def S_Reader_readNumberX_1_1 : List (Nat × Option Nat) := [(89, some 2), (89, some 3), (89, some 4), (89, some 5), (88, some 5), (88, some 6), (91, some 1)]
abbrev q_Reader_readNumberX_1_1 (h : Hp) (b : Int → Int) (T : Nat → Int → Int) (s : Int32) (sZ : Int) (t : Int32) (tZ : Int) (a : Int32) (aZ : Int) (w : Int32) (wZ : Int) : Option Value → Hp → Prop := pInt (fun r h' => Inv h' ∧ fr S_Reader_readNumberX_1_1 h h' ∧ ∃ (k : Int32) (kZ : Int), k.toInt = kZ ∧ h'.1 89 2 = k ∧ ∃ (f : Int32) (fZ : Int), f.toInt = fZ ∧ h'.1 89 3 = f ∧ ∃ (u : Int32) (uZ : Int), u.toInt = uZ ∧ h'.1 89 4 = u ∧ ∃ (v : Int32) (vZ : Int), v.toInt = vZ ∧ h'.1 89 5 = v ∧ ∃ (e : Int32) (eZ : Int), e.toInt = eZ ∧ h'.1 88 6 = e ∧ ∃ (y : Int32) (yZ : Int), y.toInt = yZ ∧ h'.1 88 5 = y ∧ ∃ (x : Int32) (xZ : Int), x.toInt = xZ ∧ h'.1 91 1 = x ∧ (r.toInt = 1 ∧ x_cN b tZ 1 9 = 0 ∧ uZ = x_en b tZ ∧ xZ = x_vl b tZ ∧ eZ = wZ ∧ yZ = aZ ∧ tZ < uZ ∧ uZ ≤ sZ ∨ r.toInt = 0 ∧ (x_cN b tZ 1 9 ≠ 0 ∧ eZ = x_cN b tZ 1 9) ∧ yZ = x_fr b tZ))
set_option maxRecDepth 100000 in
theorem c_Reader_readNumberX_1_1 (h : Hp) (b : Int → Int) (T : Nat → Int → Int) (hI : Inv h) (s : Int32) (sZ : Int) (sE : s.toInt = sZ) (sK : h.1 89 1 = s) (t : Int32) (tZ : Int) (tE : t.toInt = tZ) (tK : h.1 89 4 = t) (a : Int32) (aZ : Int) (aE : a.toInt = aZ) (aK : h.1 88 5 = a) (w : Int32) (wZ : Int) (wE : w.toInt = wZ) (wK : h.1 88 6 = w) (hy0 : TP h 90 sZ b) (hy1 : 0 ≤ tZ ∧ tZ ≤ sZ) : Ct y_Reader_readNumber b_Reader_readNumber 6 (some .boolean) 3 60 [.ref 88, .int 1, .int 1] h (q_Reader_readNumberX_1_1 h b T s sZ t tZ a aZ w wZ) := by
  refine ct_ow R_Reader [some (.ref 88), some (.int 1), some (.int 1), none, none, none] rfl (by decide) rfl (Nat.le_of_ble_eq_true rfl) ?_
  have f0 : fr S_Reader_readNumberX_1_1 h h := fr_rf
  have g1 : 0 ≤ sZ ∧ sZ ≤ 160 := inv_at hI sE sK.symm rfl
  have g2 : 0 ≤ tZ ∧ tZ ≤ 160 := inv_at hI tE tK.symm rfl
  refine V_aload_n 0 d_Reader_readNumber_0 rfl rfl ?_
  refine V_getR fa_Reader_12 sk_88 rfl d_Reader_readNumber_1 ?_
  refine N_callVV [] [] cv_Reader_48 sk_89 rfl d_Reader_readNumber_4 rfl (Nat.le_of_ble_eq_true rfl) (by decide) (by decide) (c_Tape_advanceX h b hI s sZ sE sK t tZ tE tK (TP_fr f0 (fun _ => rfl) hy0) (by omega)) (fun h4 p5 => ?_)
  obtain ⟨hI6, fh4, o8, o8Z, o8E, o8K, o9, o9Z, o9E, o9K, o10, o10Z, o10E, o10K, o11, o11Z, o11E, o11K, p5⟩ := p5
  have f7 : fr S_Reader_readNumberX_1_1 h h4 := fr_call f0 fh4 rfl
  have g12 : 0 ≤ o9Z ∧ o9Z ≤ 160 := inv_at hI6 o9E o9K.symm rfl
  have g13 : 0 ≤ o10Z ∧ o10Z ≤ 160 := inv_at hI6 o10E o10K.symm rfl
  refine V_aload_n 0 d_Reader_readNumber_7 rfl rfl ?_
  refine V_iconst 2 d_Reader_readNumber_8 (by decide) ?_
  refine N_callVI [.int 2] [] cv_Reader_84 sk_88 rfl d_Reader_readNumber_9 rfl (Nat.le_of_ble_eq_true rfl) (by decide) (by decide) (c_Reader_isKindX h4 hI6 2 2 tc_2 o8 o8Z o8E o8K o9 o9Z o9E o9K a aZ aE (kn_call fh4 aK rfl) w wZ wE (kn_call fh4 wK rfl)) (fun z14 h15 z14Z z14E p16 => ?_)
  obtain ⟨hI17, fh15, o19, o19Z, o19E, o19K, o20, o20Z, o20E, o20K, p16⟩ := p16
  have f18 : fr S_Reader_readNumberX_1_1 h h15 := fr_call f7 fh15 rfl
  refine V_if_ne 17 z14E d_Reader_readNumber_12 (by decide) (fun c21 => ?_) (fun c21 => ?_)
  ·
    replace p16 := kd_y p16 (by omega)
    replace p5 := adv_2 p5 (by omega)
    refine V_aload_n 0 d_Reader_readNumber_17 rfl rfl ?_
    refine V_getR fa_Reader_12 sk_88 rfl d_Reader_readNumber_18 ?_
    refine N_getK fa_Reader_122 sk_89 rfl d_Reader_readNumber_21 (kn_call fh15 o11K rfl) ?_
    refine V_istore_n 3 [some (.ref 88), some (.int 1), some (.int 1), some (.int o11), none, none] d_Reader_readNumber_24 rfl (by decide) rfl rfl ?_
    refine V_iload_n 3 d_Reader_readNumber_25 rfl rfl ?_
    refine V_gets (v := .ref 133) zL ws_Reader_125 d_Reader_readNumber_26 ?_
    refine V_iconst 3 d_Reader_readNumber_29 (by decide) ?_
    refine V_iload_n 1 d_Reader_readNumber_30 rfl rfl ?_
    refine V_imulw d_Reader_readNumber_31 (fun z22 z22e => ?_)
    obtain rfl : z22 = 3 := z22e.trans (by decide)
    refine V_iload_n 2 d_Reader_readNumber_32 rfl rfl ?_
    refine V_iaddw d_Reader_readNumber_33 (fun z23 z23e => ?_)
    obtain rfl : z23 = 4 := z23e.trans (by decide)
    refine V_tald roL tc_4 (by decide) d_Reader_readNumber_34 (fun z24 z24Z z24E z24e => ?_)
    obtain rfl : z24 = 1 := z24e.trans rfl
    refine V_icmp_lt 51 o11E tc_1 d_Reader_readNumber_35 (by decide) (fun c25 => ?_) (fun c25 => ?_)
    ·
      refine V_aload_n 0 d_Reader_readNumber_51 rfl rfl ?_
      refine V_iconst 3 d_Reader_readNumber_52 (by decide) ?_
      refine V_aload_n 0 d_Reader_readNumber_53 rfl rfl ?_
      refine V_getR fa_Reader_12 sk_88 rfl d_Reader_readNumber_54 ?_
      refine N_getK fa_Reader_81 sk_89 rfl d_Reader_readNumber_57 (kn_call fh15 o9K rfl) ?_
      refine N_callVI [.int 3, .int o9] [] cv_Reader_64 sk_88 rfl d_Reader_readNumber_60 rfl (Nat.le_of_ble_eq_true rfl) (by decide) (by decide) (c_Reader_isRefusedX h15 hI17 3 3 tc_3 o9 o9Z o9E) (fun z26 h27 z26Z z26E p28 => ?_)
      obtain ⟨hI29, fh27, o31, o31Z, o31E, o31K, o32, o32Z, o32E, o32K, p28⟩ := p28
      have f30 : fr S_Reader_readNumberX_1_1 h h27 := fr_call f18 fh27 rfl
      obtain ⟨z33, z33Z, z33E, z33e⟩ : ∃ (y : Int32) (Y : Int), y.toInt = Y ∧ y = h27.1 91 1 := ⟨_, _, rfl, rfl⟩
      exact V_zret rfl (by rw [z26E]; omega) d_Reader_readNumber_63 ⟨z26, rfl, ⟨hI29, f30, o8, o8Z, o8E, (kn_call fh27 (kn_call fh15 o8K rfl) rfl), o9, o9Z, o9E, (kn_call fh27 (kn_call fh15 o9K rfl) rfl), o10, o10Z, o10E, (kn_call fh27 (kn_call fh15 o10K rfl) rfl), o11, o11Z, o11E, (kn_call fh27 (kn_call fh15 o11K rfl) rfl), o31, o31Z, o31E, o31K, o32, o32Z, o32E, o32K, z33, z33Z, z33E, z33e.symm, (by have s1 := num_3 (lo := 1) (hi := 9) p5.2.2.1 p5.2.2.2.2.1 (by omega); exact Or.inr ⟨by omega, ⟨by omega, by omega⟩, by omega⟩)⟩⟩
    ·
      refine V_iload_n 3 d_Reader_readNumber_38 rfl rfl ?_
      refine V_gets (v := .ref 134) zM ws_Reader_128 d_Reader_readNumber_39 ?_
      refine V_iconst 3 d_Reader_readNumber_42 (by decide) ?_
      refine V_iload_n 1 d_Reader_readNumber_43 rfl rfl ?_
      refine V_imulw d_Reader_readNumber_44 (fun z34 z34e => ?_)
      obtain rfl : z34 = 3 := z34e.trans (by decide)
      refine V_iload_n 2 d_Reader_readNumber_45 rfl rfl ?_
      refine V_iaddw d_Reader_readNumber_46 (fun z35 z35e => ?_)
      obtain rfl : z35 = 4 := z35e.trans (by decide)
      refine V_tald roM tc_4 (by decide) d_Reader_readNumber_47 (fun z36 z36Z z36E z36e => ?_)
      obtain rfl : z36 = 9 := z36e.trans rfl
      refine V_icmp_le 64 o11E tc_9 d_Reader_readNumber_48 (by decide) (fun c37 => ?_) (fun c37 => ?_)
      ·
        refine V_aload_n 0 d_Reader_readNumber_64 rfl rfl ?_
        refine V_getR fa_Reader_25 sk_88 rfl d_Reader_readNumber_65 ?_
        refine V_iload_n 2 d_Reader_readNumber_68 rfl rfl ?_
        refine V_iload_n 3 d_Reader_readNumber_69 rfl rfl ?_
        refine N_iast sk_91 tc_1 (by omega) d_Reader_readNumber_70 (fun h38 eh38 => ?_)
        have hI39 : Inv h38 := inv_full hI17 eh38 rfl
        have f40 : fr S_Reader_readNumberX_1_1 h h38 := fr_put f18 eh38 rfl
        refine V_iload_n 2 d_Reader_readNumber_71 rfl rfl ?_
        refine V_if_ne 99 tc_1 d_Reader_readNumber_72 (by decide) (fun c41 => ?_) (fun c41 => ?_)
        ·
          refine V_iconst 0 d_Reader_readNumber_99 (by decide) ?_
          refine V_istore 4 [some (.ref 88), some (.int 1), some (.int 1), some (.int o11), some (.int 0), none] d_Reader_readNumber_100 (by decide) rfl rfl ?_
          refine V_iload_n 2 d_Reader_readNumber_102 rfl rfl ?_
          refine V_iconst 1 d_Reader_readNumber_103 (by decide) ?_
          refine V_icmp_ne 127 tc_1 tc_1 d_Reader_readNumber_104 (by decide) (fun c42 => ?_) (fun c42 => ?_)
          ·
            exact absurd c42 (by decide)
          ·
            refine V_iload_n 1 d_Reader_readNumber_107 rfl rfl ?_
            refine V_bipush 9 d_Reader_readNumber_108 (by decide) ?_
            refine V_icmp_ne 127 tc_1 tc_9 d_Reader_readNumber_110 (by decide) (fun c43 => ?_) (fun c43 => ?_)
            ·
              refine V_iconst 0 d_Reader_readNumber_127 (by decide) ?_
              refine V_istore 5 [some (.ref 88), some (.int 1), some (.int 1), some (.int o11), some (.int 0), some (.int 0)] d_Reader_readNumber_128 (by decide) rfl rfl ?_
              refine V_iload d_Reader_readNumber_130 rfl ?_
              refine V_if_ne 140 tc_0 d_Reader_readNumber_132 (by decide) (fun c44 => ?_) (fun c44 => ?_)
              ·
                exact absurd c44 (by decide)
              ·
                refine V_iload d_Reader_readNumber_135 rfl ?_
                refine V_if_eq 155 tc_0 d_Reader_readNumber_137 (by decide) (fun c45 => ?_) (fun c45 => ?_)
                ·
                  refine V_iconst 1 d_Reader_readNumber_155 (by decide) ?_
                  refine V_goto 160 d_Reader_readNumber_156 (by decide) ?_
                  exact V_zret rfl (by decide) d_Reader_readNumber_160 ⟨1, rfl, ⟨hI39, f40, o8, o8Z, o8E, (kn_ne eh38 (kn_call fh15 o8K rfl) (by decide)), o9, o9Z, o9E, (kn_ne eh38 (kn_call fh15 o9K rfl) (by decide)), o10, o10Z, o10E, (kn_ne eh38 (kn_call fh15 o10K rfl) (by decide)), o11, o11Z, o11E, (kn_ne eh38 (kn_call fh15 o11K rfl) (by decide)), o19, o19Z, o19E, (kn_ne eh38 o19K (by decide)), o20, o20Z, o20E, (kn_ne eh38 o20K (by decide)), o11, o11Z, o11E, (kn_put eh38), (by have s1 := num_0 (lo := 1) (hi := 9) p5.2.2.1 p5.2.2.2.2.1 ⟨by omega, by omega⟩; exact Or.inl ⟨rfl, by omega, by omega, by omega, by omega, by omega, by omega, by omega⟩)⟩⟩
                ·
                  exact absurd c45 (by decide)
            ·
              exact absurd c43 (by decide)
        ·
          exact absurd c41 (by decide)
      ·
        refine V_aload_n 0 d_Reader_readNumber_51 rfl rfl ?_
        refine V_iconst 3 d_Reader_readNumber_52 (by decide) ?_
        refine V_aload_n 0 d_Reader_readNumber_53 rfl rfl ?_
        refine V_getR fa_Reader_12 sk_88 rfl d_Reader_readNumber_54 ?_
        refine N_getK fa_Reader_81 sk_89 rfl d_Reader_readNumber_57 (kn_call fh15 o9K rfl) ?_
        refine N_callVI [.int 3, .int o9] [] cv_Reader_64 sk_88 rfl d_Reader_readNumber_60 rfl (Nat.le_of_ble_eq_true rfl) (by decide) (by decide) (c_Reader_isRefusedX h15 hI17 3 3 tc_3 o9 o9Z o9E) (fun z46 h47 z46Z z46E p48 => ?_)
        obtain ⟨hI49, fh47, o51, o51Z, o51E, o51K, o52, o52Z, o52E, o52K, p48⟩ := p48
        have f50 : fr S_Reader_readNumberX_1_1 h h47 := fr_call f18 fh47 rfl
        obtain ⟨z53, z53Z, z53E, z53e⟩ : ∃ (y : Int32) (Y : Int), y.toInt = Y ∧ y = h47.1 91 1 := ⟨_, _, rfl, rfl⟩
        exact V_zret rfl (by rw [z46E]; omega) d_Reader_readNumber_63 ⟨z46, rfl, ⟨hI49, f50, o8, o8Z, o8E, (kn_call fh47 (kn_call fh15 o8K rfl) rfl), o9, o9Z, o9E, (kn_call fh47 (kn_call fh15 o9K rfl) rfl), o10, o10Z, o10E, (kn_call fh47 (kn_call fh15 o10K rfl) rfl), o11, o11Z, o11E, (kn_call fh47 (kn_call fh15 o11K rfl) rfl), o51, o51Z, o51E, o51K, o52, o52Z, o52E, o52K, z53, z53Z, z53E, z53e.symm, (by have s1 := num_3 (lo := 1) (hi := 9) p5.2.2.1 p5.2.2.2.2.1 (by omega); exact Or.inr ⟨by omega, ⟨by omega, by omega⟩, by omega⟩)⟩⟩
  ·
    have hk9 := num_k 1 9 p5 p16 (by omega)
    refine V_iconst 0 d_Reader_readNumber_15 (by decide) ?_
    obtain ⟨z54, z54Z, z54E, z54e⟩ : ∃ (y : Int32) (Y : Int), y.toInt = Y ∧ y = h15.1 91 1 := ⟨_, _, rfl, rfl⟩
    exact V_zret rfl (by decide) d_Reader_readNumber_16 ⟨0, rfl, ⟨hI17, f18, o8, o8Z, o8E, (kn_call fh15 o8K rfl), o9, o9Z, o9E, (kn_call fh15 o9K rfl), o10, o10Z, o10E, (kn_call fh15 o10K rfl), o11, o11Z, o11E, (kn_call fh15 o11K rfl), o19, o19Z, o19E, o19K, o20, o20Z, o20E, o20K, z54, z54Z, z54E, z54e.symm, (Or.inr ⟨tc_0, ⟨hk9.1, hk9.2.1⟩, hk9.2.2⟩)⟩⟩
def S_Reader_readNumberX_2_0 : List (Nat × Option Nat) := [(89, some 2), (89, some 3), (89, some 4), (89, some 5), (88, some 5), (88, some 6), (91, some 0)]
abbrev q_Reader_readNumberX_2_0 (h : Hp) (b : Int → Int) (T : Nat → Int → Int) (s : Int32) (sZ : Int) (t : Int32) (tZ : Int) (a : Int32) (aZ : Int) (w : Int32) (wZ : Int) (z : Int32) (zZ : Int) : Option Value → Hp → Prop := pInt (fun r h' => Inv h' ∧ fr S_Reader_readNumberX_2_0 h h' ∧ ∃ (k : Int32) (kZ : Int), k.toInt = kZ ∧ h'.1 89 2 = k ∧ ∃ (f : Int32) (fZ : Int), f.toInt = fZ ∧ h'.1 89 3 = f ∧ ∃ (u : Int32) (uZ : Int), u.toInt = uZ ∧ h'.1 89 4 = u ∧ ∃ (v : Int32) (vZ : Int), v.toInt = vZ ∧ h'.1 89 5 = v ∧ ∃ (e : Int32) (eZ : Int), e.toInt = eZ ∧ h'.1 88 6 = e ∧ ∃ (y : Int32) (yZ : Int), y.toInt = yZ ∧ h'.1 88 5 = y ∧ ∃ (x : Int32) (xZ : Int), x.toInt = xZ ∧ h'.1 91 0 = x ∧ (r.toInt = 1 ∧ x_cN b tZ 0 15 = 0 ∧ x_c4 (T 2 (x_vl b tZ)) = 0 ∧ uZ = x_en b tZ ∧ xZ = x_vl b tZ ∧ eZ = wZ ∧ yZ = aZ ∧ tZ < uZ ∧ uZ ≤ sZ ∨ r.toInt = 0 ∧ (x_cN b tZ 0 15 ≠ 0 ∧ eZ = x_cN b tZ 0 15 ∨ x_cN b tZ 0 15 = 0 ∧ x_c4 (T 2 (x_vl b tZ)) ≠ 0 ∧ eZ = x_c4 (T 2 (x_vl b tZ))) ∧ yZ = x_fr b tZ))
set_option maxRecDepth 100000 in
theorem c_Reader_readNumberX_2_0 (h : Hp) (b : Int → Int) (T : Nat → Int → Int) (hI : Inv h) (s : Int32) (sZ : Int) (sE : s.toInt = sZ) (sK : h.1 89 1 = s) (t : Int32) (tZ : Int) (tE : t.toInt = tZ) (tK : h.1 89 4 = t) (a : Int32) (aZ : Int) (aE : a.toInt = aZ) (aK : h.1 88 5 = a) (w : Int32) (wZ : Int) (wE : w.toInt = wZ) (wK : h.1 88 6 = w) (z : Int32) (zZ : Int) (zE : z.toInt = zZ) (zK : h.1 92 2 = z) (hy0 : TP h 90 sZ b) (hy1 : 0 ≤ tZ ∧ tZ ≤ sZ) (hy2 : x_TB z (T 2)) : Ct y_Reader_readNumber b_Reader_readNumber 6 (some .boolean) 3 60 [.ref 88, .int 2, .int 0] h (q_Reader_readNumberX_2_0 h b T s sZ t tZ a aZ w wZ z zZ) := by
  refine ct_ow R_Reader [some (.ref 88), some (.int 2), some (.int 0), none, none, none] rfl (by decide) rfl (Nat.le_of_ble_eq_true rfl) ?_
  have f0 : fr S_Reader_readNumberX_2_0 h h := fr_rf
  have g1 : 0 ≤ sZ ∧ sZ ≤ 160 := inv_at hI sE sK.symm rfl
  have g2 : 0 ≤ tZ ∧ tZ ≤ 160 := inv_at hI tE tK.symm rfl
  refine V_aload_n 0 d_Reader_readNumber_0 rfl rfl ?_
  refine V_getR fa_Reader_12 sk_88 rfl d_Reader_readNumber_1 ?_
  refine N_callVV [] [] cv_Reader_48 sk_89 rfl d_Reader_readNumber_4 rfl (Nat.le_of_ble_eq_true rfl) (by decide) (by decide) (c_Tape_advanceX h b hI s sZ sE sK t tZ tE tK (TP_fr f0 (fun _ => rfl) hy0) (by omega)) (fun h4 p5 => ?_)
  obtain ⟨hI6, fh4, o8, o8Z, o8E, o8K, o9, o9Z, o9E, o9K, o10, o10Z, o10E, o10K, o11, o11Z, o11E, o11K, p5⟩ := p5
  have f7 : fr S_Reader_readNumberX_2_0 h h4 := fr_call f0 fh4 rfl
  have g12 : 0 ≤ o9Z ∧ o9Z ≤ 160 := inv_at hI6 o9E o9K.symm rfl
  have g13 : 0 ≤ o10Z ∧ o10Z ≤ 160 := inv_at hI6 o10E o10K.symm rfl
  refine V_aload_n 0 d_Reader_readNumber_7 rfl rfl ?_
  refine V_iconst 2 d_Reader_readNumber_8 (by decide) ?_
  refine N_callVI [.int 2] [] cv_Reader_84 sk_88 rfl d_Reader_readNumber_9 rfl (Nat.le_of_ble_eq_true rfl) (by decide) (by decide) (c_Reader_isKindX h4 hI6 2 2 tc_2 o8 o8Z o8E o8K o9 o9Z o9E o9K a aZ aE (kn_call fh4 aK rfl) w wZ wE (kn_call fh4 wK rfl)) (fun z14 h15 z14Z z14E p16 => ?_)
  obtain ⟨hI17, fh15, o19, o19Z, o19E, o19K, o20, o20Z, o20E, o20K, p16⟩ := p16
  have f18 : fr S_Reader_readNumberX_2_0 h h15 := fr_call f7 fh15 rfl
  refine V_if_ne 17 z14E d_Reader_readNumber_12 (by decide) (fun c21 => ?_) (fun c21 => ?_)
  ·
    replace p16 := kd_y p16 (by omega)
    replace p5 := adv_2 p5 (by omega)
    refine V_aload_n 0 d_Reader_readNumber_17 rfl rfl ?_
    refine V_getR fa_Reader_12 sk_88 rfl d_Reader_readNumber_18 ?_
    refine N_getK fa_Reader_122 sk_89 rfl d_Reader_readNumber_21 (kn_call fh15 o11K rfl) ?_
    refine V_istore_n 3 [some (.ref 88), some (.int 2), some (.int 0), some (.int o11), none, none] d_Reader_readNumber_24 rfl (by decide) rfl rfl ?_
    refine V_iload_n 3 d_Reader_readNumber_25 rfl rfl ?_
    refine V_gets (v := .ref 133) zL ws_Reader_125 d_Reader_readNumber_26 ?_
    refine V_iconst 3 d_Reader_readNumber_29 (by decide) ?_
    refine V_iload_n 1 d_Reader_readNumber_30 rfl rfl ?_
    refine V_imulw d_Reader_readNumber_31 (fun z22 z22e => ?_)
    obtain rfl : z22 = 6 := z22e.trans (by decide)
    refine V_iload_n 2 d_Reader_readNumber_32 rfl rfl ?_
    refine V_iaddw d_Reader_readNumber_33 (fun z23 z23e => ?_)
    obtain rfl : z23 = 6 := z23e.trans (by decide)
    refine V_tald roL tc_6 (by decide) d_Reader_readNumber_34 (fun z24 z24Z z24E z24e => ?_)
    obtain rfl : z24 = 0 := z24e.trans rfl
    refine V_icmp_lt 51 o11E tc_0 d_Reader_readNumber_35 (by decide) (fun c25 => ?_) (fun c25 => ?_)
    ·
      refine V_aload_n 0 d_Reader_readNumber_51 rfl rfl ?_
      refine V_iconst 3 d_Reader_readNumber_52 (by decide) ?_
      refine V_aload_n 0 d_Reader_readNumber_53 rfl rfl ?_
      refine V_getR fa_Reader_12 sk_88 rfl d_Reader_readNumber_54 ?_
      refine N_getK fa_Reader_81 sk_89 rfl d_Reader_readNumber_57 (kn_call fh15 o9K rfl) ?_
      refine N_callVI [.int 3, .int o9] [] cv_Reader_64 sk_88 rfl d_Reader_readNumber_60 rfl (Nat.le_of_ble_eq_true rfl) (by decide) (by decide) (c_Reader_isRefusedX h15 hI17 3 3 tc_3 o9 o9Z o9E) (fun z26 h27 z26Z z26E p28 => ?_)
      obtain ⟨hI29, fh27, o31, o31Z, o31E, o31K, o32, o32Z, o32E, o32K, p28⟩ := p28
      have f30 : fr S_Reader_readNumberX_2_0 h h27 := fr_call f18 fh27 rfl
      obtain ⟨z33, z33Z, z33E, z33e⟩ : ∃ (y : Int32) (Y : Int), y.toInt = Y ∧ y = h27.1 91 0 := ⟨_, _, rfl, rfl⟩
      exact V_zret rfl (by rw [z26E]; omega) d_Reader_readNumber_63 ⟨z26, rfl, ⟨hI29, f30, o8, o8Z, o8E, (kn_call fh27 (kn_call fh15 o8K rfl) rfl), o9, o9Z, o9E, (kn_call fh27 (kn_call fh15 o9K rfl) rfl), o10, o10Z, o10E, (kn_call fh27 (kn_call fh15 o10K rfl) rfl), o11, o11Z, o11E, (kn_call fh27 (kn_call fh15 o11K rfl) rfl), o31, o31Z, o31E, o31K, o32, o32Z, o32E, o32K, z33, z33Z, z33E, z33e.symm, (by have s1 := num_3 (lo := 0) (hi := 15) p5.2.2.1 p5.2.2.2.2.1 (by omega); exact Or.inr ⟨by omega, Or.inl ⟨by omega, by omega⟩, by omega⟩)⟩⟩
    ·
      refine V_iload_n 3 d_Reader_readNumber_38 rfl rfl ?_
      refine V_gets (v := .ref 134) zM ws_Reader_128 d_Reader_readNumber_39 ?_
      refine V_iconst 3 d_Reader_readNumber_42 (by decide) ?_
      refine V_iload_n 1 d_Reader_readNumber_43 rfl rfl ?_
      refine V_imulw d_Reader_readNumber_44 (fun z34 z34e => ?_)
      obtain rfl : z34 = 6 := z34e.trans (by decide)
      refine V_iload_n 2 d_Reader_readNumber_45 rfl rfl ?_
      refine V_iaddw d_Reader_readNumber_46 (fun z35 z35e => ?_)
      obtain rfl : z35 = 6 := z35e.trans (by decide)
      refine V_tald roM tc_6 (by decide) d_Reader_readNumber_47 (fun z36 z36Z z36E z36e => ?_)
      obtain rfl : z36 = 15 := z36e.trans rfl
      refine V_icmp_le 64 o11E tc_15 d_Reader_readNumber_48 (by decide) (fun c37 => ?_) (fun c37 => ?_)
      ·
        refine V_aload_n 0 d_Reader_readNumber_64 rfl rfl ?_
        refine V_getR fa_Reader_25 sk_88 rfl d_Reader_readNumber_65 ?_
        refine V_iload_n 2 d_Reader_readNumber_68 rfl rfl ?_
        refine V_iload_n 3 d_Reader_readNumber_69 rfl rfl ?_
        refine N_iast sk_91 tc_0 (by omega) d_Reader_readNumber_70 (fun h38 eh38 => ?_)
        have hI39 : Inv h38 := inv_full hI17 eh38 rfl
        have f40 : fr S_Reader_readNumberX_2_0 h h38 := fr_put f18 eh38 rfl
        refine V_iload_n 2 d_Reader_readNumber_71 rfl rfl ?_
        refine V_if_ne 99 tc_0 d_Reader_readNumber_72 (by decide) (fun c41 => ?_) (fun c41 => ?_)
        ·
          exact absurd c41 (by decide)
        ·
          refine V_iload_n 1 d_Reader_readNumber_75 rfl rfl ?_
          refine N_callSI [.int 2] [] cs_Reader_131 d_Reader_readNumber_76 rfl (Nat.le_of_ble_eq_true rfl) (by decide) (by decide) (c_Reader_isOfOneX_2 h38) (fun z42 h43 z42Z z42E p44 => ?_)
          obtain ⟨eh43, p44⟩ := p44
          subst eh43
          refine V_if_eq 99 z42E d_Reader_readNumber_79 (by decide) (fun c45 => ?_) (fun c45 => ?_)
          ·
            refine V_iconst 0 d_Reader_readNumber_99 (by decide) ?_
            refine V_istore 4 [some (.ref 88), some (.int 2), some (.int 0), some (.int o11), some (.int 0), none] d_Reader_readNumber_100 (by decide) rfl rfl ?_
            refine V_iload_n 2 d_Reader_readNumber_102 rfl rfl ?_
            refine V_iconst 1 d_Reader_readNumber_103 (by decide) ?_
            refine V_icmp_ne 127 tc_0 tc_1 d_Reader_readNumber_104 (by decide) (fun c46 => ?_) (fun c46 => ?_)
            ·
              refine V_iconst 0 d_Reader_readNumber_127 (by decide) ?_
              refine V_istore 5 [some (.ref 88), some (.int 2), some (.int 0), some (.int o11), some (.int 0), some (.int 0)] d_Reader_readNumber_128 (by decide) rfl rfl ?_
              refine V_iload d_Reader_readNumber_130 rfl ?_
              refine V_if_ne 140 tc_0 d_Reader_readNumber_132 (by decide) (fun c47 => ?_) (fun c47 => ?_)
              ·
                exact absurd c47 (by decide)
              ·
                refine V_iload d_Reader_readNumber_135 rfl ?_
                refine V_if_eq 155 tc_0 d_Reader_readNumber_137 (by decide) (fun c48 => ?_) (fun c48 => ?_)
                ·
                  refine V_iconst 1 d_Reader_readNumber_155 (by decide) ?_
                  refine V_goto 160 d_Reader_readNumber_156 (by decide) ?_
                  exact V_zret rfl (by decide) d_Reader_readNumber_160 ⟨1, rfl, ⟨hI39, f40, o8, o8Z, o8E, (kn_ne eh38 (kn_call fh15 o8K rfl) (by decide)), o9, o9Z, o9E, (kn_ne eh38 (kn_call fh15 o9K rfl) (by decide)), o10, o10Z, o10E, (kn_ne eh38 (kn_call fh15 o10K rfl) (by decide)), o11, o11Z, o11E, (kn_ne eh38 (kn_call fh15 o11K rfl) (by decide)), o19, o19Z, o19E, (kn_ne eh38 o19K (by decide)), o20, o20Z, o20E, (kn_ne eh38 o20K (by decide)), o11, o11Z, o11E, (kn_put eh38), (by have s1 := num_0 (lo := 0) (hi := 15) p5.2.2.1 p5.2.2.2.2.1 ⟨by omega, by omega⟩; have s2 := x_c4_s (T 2 (x_vl b tZ)); exact Or.inl ⟨rfl, by omega, by omega, by omega, by omega, by omega, by omega, by omega, by omega⟩)⟩⟩
                ·
                  exact absurd c48 (by decide)
            ·
              exact absurd c46 (by decide)
          ·
            refine V_aload_n 0 d_Reader_readNumber_82 rfl rfl ?_
            refine V_getR fa_Reader_29 sk_88 rfl d_Reader_readNumber_83 ?_
            refine V_iload_n 1 d_Reader_readNumber_86 rfl rfl ?_
            refine N_ialdK sk_92 tc_2 (by omega) d_Reader_readNumber_87 (kn_ne eh38 (kn_call fh15 (kn_call fh4 zK rfl) rfl) (by decide)) ?_
            refine V_iload_n 3 d_Reader_readNumber_88 rfl rfl ?_
            refine N_ishr d_Reader_readNumber_89 (fun z50 z50Z z50E z50e => ?_)
            refine V_iconst 1 d_Reader_readNumber_90 (by decide) ?_
            refine N_iand d_Reader_readNumber_91 (fun z51 z51Z z51E z51e => ?_)
            have g52 : z51Z = T 2 o11Z := x_bt_of hy2 (by omega) (by omega) o11E z51E (by assumption) (by assumption)
            have g53 : T 2 o11Z = T 2 (x_vl b tZ) := congrArg (T 2) (by omega)
            refine V_if_eq 99 z51E d_Reader_readNumber_92 (by decide) (fun c54 => ?_) (fun c54 => ?_)
            ·
              refine V_iconst 0 d_Reader_readNumber_99 (by decide) ?_
              refine V_istore 4 [some (.ref 88), some (.int 2), some (.int 0), some (.int o11), some (.int 0), none] d_Reader_readNumber_100 (by decide) rfl rfl ?_
              refine V_iload_n 2 d_Reader_readNumber_102 rfl rfl ?_
              refine V_iconst 1 d_Reader_readNumber_103 (by decide) ?_
              refine V_icmp_ne 127 tc_0 tc_1 d_Reader_readNumber_104 (by decide) (fun c55 => ?_) (fun c55 => ?_)
              ·
                refine V_iconst 0 d_Reader_readNumber_127 (by decide) ?_
                refine V_istore 5 [some (.ref 88), some (.int 2), some (.int 0), some (.int o11), some (.int 0), some (.int 0)] d_Reader_readNumber_128 (by decide) rfl rfl ?_
                refine V_iload d_Reader_readNumber_130 rfl ?_
                refine V_if_ne 140 tc_0 d_Reader_readNumber_132 (by decide) (fun c56 => ?_) (fun c56 => ?_)
                ·
                  exact absurd c56 (by decide)
                ·
                  refine V_iload d_Reader_readNumber_135 rfl ?_
                  refine V_if_eq 155 tc_0 d_Reader_readNumber_137 (by decide) (fun c57 => ?_) (fun c57 => ?_)
                  ·
                    refine V_iconst 1 d_Reader_readNumber_155 (by decide) ?_
                    refine V_goto 160 d_Reader_readNumber_156 (by decide) ?_
                    exact V_zret rfl (by decide) d_Reader_readNumber_160 ⟨1, rfl, ⟨hI39, f40, o8, o8Z, o8E, (kn_ne eh38 (kn_call fh15 o8K rfl) (by decide)), o9, o9Z, o9E, (kn_ne eh38 (kn_call fh15 o9K rfl) (by decide)), o10, o10Z, o10E, (kn_ne eh38 (kn_call fh15 o10K rfl) (by decide)), o11, o11Z, o11E, (kn_ne eh38 (kn_call fh15 o11K rfl) (by decide)), o19, o19Z, o19E, (kn_ne eh38 o19K (by decide)), o20, o20Z, o20E, (kn_ne eh38 o20K (by decide)), o11, o11Z, o11E, (kn_put eh38), (by have s1 := num_0 (lo := 0) (hi := 15) p5.2.2.1 p5.2.2.2.2.1 ⟨by omega, by omega⟩; have s2 := x_c4_s (T 2 (x_vl b tZ)); exact Or.inl ⟨rfl, by omega, by omega, by omega, by omega, by omega, by omega, by omega, by omega⟩)⟩⟩
                  ·
                    exact absurd c57 (by decide)
              ·
                exact absurd c55 (by decide)
            ·
              refine V_iconst 1 d_Reader_readNumber_95 (by decide) ?_
              refine V_goto 100 d_Reader_readNumber_96 (by decide) ?_
              refine V_istore 4 [some (.ref 88), some (.int 2), some (.int 0), some (.int o11), some (.int 1), none] d_Reader_readNumber_100 (by decide) rfl rfl ?_
              refine V_iload_n 2 d_Reader_readNumber_102 rfl rfl ?_
              refine V_iconst 1 d_Reader_readNumber_103 (by decide) ?_
              refine V_icmp_ne 127 tc_0 tc_1 d_Reader_readNumber_104 (by decide) (fun c58 => ?_) (fun c58 => ?_)
              ·
                refine V_iconst 0 d_Reader_readNumber_127 (by decide) ?_
                refine V_istore 5 [some (.ref 88), some (.int 2), some (.int 0), some (.int o11), some (.int 1), some (.int 0)] d_Reader_readNumber_128 (by decide) rfl rfl ?_
                refine V_iload d_Reader_readNumber_130 rfl ?_
                refine V_if_ne 140 tc_1 d_Reader_readNumber_132 (by decide) (fun c59 => ?_) (fun c59 => ?_)
                ·
                  refine V_aload_n 0 d_Reader_readNumber_140 rfl rfl ?_
                  refine V_iconst 4 d_Reader_readNumber_141 (by decide) ?_
                  refine V_aload_n 0 d_Reader_readNumber_142 rfl rfl ?_
                  refine V_getR fa_Reader_12 sk_88 rfl d_Reader_readNumber_143 ?_
                  refine N_getK fa_Reader_81 sk_89 rfl d_Reader_readNumber_146 (kn_ne eh38 (kn_call fh15 o9K rfl) (by decide)) ?_
                  refine N_callVI [.int 4, .int o9] [] cv_Reader_64 sk_88 rfl d_Reader_readNumber_149 rfl (Nat.le_of_ble_eq_true rfl) (by decide) (by decide) (c_Reader_isRefusedX h38 hI39 4 4 tc_4 o9 o9Z o9E) (fun z60 h61 z60Z z60E p62 => ?_)
                  obtain ⟨hI63, fh61, o65, o65Z, o65E, o65K, o66, o66Z, o66E, o66K, p62⟩ := p62
                  have f64 : fr S_Reader_readNumberX_2_0 h h61 := fr_call f40 fh61 rfl
                  refine V_if_eq 159 z60E d_Reader_readNumber_152 (by decide) (fun c67 => ?_) (fun c67 => ?_)
                  ·
                    refine V_iconst 0 d_Reader_readNumber_159 (by decide) ?_
                    exact V_zret rfl (by decide) d_Reader_readNumber_160 ⟨0, rfl, ⟨hI63, f64, o8, o8Z, o8E, (kn_call fh61 (kn_ne eh38 (kn_call fh15 o8K rfl) (by decide)) rfl), o9, o9Z, o9E, (kn_call fh61 (kn_ne eh38 (kn_call fh15 o9K rfl) (by decide)) rfl), o10, o10Z, o10E, (kn_call fh61 (kn_ne eh38 (kn_call fh15 o10K rfl) (by decide)) rfl), o11, o11Z, o11E, (kn_call fh61 (kn_ne eh38 (kn_call fh15 o11K rfl) (by decide)) rfl), o65, o65Z, o65E, o65K, o66, o66Z, o66E, o66K, o11, o11Z, o11E, (kn_call fh61 (kn_put eh38) rfl), (by have s1 := num_0 (lo := 0) (hi := 15) p5.2.2.1 p5.2.2.2.2.1 ⟨by omega, by omega⟩; have s2 := x_c4_s (T 2 (x_vl b tZ)); exact Or.inr ⟨tc_0, Or.inr ⟨by omega, by omega, by omega⟩, by omega⟩)⟩⟩
                  ·
                    refine V_iconst 1 d_Reader_readNumber_155 (by decide) ?_
                    refine V_goto 160 d_Reader_readNumber_156 (by decide) ?_
                    exact V_zret rfl (by decide) d_Reader_readNumber_160 ⟨1, rfl, ⟨hI63, f64, o8, o8Z, o8E, (kn_call fh61 (kn_ne eh38 (kn_call fh15 o8K rfl) (by decide)) rfl), o9, o9Z, o9E, (kn_call fh61 (kn_ne eh38 (kn_call fh15 o9K rfl) (by decide)) rfl), o10, o10Z, o10E, (kn_call fh61 (kn_ne eh38 (kn_call fh15 o10K rfl) (by decide)) rfl), o11, o11Z, o11E, (kn_call fh61 (kn_ne eh38 (kn_call fh15 o11K rfl) (by decide)) rfl), o65, o65Z, o65E, o65K, o66, o66Z, o66E, o66K, o11, o11Z, o11E, (kn_call fh61 (kn_put eh38) rfl), (by have s1 := num_0 (lo := 0) (hi := 15) p5.2.2.1 p5.2.2.2.2.1 ⟨by omega, by omega⟩; have s2 := x_c4_s (T 2 (x_vl b tZ)); exact Or.inl ⟨rfl, by omega, by omega, by omega, by omega, by omega, by omega, by omega, by omega⟩)⟩⟩
                ·
                  exact absurd c59 (by decide)
              ·
                exact absurd c58 (by decide)
      ·
        refine V_aload_n 0 d_Reader_readNumber_51 rfl rfl ?_
        refine V_iconst 3 d_Reader_readNumber_52 (by decide) ?_
        refine V_aload_n 0 d_Reader_readNumber_53 rfl rfl ?_
        refine V_getR fa_Reader_12 sk_88 rfl d_Reader_readNumber_54 ?_
        refine N_getK fa_Reader_81 sk_89 rfl d_Reader_readNumber_57 (kn_call fh15 o9K rfl) ?_
        refine N_callVI [.int 3, .int o9] [] cv_Reader_64 sk_88 rfl d_Reader_readNumber_60 rfl (Nat.le_of_ble_eq_true rfl) (by decide) (by decide) (c_Reader_isRefusedX h15 hI17 3 3 tc_3 o9 o9Z o9E) (fun z68 h69 z68Z z68E p70 => ?_)
        obtain ⟨hI71, fh69, o73, o73Z, o73E, o73K, o74, o74Z, o74E, o74K, p70⟩ := p70
        have f72 : fr S_Reader_readNumberX_2_0 h h69 := fr_call f18 fh69 rfl
        obtain ⟨z75, z75Z, z75E, z75e⟩ : ∃ (y : Int32) (Y : Int), y.toInt = Y ∧ y = h69.1 91 0 := ⟨_, _, rfl, rfl⟩
        exact V_zret rfl (by rw [z68E]; omega) d_Reader_readNumber_63 ⟨z68, rfl, ⟨hI71, f72, o8, o8Z, o8E, (kn_call fh69 (kn_call fh15 o8K rfl) rfl), o9, o9Z, o9E, (kn_call fh69 (kn_call fh15 o9K rfl) rfl), o10, o10Z, o10E, (kn_call fh69 (kn_call fh15 o10K rfl) rfl), o11, o11Z, o11E, (kn_call fh69 (kn_call fh15 o11K rfl) rfl), o73, o73Z, o73E, o73K, o74, o74Z, o74E, o74K, z75, z75Z, z75E, z75e.symm, (by have s1 := num_3 (lo := 0) (hi := 15) p5.2.2.1 p5.2.2.2.2.1 (by omega); exact Or.inr ⟨by omega, Or.inl ⟨by omega, by omega⟩, by omega⟩)⟩⟩
  ·
    have hk9 := num_k 0 15 p5 p16 (by omega)
    refine V_iconst 0 d_Reader_readNumber_15 (by decide) ?_
    obtain ⟨z76, z76Z, z76E, z76e⟩ : ∃ (y : Int32) (Y : Int), y.toInt = Y ∧ y = h15.1 91 0 := ⟨_, _, rfl, rfl⟩
    exact V_zret rfl (by decide) d_Reader_readNumber_16 ⟨0, rfl, ⟨hI17, f18, o8, o8Z, o8E, (kn_call fh15 o8K rfl), o9, o9Z, o9E, (kn_call fh15 o9K rfl), o10, o10Z, o10E, (kn_call fh15 o10K rfl), o11, o11Z, o11E, (kn_call fh15 o11K rfl), o19, o19Z, o19E, o19K, o20, o20Z, o20E, o20K, z76, z76Z, z76E, z76e.symm, (Or.inr ⟨tc_0, Or.inl ⟨hk9.1, hk9.2.1⟩, hk9.2.2⟩)⟩⟩
def S_Reader_readNumberX_3_0 : List (Nat × Option Nat) := [(89, some 2), (89, some 3), (89, some 4), (89, some 5), (88, some 5), (88, some 6), (91, some 0)]
abbrev q_Reader_readNumberX_3_0 (h : Hp) (b : Int → Int) (T : Nat → Int → Int) (s : Int32) (sZ : Int) (t : Int32) (tZ : Int) (a : Int32) (aZ : Int) (w : Int32) (wZ : Int) (z : Int32) (zZ : Int) : Option Value → Hp → Prop := pInt (fun r h' => Inv h' ∧ fr S_Reader_readNumberX_3_0 h h' ∧ ∃ (k : Int32) (kZ : Int), k.toInt = kZ ∧ h'.1 89 2 = k ∧ ∃ (f : Int32) (fZ : Int), f.toInt = fZ ∧ h'.1 89 3 = f ∧ ∃ (u : Int32) (uZ : Int), u.toInt = uZ ∧ h'.1 89 4 = u ∧ ∃ (v : Int32) (vZ : Int), v.toInt = vZ ∧ h'.1 89 5 = v ∧ ∃ (e : Int32) (eZ : Int), e.toInt = eZ ∧ h'.1 88 6 = e ∧ ∃ (y : Int32) (yZ : Int), y.toInt = yZ ∧ h'.1 88 5 = y ∧ ∃ (x : Int32) (xZ : Int), x.toInt = xZ ∧ h'.1 91 0 = x ∧ (r.toInt = 1 ∧ x_cN b tZ 0 15 = 0 ∧ x_c4 (T 3 (x_vl b tZ)) = 0 ∧ uZ = x_en b tZ ∧ xZ = x_vl b tZ ∧ eZ = wZ ∧ yZ = aZ ∧ tZ < uZ ∧ uZ ≤ sZ ∨ r.toInt = 0 ∧ (x_cN b tZ 0 15 ≠ 0 ∧ eZ = x_cN b tZ 0 15 ∨ x_cN b tZ 0 15 = 0 ∧ x_c4 (T 3 (x_vl b tZ)) ≠ 0 ∧ eZ = x_c4 (T 3 (x_vl b tZ))) ∧ yZ = x_fr b tZ))
set_option maxRecDepth 100000 in
theorem c_Reader_readNumberX_3_0 (h : Hp) (b : Int → Int) (T : Nat → Int → Int) (hI : Inv h) (s : Int32) (sZ : Int) (sE : s.toInt = sZ) (sK : h.1 89 1 = s) (t : Int32) (tZ : Int) (tE : t.toInt = tZ) (tK : h.1 89 4 = t) (a : Int32) (aZ : Int) (aE : a.toInt = aZ) (aK : h.1 88 5 = a) (w : Int32) (wZ : Int) (wE : w.toInt = wZ) (wK : h.1 88 6 = w) (z : Int32) (zZ : Int) (zE : z.toInt = zZ) (zK : h.1 92 3 = z) (hy0 : TP h 90 sZ b) (hy1 : 0 ≤ tZ ∧ tZ ≤ sZ) (hy2 : x_TB z (T 3)) : Ct y_Reader_readNumber b_Reader_readNumber 6 (some .boolean) 3 60 [.ref 88, .int 3, .int 0] h (q_Reader_readNumberX_3_0 h b T s sZ t tZ a aZ w wZ z zZ) := by
  refine ct_ow R_Reader [some (.ref 88), some (.int 3), some (.int 0), none, none, none] rfl (by decide) rfl (Nat.le_of_ble_eq_true rfl) ?_
  have f0 : fr S_Reader_readNumberX_3_0 h h := fr_rf
  have g1 : 0 ≤ sZ ∧ sZ ≤ 160 := inv_at hI sE sK.symm rfl
  have g2 : 0 ≤ tZ ∧ tZ ≤ 160 := inv_at hI tE tK.symm rfl
  refine V_aload_n 0 d_Reader_readNumber_0 rfl rfl ?_
  refine V_getR fa_Reader_12 sk_88 rfl d_Reader_readNumber_1 ?_
  refine N_callVV [] [] cv_Reader_48 sk_89 rfl d_Reader_readNumber_4 rfl (Nat.le_of_ble_eq_true rfl) (by decide) (by decide) (c_Tape_advanceX h b hI s sZ sE sK t tZ tE tK (TP_fr f0 (fun _ => rfl) hy0) (by omega)) (fun h4 p5 => ?_)
  obtain ⟨hI6, fh4, o8, o8Z, o8E, o8K, o9, o9Z, o9E, o9K, o10, o10Z, o10E, o10K, o11, o11Z, o11E, o11K, p5⟩ := p5
  have f7 : fr S_Reader_readNumberX_3_0 h h4 := fr_call f0 fh4 rfl
  have g12 : 0 ≤ o9Z ∧ o9Z ≤ 160 := inv_at hI6 o9E o9K.symm rfl
  have g13 : 0 ≤ o10Z ∧ o10Z ≤ 160 := inv_at hI6 o10E o10K.symm rfl
  refine V_aload_n 0 d_Reader_readNumber_7 rfl rfl ?_
  refine V_iconst 2 d_Reader_readNumber_8 (by decide) ?_
  refine N_callVI [.int 2] [] cv_Reader_84 sk_88 rfl d_Reader_readNumber_9 rfl (Nat.le_of_ble_eq_true rfl) (by decide) (by decide) (c_Reader_isKindX h4 hI6 2 2 tc_2 o8 o8Z o8E o8K o9 o9Z o9E o9K a aZ aE (kn_call fh4 aK rfl) w wZ wE (kn_call fh4 wK rfl)) (fun z14 h15 z14Z z14E p16 => ?_)
  obtain ⟨hI17, fh15, o19, o19Z, o19E, o19K, o20, o20Z, o20E, o20K, p16⟩ := p16
  have f18 : fr S_Reader_readNumberX_3_0 h h15 := fr_call f7 fh15 rfl
  refine V_if_ne 17 z14E d_Reader_readNumber_12 (by decide) (fun c21 => ?_) (fun c21 => ?_)
  ·
    replace p16 := kd_y p16 (by omega)
    replace p5 := adv_2 p5 (by omega)
    refine V_aload_n 0 d_Reader_readNumber_17 rfl rfl ?_
    refine V_getR fa_Reader_12 sk_88 rfl d_Reader_readNumber_18 ?_
    refine N_getK fa_Reader_122 sk_89 rfl d_Reader_readNumber_21 (kn_call fh15 o11K rfl) ?_
    refine V_istore_n 3 [some (.ref 88), some (.int 3), some (.int 0), some (.int o11), none, none] d_Reader_readNumber_24 rfl (by decide) rfl rfl ?_
    refine V_iload_n 3 d_Reader_readNumber_25 rfl rfl ?_
    refine V_gets (v := .ref 133) zL ws_Reader_125 d_Reader_readNumber_26 ?_
    refine V_iconst 3 d_Reader_readNumber_29 (by decide) ?_
    refine V_iload_n 1 d_Reader_readNumber_30 rfl rfl ?_
    refine V_imulw d_Reader_readNumber_31 (fun z22 z22e => ?_)
    obtain rfl : z22 = 9 := z22e.trans (by decide)
    refine V_iload_n 2 d_Reader_readNumber_32 rfl rfl ?_
    refine V_iaddw d_Reader_readNumber_33 (fun z23 z23e => ?_)
    obtain rfl : z23 = 9 := z23e.trans (by decide)
    refine V_tald roL tc_9 (by decide) d_Reader_readNumber_34 (fun z24 z24Z z24E z24e => ?_)
    obtain rfl : z24 = 0 := z24e.trans rfl
    refine V_icmp_lt 51 o11E tc_0 d_Reader_readNumber_35 (by decide) (fun c25 => ?_) (fun c25 => ?_)
    ·
      refine V_aload_n 0 d_Reader_readNumber_51 rfl rfl ?_
      refine V_iconst 3 d_Reader_readNumber_52 (by decide) ?_
      refine V_aload_n 0 d_Reader_readNumber_53 rfl rfl ?_
      refine V_getR fa_Reader_12 sk_88 rfl d_Reader_readNumber_54 ?_
      refine N_getK fa_Reader_81 sk_89 rfl d_Reader_readNumber_57 (kn_call fh15 o9K rfl) ?_
      refine N_callVI [.int 3, .int o9] [] cv_Reader_64 sk_88 rfl d_Reader_readNumber_60 rfl (Nat.le_of_ble_eq_true rfl) (by decide) (by decide) (c_Reader_isRefusedX h15 hI17 3 3 tc_3 o9 o9Z o9E) (fun z26 h27 z26Z z26E p28 => ?_)
      obtain ⟨hI29, fh27, o31, o31Z, o31E, o31K, o32, o32Z, o32E, o32K, p28⟩ := p28
      have f30 : fr S_Reader_readNumberX_3_0 h h27 := fr_call f18 fh27 rfl
      obtain ⟨z33, z33Z, z33E, z33e⟩ : ∃ (y : Int32) (Y : Int), y.toInt = Y ∧ y = h27.1 91 0 := ⟨_, _, rfl, rfl⟩
      exact V_zret rfl (by rw [z26E]; omega) d_Reader_readNumber_63 ⟨z26, rfl, ⟨hI29, f30, o8, o8Z, o8E, (kn_call fh27 (kn_call fh15 o8K rfl) rfl), o9, o9Z, o9E, (kn_call fh27 (kn_call fh15 o9K rfl) rfl), o10, o10Z, o10E, (kn_call fh27 (kn_call fh15 o10K rfl) rfl), o11, o11Z, o11E, (kn_call fh27 (kn_call fh15 o11K rfl) rfl), o31, o31Z, o31E, o31K, o32, o32Z, o32E, o32K, z33, z33Z, z33E, z33e.symm, (by have s1 := num_3 (lo := 0) (hi := 15) p5.2.2.1 p5.2.2.2.2.1 (by omega); exact Or.inr ⟨by omega, Or.inl ⟨by omega, by omega⟩, by omega⟩)⟩⟩
    ·
      refine V_iload_n 3 d_Reader_readNumber_38 rfl rfl ?_
      refine V_gets (v := .ref 134) zM ws_Reader_128 d_Reader_readNumber_39 ?_
      refine V_iconst 3 d_Reader_readNumber_42 (by decide) ?_
      refine V_iload_n 1 d_Reader_readNumber_43 rfl rfl ?_
      refine V_imulw d_Reader_readNumber_44 (fun z34 z34e => ?_)
      obtain rfl : z34 = 9 := z34e.trans (by decide)
      refine V_iload_n 2 d_Reader_readNumber_45 rfl rfl ?_
      refine V_iaddw d_Reader_readNumber_46 (fun z35 z35e => ?_)
      obtain rfl : z35 = 9 := z35e.trans (by decide)
      refine V_tald roM tc_9 (by decide) d_Reader_readNumber_47 (fun z36 z36Z z36E z36e => ?_)
      obtain rfl : z36 = 15 := z36e.trans rfl
      refine V_icmp_le 64 o11E tc_15 d_Reader_readNumber_48 (by decide) (fun c37 => ?_) (fun c37 => ?_)
      ·
        refine V_aload_n 0 d_Reader_readNumber_64 rfl rfl ?_
        refine V_getR fa_Reader_25 sk_88 rfl d_Reader_readNumber_65 ?_
        refine V_iload_n 2 d_Reader_readNumber_68 rfl rfl ?_
        refine V_iload_n 3 d_Reader_readNumber_69 rfl rfl ?_
        refine N_iast sk_91 tc_0 (by omega) d_Reader_readNumber_70 (fun h38 eh38 => ?_)
        have hI39 : Inv h38 := inv_full hI17 eh38 rfl
        have f40 : fr S_Reader_readNumberX_3_0 h h38 := fr_put f18 eh38 rfl
        refine V_iload_n 2 d_Reader_readNumber_71 rfl rfl ?_
        refine V_if_ne 99 tc_0 d_Reader_readNumber_72 (by decide) (fun c41 => ?_) (fun c41 => ?_)
        ·
          exact absurd c41 (by decide)
        ·
          refine V_iload_n 1 d_Reader_readNumber_75 rfl rfl ?_
          refine N_callSI [.int 3] [] cs_Reader_131 d_Reader_readNumber_76 rfl (Nat.le_of_ble_eq_true rfl) (by decide) (by decide) (c_Reader_isOfOneX_3 h38) (fun z42 h43 z42Z z42E p44 => ?_)
          obtain ⟨eh43, p44⟩ := p44
          subst eh43
          refine V_if_eq 99 z42E d_Reader_readNumber_79 (by decide) (fun c45 => ?_) (fun c45 => ?_)
          ·
            refine V_iconst 0 d_Reader_readNumber_99 (by decide) ?_
            refine V_istore 4 [some (.ref 88), some (.int 3), some (.int 0), some (.int o11), some (.int 0), none] d_Reader_readNumber_100 (by decide) rfl rfl ?_
            refine V_iload_n 2 d_Reader_readNumber_102 rfl rfl ?_
            refine V_iconst 1 d_Reader_readNumber_103 (by decide) ?_
            refine V_icmp_ne 127 tc_0 tc_1 d_Reader_readNumber_104 (by decide) (fun c46 => ?_) (fun c46 => ?_)
            ·
              refine V_iconst 0 d_Reader_readNumber_127 (by decide) ?_
              refine V_istore 5 [some (.ref 88), some (.int 3), some (.int 0), some (.int o11), some (.int 0), some (.int 0)] d_Reader_readNumber_128 (by decide) rfl rfl ?_
              refine V_iload d_Reader_readNumber_130 rfl ?_
              refine V_if_ne 140 tc_0 d_Reader_readNumber_132 (by decide) (fun c47 => ?_) (fun c47 => ?_)
              ·
                exact absurd c47 (by decide)
              ·
                refine V_iload d_Reader_readNumber_135 rfl ?_
                refine V_if_eq 155 tc_0 d_Reader_readNumber_137 (by decide) (fun c48 => ?_) (fun c48 => ?_)
                ·
                  refine V_iconst 1 d_Reader_readNumber_155 (by decide) ?_
                  refine V_goto 160 d_Reader_readNumber_156 (by decide) ?_
                  exact V_zret rfl (by decide) d_Reader_readNumber_160 ⟨1, rfl, ⟨hI39, f40, o8, o8Z, o8E, (kn_ne eh38 (kn_call fh15 o8K rfl) (by decide)), o9, o9Z, o9E, (kn_ne eh38 (kn_call fh15 o9K rfl) (by decide)), o10, o10Z, o10E, (kn_ne eh38 (kn_call fh15 o10K rfl) (by decide)), o11, o11Z, o11E, (kn_ne eh38 (kn_call fh15 o11K rfl) (by decide)), o19, o19Z, o19E, (kn_ne eh38 o19K (by decide)), o20, o20Z, o20E, (kn_ne eh38 o20K (by decide)), o11, o11Z, o11E, (kn_put eh38), (by have s1 := num_0 (lo := 0) (hi := 15) p5.2.2.1 p5.2.2.2.2.1 ⟨by omega, by omega⟩; have s2 := x_c4_s (T 3 (x_vl b tZ)); exact Or.inl ⟨rfl, by omega, by omega, by omega, by omega, by omega, by omega, by omega, by omega⟩)⟩⟩
                ·
                  exact absurd c48 (by decide)
            ·
              exact absurd c46 (by decide)
          ·
            refine V_aload_n 0 d_Reader_readNumber_82 rfl rfl ?_
            refine V_getR fa_Reader_29 sk_88 rfl d_Reader_readNumber_83 ?_
            refine V_iload_n 1 d_Reader_readNumber_86 rfl rfl ?_
            refine N_ialdK sk_92 tc_3 (by omega) d_Reader_readNumber_87 (kn_ne eh38 (kn_call fh15 (kn_call fh4 zK rfl) rfl) (by decide)) ?_
            refine V_iload_n 3 d_Reader_readNumber_88 rfl rfl ?_
            refine N_ishr d_Reader_readNumber_89 (fun z50 z50Z z50E z50e => ?_)
            refine V_iconst 1 d_Reader_readNumber_90 (by decide) ?_
            refine N_iand d_Reader_readNumber_91 (fun z51 z51Z z51E z51e => ?_)
            have g52 : z51Z = T 3 o11Z := x_bt_of hy2 (by omega) (by omega) o11E z51E (by assumption) (by assumption)
            have g53 : T 3 o11Z = T 3 (x_vl b tZ) := congrArg (T 3) (by omega)
            refine V_if_eq 99 z51E d_Reader_readNumber_92 (by decide) (fun c54 => ?_) (fun c54 => ?_)
            ·
              refine V_iconst 0 d_Reader_readNumber_99 (by decide) ?_
              refine V_istore 4 [some (.ref 88), some (.int 3), some (.int 0), some (.int o11), some (.int 0), none] d_Reader_readNumber_100 (by decide) rfl rfl ?_
              refine V_iload_n 2 d_Reader_readNumber_102 rfl rfl ?_
              refine V_iconst 1 d_Reader_readNumber_103 (by decide) ?_
              refine V_icmp_ne 127 tc_0 tc_1 d_Reader_readNumber_104 (by decide) (fun c55 => ?_) (fun c55 => ?_)
              ·
                refine V_iconst 0 d_Reader_readNumber_127 (by decide) ?_
                refine V_istore 5 [some (.ref 88), some (.int 3), some (.int 0), some (.int o11), some (.int 0), some (.int 0)] d_Reader_readNumber_128 (by decide) rfl rfl ?_
                refine V_iload d_Reader_readNumber_130 rfl ?_
                refine V_if_ne 140 tc_0 d_Reader_readNumber_132 (by decide) (fun c56 => ?_) (fun c56 => ?_)
                ·
                  exact absurd c56 (by decide)
                ·
                  refine V_iload d_Reader_readNumber_135 rfl ?_
                  refine V_if_eq 155 tc_0 d_Reader_readNumber_137 (by decide) (fun c57 => ?_) (fun c57 => ?_)
                  ·
                    refine V_iconst 1 d_Reader_readNumber_155 (by decide) ?_
                    refine V_goto 160 d_Reader_readNumber_156 (by decide) ?_
                    exact V_zret rfl (by decide) d_Reader_readNumber_160 ⟨1, rfl, ⟨hI39, f40, o8, o8Z, o8E, (kn_ne eh38 (kn_call fh15 o8K rfl) (by decide)), o9, o9Z, o9E, (kn_ne eh38 (kn_call fh15 o9K rfl) (by decide)), o10, o10Z, o10E, (kn_ne eh38 (kn_call fh15 o10K rfl) (by decide)), o11, o11Z, o11E, (kn_ne eh38 (kn_call fh15 o11K rfl) (by decide)), o19, o19Z, o19E, (kn_ne eh38 o19K (by decide)), o20, o20Z, o20E, (kn_ne eh38 o20K (by decide)), o11, o11Z, o11E, (kn_put eh38), (by have s1 := num_0 (lo := 0) (hi := 15) p5.2.2.1 p5.2.2.2.2.1 ⟨by omega, by omega⟩; have s2 := x_c4_s (T 3 (x_vl b tZ)); exact Or.inl ⟨rfl, by omega, by omega, by omega, by omega, by omega, by omega, by omega, by omega⟩)⟩⟩
                  ·
                    exact absurd c57 (by decide)
              ·
                exact absurd c55 (by decide)
            ·
              refine V_iconst 1 d_Reader_readNumber_95 (by decide) ?_
              refine V_goto 100 d_Reader_readNumber_96 (by decide) ?_
              refine V_istore 4 [some (.ref 88), some (.int 3), some (.int 0), some (.int o11), some (.int 1), none] d_Reader_readNumber_100 (by decide) rfl rfl ?_
              refine V_iload_n 2 d_Reader_readNumber_102 rfl rfl ?_
              refine V_iconst 1 d_Reader_readNumber_103 (by decide) ?_
              refine V_icmp_ne 127 tc_0 tc_1 d_Reader_readNumber_104 (by decide) (fun c58 => ?_) (fun c58 => ?_)
              ·
                refine V_iconst 0 d_Reader_readNumber_127 (by decide) ?_
                refine V_istore 5 [some (.ref 88), some (.int 3), some (.int 0), some (.int o11), some (.int 1), some (.int 0)] d_Reader_readNumber_128 (by decide) rfl rfl ?_
                refine V_iload d_Reader_readNumber_130 rfl ?_
                refine V_if_ne 140 tc_1 d_Reader_readNumber_132 (by decide) (fun c59 => ?_) (fun c59 => ?_)
                ·
                  refine V_aload_n 0 d_Reader_readNumber_140 rfl rfl ?_
                  refine V_iconst 4 d_Reader_readNumber_141 (by decide) ?_
                  refine V_aload_n 0 d_Reader_readNumber_142 rfl rfl ?_
                  refine V_getR fa_Reader_12 sk_88 rfl d_Reader_readNumber_143 ?_
                  refine N_getK fa_Reader_81 sk_89 rfl d_Reader_readNumber_146 (kn_ne eh38 (kn_call fh15 o9K rfl) (by decide)) ?_
                  refine N_callVI [.int 4, .int o9] [] cv_Reader_64 sk_88 rfl d_Reader_readNumber_149 rfl (Nat.le_of_ble_eq_true rfl) (by decide) (by decide) (c_Reader_isRefusedX h38 hI39 4 4 tc_4 o9 o9Z o9E) (fun z60 h61 z60Z z60E p62 => ?_)
                  obtain ⟨hI63, fh61, o65, o65Z, o65E, o65K, o66, o66Z, o66E, o66K, p62⟩ := p62
                  have f64 : fr S_Reader_readNumberX_3_0 h h61 := fr_call f40 fh61 rfl
                  refine V_if_eq 159 z60E d_Reader_readNumber_152 (by decide) (fun c67 => ?_) (fun c67 => ?_)
                  ·
                    refine V_iconst 0 d_Reader_readNumber_159 (by decide) ?_
                    exact V_zret rfl (by decide) d_Reader_readNumber_160 ⟨0, rfl, ⟨hI63, f64, o8, o8Z, o8E, (kn_call fh61 (kn_ne eh38 (kn_call fh15 o8K rfl) (by decide)) rfl), o9, o9Z, o9E, (kn_call fh61 (kn_ne eh38 (kn_call fh15 o9K rfl) (by decide)) rfl), o10, o10Z, o10E, (kn_call fh61 (kn_ne eh38 (kn_call fh15 o10K rfl) (by decide)) rfl), o11, o11Z, o11E, (kn_call fh61 (kn_ne eh38 (kn_call fh15 o11K rfl) (by decide)) rfl), o65, o65Z, o65E, o65K, o66, o66Z, o66E, o66K, o11, o11Z, o11E, (kn_call fh61 (kn_put eh38) rfl), (by have s1 := num_0 (lo := 0) (hi := 15) p5.2.2.1 p5.2.2.2.2.1 ⟨by omega, by omega⟩; have s2 := x_c4_s (T 3 (x_vl b tZ)); exact Or.inr ⟨tc_0, Or.inr ⟨by omega, by omega, by omega⟩, by omega⟩)⟩⟩
                  ·
                    refine V_iconst 1 d_Reader_readNumber_155 (by decide) ?_
                    refine V_goto 160 d_Reader_readNumber_156 (by decide) ?_
                    exact V_zret rfl (by decide) d_Reader_readNumber_160 ⟨1, rfl, ⟨hI63, f64, o8, o8Z, o8E, (kn_call fh61 (kn_ne eh38 (kn_call fh15 o8K rfl) (by decide)) rfl), o9, o9Z, o9E, (kn_call fh61 (kn_ne eh38 (kn_call fh15 o9K rfl) (by decide)) rfl), o10, o10Z, o10E, (kn_call fh61 (kn_ne eh38 (kn_call fh15 o10K rfl) (by decide)) rfl), o11, o11Z, o11E, (kn_call fh61 (kn_ne eh38 (kn_call fh15 o11K rfl) (by decide)) rfl), o65, o65Z, o65E, o65K, o66, o66Z, o66E, o66K, o11, o11Z, o11E, (kn_call fh61 (kn_put eh38) rfl), (by have s1 := num_0 (lo := 0) (hi := 15) p5.2.2.1 p5.2.2.2.2.1 ⟨by omega, by omega⟩; have s2 := x_c4_s (T 3 (x_vl b tZ)); exact Or.inl ⟨rfl, by omega, by omega, by omega, by omega, by omega, by omega, by omega, by omega⟩)⟩⟩
                ·
                  exact absurd c59 (by decide)
              ·
                exact absurd c58 (by decide)
      ·
        refine V_aload_n 0 d_Reader_readNumber_51 rfl rfl ?_
        refine V_iconst 3 d_Reader_readNumber_52 (by decide) ?_
        refine V_aload_n 0 d_Reader_readNumber_53 rfl rfl ?_
        refine V_getR fa_Reader_12 sk_88 rfl d_Reader_readNumber_54 ?_
        refine N_getK fa_Reader_81 sk_89 rfl d_Reader_readNumber_57 (kn_call fh15 o9K rfl) ?_
        refine N_callVI [.int 3, .int o9] [] cv_Reader_64 sk_88 rfl d_Reader_readNumber_60 rfl (Nat.le_of_ble_eq_true rfl) (by decide) (by decide) (c_Reader_isRefusedX h15 hI17 3 3 tc_3 o9 o9Z o9E) (fun z68 h69 z68Z z68E p70 => ?_)
        obtain ⟨hI71, fh69, o73, o73Z, o73E, o73K, o74, o74Z, o74E, o74K, p70⟩ := p70
        have f72 : fr S_Reader_readNumberX_3_0 h h69 := fr_call f18 fh69 rfl
        obtain ⟨z75, z75Z, z75E, z75e⟩ : ∃ (y : Int32) (Y : Int), y.toInt = Y ∧ y = h69.1 91 0 := ⟨_, _, rfl, rfl⟩
        exact V_zret rfl (by rw [z68E]; omega) d_Reader_readNumber_63 ⟨z68, rfl, ⟨hI71, f72, o8, o8Z, o8E, (kn_call fh69 (kn_call fh15 o8K rfl) rfl), o9, o9Z, o9E, (kn_call fh69 (kn_call fh15 o9K rfl) rfl), o10, o10Z, o10E, (kn_call fh69 (kn_call fh15 o10K rfl) rfl), o11, o11Z, o11E, (kn_call fh69 (kn_call fh15 o11K rfl) rfl), o73, o73Z, o73E, o73K, o74, o74Z, o74E, o74K, z75, z75Z, z75E, z75e.symm, (by have s1 := num_3 (lo := 0) (hi := 15) p5.2.2.1 p5.2.2.2.2.1 (by omega); exact Or.inr ⟨by omega, Or.inl ⟨by omega, by omega⟩, by omega⟩)⟩⟩
  ·
    have hk9 := num_k 0 15 p5 p16 (by omega)
    refine V_iconst 0 d_Reader_readNumber_15 (by decide) ?_
    obtain ⟨z76, z76Z, z76E, z76e⟩ : ∃ (y : Int32) (Y : Int), y.toInt = Y ∧ y = h15.1 91 0 := ⟨_, _, rfl, rfl⟩
    exact V_zret rfl (by decide) d_Reader_readNumber_16 ⟨0, rfl, ⟨hI17, f18, o8, o8Z, o8E, (kn_call fh15 o8K rfl), o9, o9Z, o9E, (kn_call fh15 o9K rfl), o10, o10Z, o10E, (kn_call fh15 o10K rfl), o11, o11Z, o11E, (kn_call fh15 o11K rfl), o19, o19Z, o19E, o19K, o20, o20Z, o20E, o20K, z76, z76Z, z76E, z76e.symm, (Or.inr ⟨tc_0, Or.inl ⟨hk9.1, hk9.2.1⟩, hk9.2.2⟩)⟩⟩
def S_Reader_readNumberX_3_1 : List (Nat × Option Nat) := [(89, some 2), (89, some 3), (89, some 4), (89, some 5), (88, some 5), (88, some 6), (91, some 1)]
abbrev q_Reader_readNumberX_3_1 (h : Hp) (b : Int → Int) (T : Nat → Int → Int) (s : Int32) (sZ : Int) (t : Int32) (tZ : Int) (a : Int32) (aZ : Int) (w : Int32) (wZ : Int) : Option Value → Hp → Prop := pInt (fun r h' => Inv h' ∧ fr S_Reader_readNumberX_3_1 h h' ∧ ∃ (k : Int32) (kZ : Int), k.toInt = kZ ∧ h'.1 89 2 = k ∧ ∃ (f : Int32) (fZ : Int), f.toInt = fZ ∧ h'.1 89 3 = f ∧ ∃ (u : Int32) (uZ : Int), u.toInt = uZ ∧ h'.1 89 4 = u ∧ ∃ (v : Int32) (vZ : Int), v.toInt = vZ ∧ h'.1 89 5 = v ∧ ∃ (e : Int32) (eZ : Int), e.toInt = eZ ∧ h'.1 88 6 = e ∧ ∃ (y : Int32) (yZ : Int), y.toInt = yZ ∧ h'.1 88 5 = y ∧ ∃ (x : Int32) (xZ : Int), x.toInt = xZ ∧ h'.1 91 1 = x ∧ (r.toInt = 1 ∧ x_cN b tZ 0 10 = 0 ∧ uZ = x_en b tZ ∧ xZ = x_vl b tZ ∧ eZ = wZ ∧ yZ = aZ ∧ tZ < uZ ∧ uZ ≤ sZ ∨ r.toInt = 0 ∧ (x_cN b tZ 0 10 ≠ 0 ∧ eZ = x_cN b tZ 0 10) ∧ yZ = x_fr b tZ))
set_option maxRecDepth 100000 in
theorem c_Reader_readNumberX_3_1 (h : Hp) (b : Int → Int) (T : Nat → Int → Int) (hI : Inv h) (s : Int32) (sZ : Int) (sE : s.toInt = sZ) (sK : h.1 89 1 = s) (t : Int32) (tZ : Int) (tE : t.toInt = tZ) (tK : h.1 89 4 = t) (a : Int32) (aZ : Int) (aE : a.toInt = aZ) (aK : h.1 88 5 = a) (w : Int32) (wZ : Int) (wE : w.toInt = wZ) (wK : h.1 88 6 = w) (hy0 : TP h 90 sZ b) (hy1 : 0 ≤ tZ ∧ tZ ≤ sZ) : Ct y_Reader_readNumber b_Reader_readNumber 6 (some .boolean) 3 60 [.ref 88, .int 3, .int 1] h (q_Reader_readNumberX_3_1 h b T s sZ t tZ a aZ w wZ) := by
  refine ct_ow R_Reader [some (.ref 88), some (.int 3), some (.int 1), none, none, none] rfl (by decide) rfl (Nat.le_of_ble_eq_true rfl) ?_
  have f0 : fr S_Reader_readNumberX_3_1 h h := fr_rf
  have g1 : 0 ≤ sZ ∧ sZ ≤ 160 := inv_at hI sE sK.symm rfl
  have g2 : 0 ≤ tZ ∧ tZ ≤ 160 := inv_at hI tE tK.symm rfl
  refine V_aload_n 0 d_Reader_readNumber_0 rfl rfl ?_
  refine V_getR fa_Reader_12 sk_88 rfl d_Reader_readNumber_1 ?_
  refine N_callVV [] [] cv_Reader_48 sk_89 rfl d_Reader_readNumber_4 rfl (Nat.le_of_ble_eq_true rfl) (by decide) (by decide) (c_Tape_advanceX h b hI s sZ sE sK t tZ tE tK (TP_fr f0 (fun _ => rfl) hy0) (by omega)) (fun h4 p5 => ?_)
  obtain ⟨hI6, fh4, o8, o8Z, o8E, o8K, o9, o9Z, o9E, o9K, o10, o10Z, o10E, o10K, o11, o11Z, o11E, o11K, p5⟩ := p5
  have f7 : fr S_Reader_readNumberX_3_1 h h4 := fr_call f0 fh4 rfl
  have g12 : 0 ≤ o9Z ∧ o9Z ≤ 160 := inv_at hI6 o9E o9K.symm rfl
  have g13 : 0 ≤ o10Z ∧ o10Z ≤ 160 := inv_at hI6 o10E o10K.symm rfl
  refine V_aload_n 0 d_Reader_readNumber_7 rfl rfl ?_
  refine V_iconst 2 d_Reader_readNumber_8 (by decide) ?_
  refine N_callVI [.int 2] [] cv_Reader_84 sk_88 rfl d_Reader_readNumber_9 rfl (Nat.le_of_ble_eq_true rfl) (by decide) (by decide) (c_Reader_isKindX h4 hI6 2 2 tc_2 o8 o8Z o8E o8K o9 o9Z o9E o9K a aZ aE (kn_call fh4 aK rfl) w wZ wE (kn_call fh4 wK rfl)) (fun z14 h15 z14Z z14E p16 => ?_)
  obtain ⟨hI17, fh15, o19, o19Z, o19E, o19K, o20, o20Z, o20E, o20K, p16⟩ := p16
  have f18 : fr S_Reader_readNumberX_3_1 h h15 := fr_call f7 fh15 rfl
  refine V_if_ne 17 z14E d_Reader_readNumber_12 (by decide) (fun c21 => ?_) (fun c21 => ?_)
  ·
    replace p16 := kd_y p16 (by omega)
    replace p5 := adv_2 p5 (by omega)
    refine V_aload_n 0 d_Reader_readNumber_17 rfl rfl ?_
    refine V_getR fa_Reader_12 sk_88 rfl d_Reader_readNumber_18 ?_
    refine N_getK fa_Reader_122 sk_89 rfl d_Reader_readNumber_21 (kn_call fh15 o11K rfl) ?_
    refine V_istore_n 3 [some (.ref 88), some (.int 3), some (.int 1), some (.int o11), none, none] d_Reader_readNumber_24 rfl (by decide) rfl rfl ?_
    refine V_iload_n 3 d_Reader_readNumber_25 rfl rfl ?_
    refine V_gets (v := .ref 133) zL ws_Reader_125 d_Reader_readNumber_26 ?_
    refine V_iconst 3 d_Reader_readNumber_29 (by decide) ?_
    refine V_iload_n 1 d_Reader_readNumber_30 rfl rfl ?_
    refine V_imulw d_Reader_readNumber_31 (fun z22 z22e => ?_)
    obtain rfl : z22 = 9 := z22e.trans (by decide)
    refine V_iload_n 2 d_Reader_readNumber_32 rfl rfl ?_
    refine V_iaddw d_Reader_readNumber_33 (fun z23 z23e => ?_)
    obtain rfl : z23 = 10 := z23e.trans (by decide)
    refine V_tald roL tc_10 (by decide) d_Reader_readNumber_34 (fun z24 z24Z z24E z24e => ?_)
    obtain rfl : z24 = 0 := z24e.trans rfl
    refine V_icmp_lt 51 o11E tc_0 d_Reader_readNumber_35 (by decide) (fun c25 => ?_) (fun c25 => ?_)
    ·
      refine V_aload_n 0 d_Reader_readNumber_51 rfl rfl ?_
      refine V_iconst 3 d_Reader_readNumber_52 (by decide) ?_
      refine V_aload_n 0 d_Reader_readNumber_53 rfl rfl ?_
      refine V_getR fa_Reader_12 sk_88 rfl d_Reader_readNumber_54 ?_
      refine N_getK fa_Reader_81 sk_89 rfl d_Reader_readNumber_57 (kn_call fh15 o9K rfl) ?_
      refine N_callVI [.int 3, .int o9] [] cv_Reader_64 sk_88 rfl d_Reader_readNumber_60 rfl (Nat.le_of_ble_eq_true rfl) (by decide) (by decide) (c_Reader_isRefusedX h15 hI17 3 3 tc_3 o9 o9Z o9E) (fun z26 h27 z26Z z26E p28 => ?_)
      obtain ⟨hI29, fh27, o31, o31Z, o31E, o31K, o32, o32Z, o32E, o32K, p28⟩ := p28
      have f30 : fr S_Reader_readNumberX_3_1 h h27 := fr_call f18 fh27 rfl
      obtain ⟨z33, z33Z, z33E, z33e⟩ : ∃ (y : Int32) (Y : Int), y.toInt = Y ∧ y = h27.1 91 1 := ⟨_, _, rfl, rfl⟩
      exact V_zret rfl (by rw [z26E]; omega) d_Reader_readNumber_63 ⟨z26, rfl, ⟨hI29, f30, o8, o8Z, o8E, (kn_call fh27 (kn_call fh15 o8K rfl) rfl), o9, o9Z, o9E, (kn_call fh27 (kn_call fh15 o9K rfl) rfl), o10, o10Z, o10E, (kn_call fh27 (kn_call fh15 o10K rfl) rfl), o11, o11Z, o11E, (kn_call fh27 (kn_call fh15 o11K rfl) rfl), o31, o31Z, o31E, o31K, o32, o32Z, o32E, o32K, z33, z33Z, z33E, z33e.symm, (by have s1 := num_3 (lo := 0) (hi := 10) p5.2.2.1 p5.2.2.2.2.1 (by omega); exact Or.inr ⟨by omega, ⟨by omega, by omega⟩, by omega⟩)⟩⟩
    ·
      refine V_iload_n 3 d_Reader_readNumber_38 rfl rfl ?_
      refine V_gets (v := .ref 134) zM ws_Reader_128 d_Reader_readNumber_39 ?_
      refine V_iconst 3 d_Reader_readNumber_42 (by decide) ?_
      refine V_iload_n 1 d_Reader_readNumber_43 rfl rfl ?_
      refine V_imulw d_Reader_readNumber_44 (fun z34 z34e => ?_)
      obtain rfl : z34 = 9 := z34e.trans (by decide)
      refine V_iload_n 2 d_Reader_readNumber_45 rfl rfl ?_
      refine V_iaddw d_Reader_readNumber_46 (fun z35 z35e => ?_)
      obtain rfl : z35 = 10 := z35e.trans (by decide)
      refine V_tald roM tc_10 (by decide) d_Reader_readNumber_47 (fun z36 z36Z z36E z36e => ?_)
      obtain rfl : z36 = 10 := z36e.trans rfl
      refine V_icmp_le 64 o11E tc_10 d_Reader_readNumber_48 (by decide) (fun c37 => ?_) (fun c37 => ?_)
      ·
        refine V_aload_n 0 d_Reader_readNumber_64 rfl rfl ?_
        refine V_getR fa_Reader_25 sk_88 rfl d_Reader_readNumber_65 ?_
        refine V_iload_n 2 d_Reader_readNumber_68 rfl rfl ?_
        refine V_iload_n 3 d_Reader_readNumber_69 rfl rfl ?_
        refine N_iast sk_91 tc_1 (by omega) d_Reader_readNumber_70 (fun h38 eh38 => ?_)
        have hI39 : Inv h38 := inv_full hI17 eh38 rfl
        have f40 : fr S_Reader_readNumberX_3_1 h h38 := fr_put f18 eh38 rfl
        refine V_iload_n 2 d_Reader_readNumber_71 rfl rfl ?_
        refine V_if_ne 99 tc_1 d_Reader_readNumber_72 (by decide) (fun c41 => ?_) (fun c41 => ?_)
        ·
          refine V_iconst 0 d_Reader_readNumber_99 (by decide) ?_
          refine V_istore 4 [some (.ref 88), some (.int 3), some (.int 1), some (.int o11), some (.int 0), none] d_Reader_readNumber_100 (by decide) rfl rfl ?_
          refine V_iload_n 2 d_Reader_readNumber_102 rfl rfl ?_
          refine V_iconst 1 d_Reader_readNumber_103 (by decide) ?_
          refine V_icmp_ne 127 tc_1 tc_1 d_Reader_readNumber_104 (by decide) (fun c42 => ?_) (fun c42 => ?_)
          ·
            exact absurd c42 (by decide)
          ·
            refine V_iload_n 1 d_Reader_readNumber_107 rfl rfl ?_
            refine V_bipush 9 d_Reader_readNumber_108 (by decide) ?_
            refine V_icmp_ne 127 tc_3 tc_9 d_Reader_readNumber_110 (by decide) (fun c43 => ?_) (fun c43 => ?_)
            ·
              refine V_iconst 0 d_Reader_readNumber_127 (by decide) ?_
              refine V_istore 5 [some (.ref 88), some (.int 3), some (.int 1), some (.int o11), some (.int 0), some (.int 0)] d_Reader_readNumber_128 (by decide) rfl rfl ?_
              refine V_iload d_Reader_readNumber_130 rfl ?_
              refine V_if_ne 140 tc_0 d_Reader_readNumber_132 (by decide) (fun c44 => ?_) (fun c44 => ?_)
              ·
                exact absurd c44 (by decide)
              ·
                refine V_iload d_Reader_readNumber_135 rfl ?_
                refine V_if_eq 155 tc_0 d_Reader_readNumber_137 (by decide) (fun c45 => ?_) (fun c45 => ?_)
                ·
                  refine V_iconst 1 d_Reader_readNumber_155 (by decide) ?_
                  refine V_goto 160 d_Reader_readNumber_156 (by decide) ?_
                  exact V_zret rfl (by decide) d_Reader_readNumber_160 ⟨1, rfl, ⟨hI39, f40, o8, o8Z, o8E, (kn_ne eh38 (kn_call fh15 o8K rfl) (by decide)), o9, o9Z, o9E, (kn_ne eh38 (kn_call fh15 o9K rfl) (by decide)), o10, o10Z, o10E, (kn_ne eh38 (kn_call fh15 o10K rfl) (by decide)), o11, o11Z, o11E, (kn_ne eh38 (kn_call fh15 o11K rfl) (by decide)), o19, o19Z, o19E, (kn_ne eh38 o19K (by decide)), o20, o20Z, o20E, (kn_ne eh38 o20K (by decide)), o11, o11Z, o11E, (kn_put eh38), (by have s1 := num_0 (lo := 0) (hi := 10) p5.2.2.1 p5.2.2.2.2.1 ⟨by omega, by omega⟩; exact Or.inl ⟨rfl, by omega, by omega, by omega, by omega, by omega, by omega, by omega⟩)⟩⟩
                ·
                  exact absurd c45 (by decide)
            ·
              exact absurd c43 (by decide)
        ·
          exact absurd c41 (by decide)
      ·
        refine V_aload_n 0 d_Reader_readNumber_51 rfl rfl ?_
        refine V_iconst 3 d_Reader_readNumber_52 (by decide) ?_
        refine V_aload_n 0 d_Reader_readNumber_53 rfl rfl ?_
        refine V_getR fa_Reader_12 sk_88 rfl d_Reader_readNumber_54 ?_
        refine N_getK fa_Reader_81 sk_89 rfl d_Reader_readNumber_57 (kn_call fh15 o9K rfl) ?_
        refine N_callVI [.int 3, .int o9] [] cv_Reader_64 sk_88 rfl d_Reader_readNumber_60 rfl (Nat.le_of_ble_eq_true rfl) (by decide) (by decide) (c_Reader_isRefusedX h15 hI17 3 3 tc_3 o9 o9Z o9E) (fun z46 h47 z46Z z46E p48 => ?_)
        obtain ⟨hI49, fh47, o51, o51Z, o51E, o51K, o52, o52Z, o52E, o52K, p48⟩ := p48
        have f50 : fr S_Reader_readNumberX_3_1 h h47 := fr_call f18 fh47 rfl
        obtain ⟨z53, z53Z, z53E, z53e⟩ : ∃ (y : Int32) (Y : Int), y.toInt = Y ∧ y = h47.1 91 1 := ⟨_, _, rfl, rfl⟩
        exact V_zret rfl (by rw [z46E]; omega) d_Reader_readNumber_63 ⟨z46, rfl, ⟨hI49, f50, o8, o8Z, o8E, (kn_call fh47 (kn_call fh15 o8K rfl) rfl), o9, o9Z, o9E, (kn_call fh47 (kn_call fh15 o9K rfl) rfl), o10, o10Z, o10E, (kn_call fh47 (kn_call fh15 o10K rfl) rfl), o11, o11Z, o11E, (kn_call fh47 (kn_call fh15 o11K rfl) rfl), o51, o51Z, o51E, o51K, o52, o52Z, o52E, o52K, z53, z53Z, z53E, z53e.symm, (by have s1 := num_3 (lo := 0) (hi := 10) p5.2.2.1 p5.2.2.2.2.1 (by omega); exact Or.inr ⟨by omega, ⟨by omega, by omega⟩, by omega⟩)⟩⟩
  ·
    have hk9 := num_k 0 10 p5 p16 (by omega)
    refine V_iconst 0 d_Reader_readNumber_15 (by decide) ?_
    obtain ⟨z54, z54Z, z54E, z54e⟩ : ∃ (y : Int32) (Y : Int), y.toInt = Y ∧ y = h15.1 91 1 := ⟨_, _, rfl, rfl⟩
    exact V_zret rfl (by decide) d_Reader_readNumber_16 ⟨0, rfl, ⟨hI17, f18, o8, o8Z, o8E, (kn_call fh15 o8K rfl), o9, o9Z, o9E, (kn_call fh15 o9K rfl), o10, o10Z, o10E, (kn_call fh15 o10K rfl), o11, o11Z, o11E, (kn_call fh15 o11K rfl), o19, o19Z, o19E, o19K, o20, o20Z, o20E, o20K, z54, z54Z, z54E, z54e.symm, (Or.inr ⟨tc_0, ⟨hk9.1, hk9.2.1⟩, hk9.2.2⟩)⟩⟩
def S_Reader_readNumberX_4_0 : List (Nat × Option Nat) := [(89, some 2), (89, some 3), (89, some 4), (89, some 5), (88, some 5), (88, some 6), (91, some 0)]
abbrev q_Reader_readNumberX_4_0 (h : Hp) (b : Int → Int) (T : Nat → Int → Int) (s : Int32) (sZ : Int) (t : Int32) (tZ : Int) (a : Int32) (aZ : Int) (w : Int32) (wZ : Int) (z : Int32) (zZ : Int) : Option Value → Hp → Prop := pInt (fun r h' => Inv h' ∧ fr S_Reader_readNumberX_4_0 h h' ∧ ∃ (k : Int32) (kZ : Int), k.toInt = kZ ∧ h'.1 89 2 = k ∧ ∃ (f : Int32) (fZ : Int), f.toInt = fZ ∧ h'.1 89 3 = f ∧ ∃ (u : Int32) (uZ : Int), u.toInt = uZ ∧ h'.1 89 4 = u ∧ ∃ (v : Int32) (vZ : Int), v.toInt = vZ ∧ h'.1 89 5 = v ∧ ∃ (e : Int32) (eZ : Int), e.toInt = eZ ∧ h'.1 88 6 = e ∧ ∃ (y : Int32) (yZ : Int), y.toInt = yZ ∧ h'.1 88 5 = y ∧ ∃ (x : Int32) (xZ : Int), x.toInt = xZ ∧ h'.1 91 0 = x ∧ (r.toInt = 1 ∧ x_cN b tZ 0 15 = 0 ∧ x_c4 (T 4 (x_vl b tZ)) = 0 ∧ uZ = x_en b tZ ∧ xZ = x_vl b tZ ∧ eZ = wZ ∧ yZ = aZ ∧ tZ < uZ ∧ uZ ≤ sZ ∨ r.toInt = 0 ∧ (x_cN b tZ 0 15 ≠ 0 ∧ eZ = x_cN b tZ 0 15 ∨ x_cN b tZ 0 15 = 0 ∧ x_c4 (T 4 (x_vl b tZ)) ≠ 0 ∧ eZ = x_c4 (T 4 (x_vl b tZ))) ∧ yZ = x_fr b tZ))
set_option maxRecDepth 100000 in
theorem c_Reader_readNumberX_4_0 (h : Hp) (b : Int → Int) (T : Nat → Int → Int) (hI : Inv h) (s : Int32) (sZ : Int) (sE : s.toInt = sZ) (sK : h.1 89 1 = s) (t : Int32) (tZ : Int) (tE : t.toInt = tZ) (tK : h.1 89 4 = t) (a : Int32) (aZ : Int) (aE : a.toInt = aZ) (aK : h.1 88 5 = a) (w : Int32) (wZ : Int) (wE : w.toInt = wZ) (wK : h.1 88 6 = w) (z : Int32) (zZ : Int) (zE : z.toInt = zZ) (zK : h.1 92 4 = z) (hy0 : TP h 90 sZ b) (hy1 : 0 ≤ tZ ∧ tZ ≤ sZ) (hy2 : x_TB z (T 4)) : Ct y_Reader_readNumber b_Reader_readNumber 6 (some .boolean) 3 60 [.ref 88, .int 4, .int 0] h (q_Reader_readNumberX_4_0 h b T s sZ t tZ a aZ w wZ z zZ) := by
  refine ct_ow R_Reader [some (.ref 88), some (.int 4), some (.int 0), none, none, none] rfl (by decide) rfl (Nat.le_of_ble_eq_true rfl) ?_
  have f0 : fr S_Reader_readNumberX_4_0 h h := fr_rf
  have g1 : 0 ≤ sZ ∧ sZ ≤ 160 := inv_at hI sE sK.symm rfl
  have g2 : 0 ≤ tZ ∧ tZ ≤ 160 := inv_at hI tE tK.symm rfl
  refine V_aload_n 0 d_Reader_readNumber_0 rfl rfl ?_
  refine V_getR fa_Reader_12 sk_88 rfl d_Reader_readNumber_1 ?_
  refine N_callVV [] [] cv_Reader_48 sk_89 rfl d_Reader_readNumber_4 rfl (Nat.le_of_ble_eq_true rfl) (by decide) (by decide) (c_Tape_advanceX h b hI s sZ sE sK t tZ tE tK (TP_fr f0 (fun _ => rfl) hy0) (by omega)) (fun h4 p5 => ?_)
  obtain ⟨hI6, fh4, o8, o8Z, o8E, o8K, o9, o9Z, o9E, o9K, o10, o10Z, o10E, o10K, o11, o11Z, o11E, o11K, p5⟩ := p5
  have f7 : fr S_Reader_readNumberX_4_0 h h4 := fr_call f0 fh4 rfl
  have g12 : 0 ≤ o9Z ∧ o9Z ≤ 160 := inv_at hI6 o9E o9K.symm rfl
  have g13 : 0 ≤ o10Z ∧ o10Z ≤ 160 := inv_at hI6 o10E o10K.symm rfl
  refine V_aload_n 0 d_Reader_readNumber_7 rfl rfl ?_
  refine V_iconst 2 d_Reader_readNumber_8 (by decide) ?_
  refine N_callVI [.int 2] [] cv_Reader_84 sk_88 rfl d_Reader_readNumber_9 rfl (Nat.le_of_ble_eq_true rfl) (by decide) (by decide) (c_Reader_isKindX h4 hI6 2 2 tc_2 o8 o8Z o8E o8K o9 o9Z o9E o9K a aZ aE (kn_call fh4 aK rfl) w wZ wE (kn_call fh4 wK rfl)) (fun z14 h15 z14Z z14E p16 => ?_)
  obtain ⟨hI17, fh15, o19, o19Z, o19E, o19K, o20, o20Z, o20E, o20K, p16⟩ := p16
  have f18 : fr S_Reader_readNumberX_4_0 h h15 := fr_call f7 fh15 rfl
  refine V_if_ne 17 z14E d_Reader_readNumber_12 (by decide) (fun c21 => ?_) (fun c21 => ?_)
  ·
    replace p16 := kd_y p16 (by omega)
    replace p5 := adv_2 p5 (by omega)
    refine V_aload_n 0 d_Reader_readNumber_17 rfl rfl ?_
    refine V_getR fa_Reader_12 sk_88 rfl d_Reader_readNumber_18 ?_
    refine N_getK fa_Reader_122 sk_89 rfl d_Reader_readNumber_21 (kn_call fh15 o11K rfl) ?_
    refine V_istore_n 3 [some (.ref 88), some (.int 4), some (.int 0), some (.int o11), none, none] d_Reader_readNumber_24 rfl (by decide) rfl rfl ?_
    refine V_iload_n 3 d_Reader_readNumber_25 rfl rfl ?_
    refine V_gets (v := .ref 133) zL ws_Reader_125 d_Reader_readNumber_26 ?_
    refine V_iconst 3 d_Reader_readNumber_29 (by decide) ?_
    refine V_iload_n 1 d_Reader_readNumber_30 rfl rfl ?_
    refine V_imulw d_Reader_readNumber_31 (fun z22 z22e => ?_)
    obtain rfl : z22 = 12 := z22e.trans (by decide)
    refine V_iload_n 2 d_Reader_readNumber_32 rfl rfl ?_
    refine V_iaddw d_Reader_readNumber_33 (fun z23 z23e => ?_)
    obtain rfl : z23 = 12 := z23e.trans (by decide)
    refine V_tald roL tc_12 (by decide) d_Reader_readNumber_34 (fun z24 z24Z z24E z24e => ?_)
    obtain rfl : z24 = 0 := z24e.trans rfl
    refine V_icmp_lt 51 o11E tc_0 d_Reader_readNumber_35 (by decide) (fun c25 => ?_) (fun c25 => ?_)
    ·
      refine V_aload_n 0 d_Reader_readNumber_51 rfl rfl ?_
      refine V_iconst 3 d_Reader_readNumber_52 (by decide) ?_
      refine V_aload_n 0 d_Reader_readNumber_53 rfl rfl ?_
      refine V_getR fa_Reader_12 sk_88 rfl d_Reader_readNumber_54 ?_
      refine N_getK fa_Reader_81 sk_89 rfl d_Reader_readNumber_57 (kn_call fh15 o9K rfl) ?_
      refine N_callVI [.int 3, .int o9] [] cv_Reader_64 sk_88 rfl d_Reader_readNumber_60 rfl (Nat.le_of_ble_eq_true rfl) (by decide) (by decide) (c_Reader_isRefusedX h15 hI17 3 3 tc_3 o9 o9Z o9E) (fun z26 h27 z26Z z26E p28 => ?_)
      obtain ⟨hI29, fh27, o31, o31Z, o31E, o31K, o32, o32Z, o32E, o32K, p28⟩ := p28
      have f30 : fr S_Reader_readNumberX_4_0 h h27 := fr_call f18 fh27 rfl
      obtain ⟨z33, z33Z, z33E, z33e⟩ : ∃ (y : Int32) (Y : Int), y.toInt = Y ∧ y = h27.1 91 0 := ⟨_, _, rfl, rfl⟩
      exact V_zret rfl (by rw [z26E]; omega) d_Reader_readNumber_63 ⟨z26, rfl, ⟨hI29, f30, o8, o8Z, o8E, (kn_call fh27 (kn_call fh15 o8K rfl) rfl), o9, o9Z, o9E, (kn_call fh27 (kn_call fh15 o9K rfl) rfl), o10, o10Z, o10E, (kn_call fh27 (kn_call fh15 o10K rfl) rfl), o11, o11Z, o11E, (kn_call fh27 (kn_call fh15 o11K rfl) rfl), o31, o31Z, o31E, o31K, o32, o32Z, o32E, o32K, z33, z33Z, z33E, z33e.symm, (by have s1 := num_3 (lo := 0) (hi := 15) p5.2.2.1 p5.2.2.2.2.1 (by omega); exact Or.inr ⟨by omega, Or.inl ⟨by omega, by omega⟩, by omega⟩)⟩⟩
    ·
      refine V_iload_n 3 d_Reader_readNumber_38 rfl rfl ?_
      refine V_gets (v := .ref 134) zM ws_Reader_128 d_Reader_readNumber_39 ?_
      refine V_iconst 3 d_Reader_readNumber_42 (by decide) ?_
      refine V_iload_n 1 d_Reader_readNumber_43 rfl rfl ?_
      refine V_imulw d_Reader_readNumber_44 (fun z34 z34e => ?_)
      obtain rfl : z34 = 12 := z34e.trans (by decide)
      refine V_iload_n 2 d_Reader_readNumber_45 rfl rfl ?_
      refine V_iaddw d_Reader_readNumber_46 (fun z35 z35e => ?_)
      obtain rfl : z35 = 12 := z35e.trans (by decide)
      refine V_tald roM tc_12 (by decide) d_Reader_readNumber_47 (fun z36 z36Z z36E z36e => ?_)
      obtain rfl : z36 = 15 := z36e.trans rfl
      refine V_icmp_le 64 o11E tc_15 d_Reader_readNumber_48 (by decide) (fun c37 => ?_) (fun c37 => ?_)
      ·
        refine V_aload_n 0 d_Reader_readNumber_64 rfl rfl ?_
        refine V_getR fa_Reader_25 sk_88 rfl d_Reader_readNumber_65 ?_
        refine V_iload_n 2 d_Reader_readNumber_68 rfl rfl ?_
        refine V_iload_n 3 d_Reader_readNumber_69 rfl rfl ?_
        refine N_iast sk_91 tc_0 (by omega) d_Reader_readNumber_70 (fun h38 eh38 => ?_)
        have hI39 : Inv h38 := inv_full hI17 eh38 rfl
        have f40 : fr S_Reader_readNumberX_4_0 h h38 := fr_put f18 eh38 rfl
        refine V_iload_n 2 d_Reader_readNumber_71 rfl rfl ?_
        refine V_if_ne 99 tc_0 d_Reader_readNumber_72 (by decide) (fun c41 => ?_) (fun c41 => ?_)
        ·
          exact absurd c41 (by decide)
        ·
          refine V_iload_n 1 d_Reader_readNumber_75 rfl rfl ?_
          refine N_callSI [.int 4] [] cs_Reader_131 d_Reader_readNumber_76 rfl (Nat.le_of_ble_eq_true rfl) (by decide) (by decide) (c_Reader_isOfOneX_4 h38) (fun z42 h43 z42Z z42E p44 => ?_)
          obtain ⟨eh43, p44⟩ := p44
          subst eh43
          refine V_if_eq 99 z42E d_Reader_readNumber_79 (by decide) (fun c45 => ?_) (fun c45 => ?_)
          ·
            refine V_iconst 0 d_Reader_readNumber_99 (by decide) ?_
            refine V_istore 4 [some (.ref 88), some (.int 4), some (.int 0), some (.int o11), some (.int 0), none] d_Reader_readNumber_100 (by decide) rfl rfl ?_
            refine V_iload_n 2 d_Reader_readNumber_102 rfl rfl ?_
            refine V_iconst 1 d_Reader_readNumber_103 (by decide) ?_
            refine V_icmp_ne 127 tc_0 tc_1 d_Reader_readNumber_104 (by decide) (fun c46 => ?_) (fun c46 => ?_)
            ·
              refine V_iconst 0 d_Reader_readNumber_127 (by decide) ?_
              refine V_istore 5 [some (.ref 88), some (.int 4), some (.int 0), some (.int o11), some (.int 0), some (.int 0)] d_Reader_readNumber_128 (by decide) rfl rfl ?_
              refine V_iload d_Reader_readNumber_130 rfl ?_
              refine V_if_ne 140 tc_0 d_Reader_readNumber_132 (by decide) (fun c47 => ?_) (fun c47 => ?_)
              ·
                exact absurd c47 (by decide)
              ·
                refine V_iload d_Reader_readNumber_135 rfl ?_
                refine V_if_eq 155 tc_0 d_Reader_readNumber_137 (by decide) (fun c48 => ?_) (fun c48 => ?_)
                ·
                  refine V_iconst 1 d_Reader_readNumber_155 (by decide) ?_
                  refine V_goto 160 d_Reader_readNumber_156 (by decide) ?_
                  exact V_zret rfl (by decide) d_Reader_readNumber_160 ⟨1, rfl, ⟨hI39, f40, o8, o8Z, o8E, (kn_ne eh38 (kn_call fh15 o8K rfl) (by decide)), o9, o9Z, o9E, (kn_ne eh38 (kn_call fh15 o9K rfl) (by decide)), o10, o10Z, o10E, (kn_ne eh38 (kn_call fh15 o10K rfl) (by decide)), o11, o11Z, o11E, (kn_ne eh38 (kn_call fh15 o11K rfl) (by decide)), o19, o19Z, o19E, (kn_ne eh38 o19K (by decide)), o20, o20Z, o20E, (kn_ne eh38 o20K (by decide)), o11, o11Z, o11E, (kn_put eh38), (by have s1 := num_0 (lo := 0) (hi := 15) p5.2.2.1 p5.2.2.2.2.1 ⟨by omega, by omega⟩; have s2 := x_c4_s (T 4 (x_vl b tZ)); exact Or.inl ⟨rfl, by omega, by omega, by omega, by omega, by omega, by omega, by omega, by omega⟩)⟩⟩
                ·
                  exact absurd c48 (by decide)
            ·
              exact absurd c46 (by decide)
          ·
            refine V_aload_n 0 d_Reader_readNumber_82 rfl rfl ?_
            refine V_getR fa_Reader_29 sk_88 rfl d_Reader_readNumber_83 ?_
            refine V_iload_n 1 d_Reader_readNumber_86 rfl rfl ?_
            refine N_ialdK sk_92 tc_4 (by omega) d_Reader_readNumber_87 (kn_ne eh38 (kn_call fh15 (kn_call fh4 zK rfl) rfl) (by decide)) ?_
            refine V_iload_n 3 d_Reader_readNumber_88 rfl rfl ?_
            refine N_ishr d_Reader_readNumber_89 (fun z50 z50Z z50E z50e => ?_)
            refine V_iconst 1 d_Reader_readNumber_90 (by decide) ?_
            refine N_iand d_Reader_readNumber_91 (fun z51 z51Z z51E z51e => ?_)
            have g52 : z51Z = T 4 o11Z := x_bt_of hy2 (by omega) (by omega) o11E z51E (by assumption) (by assumption)
            have g53 : T 4 o11Z = T 4 (x_vl b tZ) := congrArg (T 4) (by omega)
            refine V_if_eq 99 z51E d_Reader_readNumber_92 (by decide) (fun c54 => ?_) (fun c54 => ?_)
            ·
              refine V_iconst 0 d_Reader_readNumber_99 (by decide) ?_
              refine V_istore 4 [some (.ref 88), some (.int 4), some (.int 0), some (.int o11), some (.int 0), none] d_Reader_readNumber_100 (by decide) rfl rfl ?_
              refine V_iload_n 2 d_Reader_readNumber_102 rfl rfl ?_
              refine V_iconst 1 d_Reader_readNumber_103 (by decide) ?_
              refine V_icmp_ne 127 tc_0 tc_1 d_Reader_readNumber_104 (by decide) (fun c55 => ?_) (fun c55 => ?_)
              ·
                refine V_iconst 0 d_Reader_readNumber_127 (by decide) ?_
                refine V_istore 5 [some (.ref 88), some (.int 4), some (.int 0), some (.int o11), some (.int 0), some (.int 0)] d_Reader_readNumber_128 (by decide) rfl rfl ?_
                refine V_iload d_Reader_readNumber_130 rfl ?_
                refine V_if_ne 140 tc_0 d_Reader_readNumber_132 (by decide) (fun c56 => ?_) (fun c56 => ?_)
                ·
                  exact absurd c56 (by decide)
                ·
                  refine V_iload d_Reader_readNumber_135 rfl ?_
                  refine V_if_eq 155 tc_0 d_Reader_readNumber_137 (by decide) (fun c57 => ?_) (fun c57 => ?_)
                  ·
                    refine V_iconst 1 d_Reader_readNumber_155 (by decide) ?_
                    refine V_goto 160 d_Reader_readNumber_156 (by decide) ?_
                    exact V_zret rfl (by decide) d_Reader_readNumber_160 ⟨1, rfl, ⟨hI39, f40, o8, o8Z, o8E, (kn_ne eh38 (kn_call fh15 o8K rfl) (by decide)), o9, o9Z, o9E, (kn_ne eh38 (kn_call fh15 o9K rfl) (by decide)), o10, o10Z, o10E, (kn_ne eh38 (kn_call fh15 o10K rfl) (by decide)), o11, o11Z, o11E, (kn_ne eh38 (kn_call fh15 o11K rfl) (by decide)), o19, o19Z, o19E, (kn_ne eh38 o19K (by decide)), o20, o20Z, o20E, (kn_ne eh38 o20K (by decide)), o11, o11Z, o11E, (kn_put eh38), (by have s1 := num_0 (lo := 0) (hi := 15) p5.2.2.1 p5.2.2.2.2.1 ⟨by omega, by omega⟩; have s2 := x_c4_s (T 4 (x_vl b tZ)); exact Or.inl ⟨rfl, by omega, by omega, by omega, by omega, by omega, by omega, by omega, by omega⟩)⟩⟩
                  ·
                    exact absurd c57 (by decide)
              ·
                exact absurd c55 (by decide)
            ·
              refine V_iconst 1 d_Reader_readNumber_95 (by decide) ?_
              refine V_goto 100 d_Reader_readNumber_96 (by decide) ?_
              refine V_istore 4 [some (.ref 88), some (.int 4), some (.int 0), some (.int o11), some (.int 1), none] d_Reader_readNumber_100 (by decide) rfl rfl ?_
              refine V_iload_n 2 d_Reader_readNumber_102 rfl rfl ?_
              refine V_iconst 1 d_Reader_readNumber_103 (by decide) ?_
              refine V_icmp_ne 127 tc_0 tc_1 d_Reader_readNumber_104 (by decide) (fun c58 => ?_) (fun c58 => ?_)
              ·
                refine V_iconst 0 d_Reader_readNumber_127 (by decide) ?_
                refine V_istore 5 [some (.ref 88), some (.int 4), some (.int 0), some (.int o11), some (.int 1), some (.int 0)] d_Reader_readNumber_128 (by decide) rfl rfl ?_
                refine V_iload d_Reader_readNumber_130 rfl ?_
                refine V_if_ne 140 tc_1 d_Reader_readNumber_132 (by decide) (fun c59 => ?_) (fun c59 => ?_)
                ·
                  refine V_aload_n 0 d_Reader_readNumber_140 rfl rfl ?_
                  refine V_iconst 4 d_Reader_readNumber_141 (by decide) ?_
                  refine V_aload_n 0 d_Reader_readNumber_142 rfl rfl ?_
                  refine V_getR fa_Reader_12 sk_88 rfl d_Reader_readNumber_143 ?_
                  refine N_getK fa_Reader_81 sk_89 rfl d_Reader_readNumber_146 (kn_ne eh38 (kn_call fh15 o9K rfl) (by decide)) ?_
                  refine N_callVI [.int 4, .int o9] [] cv_Reader_64 sk_88 rfl d_Reader_readNumber_149 rfl (Nat.le_of_ble_eq_true rfl) (by decide) (by decide) (c_Reader_isRefusedX h38 hI39 4 4 tc_4 o9 o9Z o9E) (fun z60 h61 z60Z z60E p62 => ?_)
                  obtain ⟨hI63, fh61, o65, o65Z, o65E, o65K, o66, o66Z, o66E, o66K, p62⟩ := p62
                  have f64 : fr S_Reader_readNumberX_4_0 h h61 := fr_call f40 fh61 rfl
                  refine V_if_eq 159 z60E d_Reader_readNumber_152 (by decide) (fun c67 => ?_) (fun c67 => ?_)
                  ·
                    refine V_iconst 0 d_Reader_readNumber_159 (by decide) ?_
                    exact V_zret rfl (by decide) d_Reader_readNumber_160 ⟨0, rfl, ⟨hI63, f64, o8, o8Z, o8E, (kn_call fh61 (kn_ne eh38 (kn_call fh15 o8K rfl) (by decide)) rfl), o9, o9Z, o9E, (kn_call fh61 (kn_ne eh38 (kn_call fh15 o9K rfl) (by decide)) rfl), o10, o10Z, o10E, (kn_call fh61 (kn_ne eh38 (kn_call fh15 o10K rfl) (by decide)) rfl), o11, o11Z, o11E, (kn_call fh61 (kn_ne eh38 (kn_call fh15 o11K rfl) (by decide)) rfl), o65, o65Z, o65E, o65K, o66, o66Z, o66E, o66K, o11, o11Z, o11E, (kn_call fh61 (kn_put eh38) rfl), (by have s1 := num_0 (lo := 0) (hi := 15) p5.2.2.1 p5.2.2.2.2.1 ⟨by omega, by omega⟩; have s2 := x_c4_s (T 4 (x_vl b tZ)); exact Or.inr ⟨tc_0, Or.inr ⟨by omega, by omega, by omega⟩, by omega⟩)⟩⟩
                  ·
                    refine V_iconst 1 d_Reader_readNumber_155 (by decide) ?_
                    refine V_goto 160 d_Reader_readNumber_156 (by decide) ?_
                    exact V_zret rfl (by decide) d_Reader_readNumber_160 ⟨1, rfl, ⟨hI63, f64, o8, o8Z, o8E, (kn_call fh61 (kn_ne eh38 (kn_call fh15 o8K rfl) (by decide)) rfl), o9, o9Z, o9E, (kn_call fh61 (kn_ne eh38 (kn_call fh15 o9K rfl) (by decide)) rfl), o10, o10Z, o10E, (kn_call fh61 (kn_ne eh38 (kn_call fh15 o10K rfl) (by decide)) rfl), o11, o11Z, o11E, (kn_call fh61 (kn_ne eh38 (kn_call fh15 o11K rfl) (by decide)) rfl), o65, o65Z, o65E, o65K, o66, o66Z, o66E, o66K, o11, o11Z, o11E, (kn_call fh61 (kn_put eh38) rfl), (by have s1 := num_0 (lo := 0) (hi := 15) p5.2.2.1 p5.2.2.2.2.1 ⟨by omega, by omega⟩; have s2 := x_c4_s (T 4 (x_vl b tZ)); exact Or.inl ⟨rfl, by omega, by omega, by omega, by omega, by omega, by omega, by omega, by omega⟩)⟩⟩
                ·
                  exact absurd c59 (by decide)
              ·
                exact absurd c58 (by decide)
      ·
        refine V_aload_n 0 d_Reader_readNumber_51 rfl rfl ?_
        refine V_iconst 3 d_Reader_readNumber_52 (by decide) ?_
        refine V_aload_n 0 d_Reader_readNumber_53 rfl rfl ?_
        refine V_getR fa_Reader_12 sk_88 rfl d_Reader_readNumber_54 ?_
        refine N_getK fa_Reader_81 sk_89 rfl d_Reader_readNumber_57 (kn_call fh15 o9K rfl) ?_
        refine N_callVI [.int 3, .int o9] [] cv_Reader_64 sk_88 rfl d_Reader_readNumber_60 rfl (Nat.le_of_ble_eq_true rfl) (by decide) (by decide) (c_Reader_isRefusedX h15 hI17 3 3 tc_3 o9 o9Z o9E) (fun z68 h69 z68Z z68E p70 => ?_)
        obtain ⟨hI71, fh69, o73, o73Z, o73E, o73K, o74, o74Z, o74E, o74K, p70⟩ := p70
        have f72 : fr S_Reader_readNumberX_4_0 h h69 := fr_call f18 fh69 rfl
        obtain ⟨z75, z75Z, z75E, z75e⟩ : ∃ (y : Int32) (Y : Int), y.toInt = Y ∧ y = h69.1 91 0 := ⟨_, _, rfl, rfl⟩
        exact V_zret rfl (by rw [z68E]; omega) d_Reader_readNumber_63 ⟨z68, rfl, ⟨hI71, f72, o8, o8Z, o8E, (kn_call fh69 (kn_call fh15 o8K rfl) rfl), o9, o9Z, o9E, (kn_call fh69 (kn_call fh15 o9K rfl) rfl), o10, o10Z, o10E, (kn_call fh69 (kn_call fh15 o10K rfl) rfl), o11, o11Z, o11E, (kn_call fh69 (kn_call fh15 o11K rfl) rfl), o73, o73Z, o73E, o73K, o74, o74Z, o74E, o74K, z75, z75Z, z75E, z75e.symm, (by have s1 := num_3 (lo := 0) (hi := 15) p5.2.2.1 p5.2.2.2.2.1 (by omega); exact Or.inr ⟨by omega, Or.inl ⟨by omega, by omega⟩, by omega⟩)⟩⟩
  ·
    have hk9 := num_k 0 15 p5 p16 (by omega)
    refine V_iconst 0 d_Reader_readNumber_15 (by decide) ?_
    obtain ⟨z76, z76Z, z76E, z76e⟩ : ∃ (y : Int32) (Y : Int), y.toInt = Y ∧ y = h15.1 91 0 := ⟨_, _, rfl, rfl⟩
    exact V_zret rfl (by decide) d_Reader_readNumber_16 ⟨0, rfl, ⟨hI17, f18, o8, o8Z, o8E, (kn_call fh15 o8K rfl), o9, o9Z, o9E, (kn_call fh15 o9K rfl), o10, o10Z, o10E, (kn_call fh15 o10K rfl), o11, o11Z, o11E, (kn_call fh15 o11K rfl), o19, o19Z, o19E, o19K, o20, o20Z, o20E, o20K, z76, z76Z, z76E, z76e.symm, (Or.inr ⟨tc_0, Or.inl ⟨hk9.1, hk9.2.1⟩, hk9.2.2⟩)⟩⟩
def S_Reader_readNumberX_4_1 : List (Nat × Option Nat) := [(89, some 2), (89, some 3), (89, some 4), (89, some 5), (88, some 5), (88, some 6), (91, some 1)]
abbrev q_Reader_readNumberX_4_1 (h : Hp) (b : Int → Int) (T : Nat → Int → Int) (s : Int32) (sZ : Int) (t : Int32) (tZ : Int) (a : Int32) (aZ : Int) (w : Int32) (wZ : Int) : Option Value → Hp → Prop := pInt (fun r h' => Inv h' ∧ fr S_Reader_readNumberX_4_1 h h' ∧ ∃ (k : Int32) (kZ : Int), k.toInt = kZ ∧ h'.1 89 2 = k ∧ ∃ (f : Int32) (fZ : Int), f.toInt = fZ ∧ h'.1 89 3 = f ∧ ∃ (u : Int32) (uZ : Int), u.toInt = uZ ∧ h'.1 89 4 = u ∧ ∃ (v : Int32) (vZ : Int), v.toInt = vZ ∧ h'.1 89 5 = v ∧ ∃ (e : Int32) (eZ : Int), e.toInt = eZ ∧ h'.1 88 6 = e ∧ ∃ (y : Int32) (yZ : Int), y.toInt = yZ ∧ h'.1 88 5 = y ∧ ∃ (x : Int32) (xZ : Int), x.toInt = xZ ∧ h'.1 91 1 = x ∧ (r.toInt = 1 ∧ x_cN b tZ 0 3 = 0 ∧ uZ = x_en b tZ ∧ xZ = x_vl b tZ ∧ eZ = wZ ∧ yZ = aZ ∧ tZ < uZ ∧ uZ ≤ sZ ∨ r.toInt = 0 ∧ (x_cN b tZ 0 3 ≠ 0 ∧ eZ = x_cN b tZ 0 3) ∧ yZ = x_fr b tZ))
set_option maxRecDepth 100000 in
theorem c_Reader_readNumberX_4_1 (h : Hp) (b : Int → Int) (T : Nat → Int → Int) (hI : Inv h) (s : Int32) (sZ : Int) (sE : s.toInt = sZ) (sK : h.1 89 1 = s) (t : Int32) (tZ : Int) (tE : t.toInt = tZ) (tK : h.1 89 4 = t) (a : Int32) (aZ : Int) (aE : a.toInt = aZ) (aK : h.1 88 5 = a) (w : Int32) (wZ : Int) (wE : w.toInt = wZ) (wK : h.1 88 6 = w) (hy0 : TP h 90 sZ b) (hy1 : 0 ≤ tZ ∧ tZ ≤ sZ) : Ct y_Reader_readNumber b_Reader_readNumber 6 (some .boolean) 3 60 [.ref 88, .int 4, .int 1] h (q_Reader_readNumberX_4_1 h b T s sZ t tZ a aZ w wZ) := by
  refine ct_ow R_Reader [some (.ref 88), some (.int 4), some (.int 1), none, none, none] rfl (by decide) rfl (Nat.le_of_ble_eq_true rfl) ?_
  have f0 : fr S_Reader_readNumberX_4_1 h h := fr_rf
  have g1 : 0 ≤ sZ ∧ sZ ≤ 160 := inv_at hI sE sK.symm rfl
  have g2 : 0 ≤ tZ ∧ tZ ≤ 160 := inv_at hI tE tK.symm rfl
  refine V_aload_n 0 d_Reader_readNumber_0 rfl rfl ?_
  refine V_getR fa_Reader_12 sk_88 rfl d_Reader_readNumber_1 ?_
  refine N_callVV [] [] cv_Reader_48 sk_89 rfl d_Reader_readNumber_4 rfl (Nat.le_of_ble_eq_true rfl) (by decide) (by decide) (c_Tape_advanceX h b hI s sZ sE sK t tZ tE tK (TP_fr f0 (fun _ => rfl) hy0) (by omega)) (fun h4 p5 => ?_)
  obtain ⟨hI6, fh4, o8, o8Z, o8E, o8K, o9, o9Z, o9E, o9K, o10, o10Z, o10E, o10K, o11, o11Z, o11E, o11K, p5⟩ := p5
  have f7 : fr S_Reader_readNumberX_4_1 h h4 := fr_call f0 fh4 rfl
  have g12 : 0 ≤ o9Z ∧ o9Z ≤ 160 := inv_at hI6 o9E o9K.symm rfl
  have g13 : 0 ≤ o10Z ∧ o10Z ≤ 160 := inv_at hI6 o10E o10K.symm rfl
  refine V_aload_n 0 d_Reader_readNumber_7 rfl rfl ?_
  refine V_iconst 2 d_Reader_readNumber_8 (by decide) ?_
  refine N_callVI [.int 2] [] cv_Reader_84 sk_88 rfl d_Reader_readNumber_9 rfl (Nat.le_of_ble_eq_true rfl) (by decide) (by decide) (c_Reader_isKindX h4 hI6 2 2 tc_2 o8 o8Z o8E o8K o9 o9Z o9E o9K a aZ aE (kn_call fh4 aK rfl) w wZ wE (kn_call fh4 wK rfl)) (fun z14 h15 z14Z z14E p16 => ?_)
  obtain ⟨hI17, fh15, o19, o19Z, o19E, o19K, o20, o20Z, o20E, o20K, p16⟩ := p16
  have f18 : fr S_Reader_readNumberX_4_1 h h15 := fr_call f7 fh15 rfl
  refine V_if_ne 17 z14E d_Reader_readNumber_12 (by decide) (fun c21 => ?_) (fun c21 => ?_)
  ·
    replace p16 := kd_y p16 (by omega)
    replace p5 := adv_2 p5 (by omega)
    refine V_aload_n 0 d_Reader_readNumber_17 rfl rfl ?_
    refine V_getR fa_Reader_12 sk_88 rfl d_Reader_readNumber_18 ?_
    refine N_getK fa_Reader_122 sk_89 rfl d_Reader_readNumber_21 (kn_call fh15 o11K rfl) ?_
    refine V_istore_n 3 [some (.ref 88), some (.int 4), some (.int 1), some (.int o11), none, none] d_Reader_readNumber_24 rfl (by decide) rfl rfl ?_
    refine V_iload_n 3 d_Reader_readNumber_25 rfl rfl ?_
    refine V_gets (v := .ref 133) zL ws_Reader_125 d_Reader_readNumber_26 ?_
    refine V_iconst 3 d_Reader_readNumber_29 (by decide) ?_
    refine V_iload_n 1 d_Reader_readNumber_30 rfl rfl ?_
    refine V_imulw d_Reader_readNumber_31 (fun z22 z22e => ?_)
    obtain rfl : z22 = 12 := z22e.trans (by decide)
    refine V_iload_n 2 d_Reader_readNumber_32 rfl rfl ?_
    refine V_iaddw d_Reader_readNumber_33 (fun z23 z23e => ?_)
    obtain rfl : z23 = 13 := z23e.trans (by decide)
    refine V_tald roL tc_13 (by decide) d_Reader_readNumber_34 (fun z24 z24Z z24E z24e => ?_)
    obtain rfl : z24 = 0 := z24e.trans rfl
    refine V_icmp_lt 51 o11E tc_0 d_Reader_readNumber_35 (by decide) (fun c25 => ?_) (fun c25 => ?_)
    ·
      refine V_aload_n 0 d_Reader_readNumber_51 rfl rfl ?_
      refine V_iconst 3 d_Reader_readNumber_52 (by decide) ?_
      refine V_aload_n 0 d_Reader_readNumber_53 rfl rfl ?_
      refine V_getR fa_Reader_12 sk_88 rfl d_Reader_readNumber_54 ?_
      refine N_getK fa_Reader_81 sk_89 rfl d_Reader_readNumber_57 (kn_call fh15 o9K rfl) ?_
      refine N_callVI [.int 3, .int o9] [] cv_Reader_64 sk_88 rfl d_Reader_readNumber_60 rfl (Nat.le_of_ble_eq_true rfl) (by decide) (by decide) (c_Reader_isRefusedX h15 hI17 3 3 tc_3 o9 o9Z o9E) (fun z26 h27 z26Z z26E p28 => ?_)
      obtain ⟨hI29, fh27, o31, o31Z, o31E, o31K, o32, o32Z, o32E, o32K, p28⟩ := p28
      have f30 : fr S_Reader_readNumberX_4_1 h h27 := fr_call f18 fh27 rfl
      obtain ⟨z33, z33Z, z33E, z33e⟩ : ∃ (y : Int32) (Y : Int), y.toInt = Y ∧ y = h27.1 91 1 := ⟨_, _, rfl, rfl⟩
      exact V_zret rfl (by rw [z26E]; omega) d_Reader_readNumber_63 ⟨z26, rfl, ⟨hI29, f30, o8, o8Z, o8E, (kn_call fh27 (kn_call fh15 o8K rfl) rfl), o9, o9Z, o9E, (kn_call fh27 (kn_call fh15 o9K rfl) rfl), o10, o10Z, o10E, (kn_call fh27 (kn_call fh15 o10K rfl) rfl), o11, o11Z, o11E, (kn_call fh27 (kn_call fh15 o11K rfl) rfl), o31, o31Z, o31E, o31K, o32, o32Z, o32E, o32K, z33, z33Z, z33E, z33e.symm, (by have s1 := num_3 (lo := 0) (hi := 3) p5.2.2.1 p5.2.2.2.2.1 (by omega); exact Or.inr ⟨by omega, ⟨by omega, by omega⟩, by omega⟩)⟩⟩
    ·
      refine V_iload_n 3 d_Reader_readNumber_38 rfl rfl ?_
      refine V_gets (v := .ref 134) zM ws_Reader_128 d_Reader_readNumber_39 ?_
      refine V_iconst 3 d_Reader_readNumber_42 (by decide) ?_
      refine V_iload_n 1 d_Reader_readNumber_43 rfl rfl ?_
      refine V_imulw d_Reader_readNumber_44 (fun z34 z34e => ?_)
      obtain rfl : z34 = 12 := z34e.trans (by decide)
      refine V_iload_n 2 d_Reader_readNumber_45 rfl rfl ?_
      refine V_iaddw d_Reader_readNumber_46 (fun z35 z35e => ?_)
      obtain rfl : z35 = 13 := z35e.trans (by decide)
      refine V_tald roM tc_13 (by decide) d_Reader_readNumber_47 (fun z36 z36Z z36E z36e => ?_)
      obtain rfl : z36 = 3 := z36e.trans rfl
      refine V_icmp_le 64 o11E tc_3 d_Reader_readNumber_48 (by decide) (fun c37 => ?_) (fun c37 => ?_)
      ·
        refine V_aload_n 0 d_Reader_readNumber_64 rfl rfl ?_
        refine V_getR fa_Reader_25 sk_88 rfl d_Reader_readNumber_65 ?_
        refine V_iload_n 2 d_Reader_readNumber_68 rfl rfl ?_
        refine V_iload_n 3 d_Reader_readNumber_69 rfl rfl ?_
        refine N_iast sk_91 tc_1 (by omega) d_Reader_readNumber_70 (fun h38 eh38 => ?_)
        have hI39 : Inv h38 := inv_full hI17 eh38 rfl
        have f40 : fr S_Reader_readNumberX_4_1 h h38 := fr_put f18 eh38 rfl
        refine V_iload_n 2 d_Reader_readNumber_71 rfl rfl ?_
        refine V_if_ne 99 tc_1 d_Reader_readNumber_72 (by decide) (fun c41 => ?_) (fun c41 => ?_)
        ·
          refine V_iconst 0 d_Reader_readNumber_99 (by decide) ?_
          refine V_istore 4 [some (.ref 88), some (.int 4), some (.int 1), some (.int o11), some (.int 0), none] d_Reader_readNumber_100 (by decide) rfl rfl ?_
          refine V_iload_n 2 d_Reader_readNumber_102 rfl rfl ?_
          refine V_iconst 1 d_Reader_readNumber_103 (by decide) ?_
          refine V_icmp_ne 127 tc_1 tc_1 d_Reader_readNumber_104 (by decide) (fun c42 => ?_) (fun c42 => ?_)
          ·
            exact absurd c42 (by decide)
          ·
            refine V_iload_n 1 d_Reader_readNumber_107 rfl rfl ?_
            refine V_bipush 9 d_Reader_readNumber_108 (by decide) ?_
            refine V_icmp_ne 127 tc_4 tc_9 d_Reader_readNumber_110 (by decide) (fun c43 => ?_) (fun c43 => ?_)
            ·
              refine V_iconst 0 d_Reader_readNumber_127 (by decide) ?_
              refine V_istore 5 [some (.ref 88), some (.int 4), some (.int 1), some (.int o11), some (.int 0), some (.int 0)] d_Reader_readNumber_128 (by decide) rfl rfl ?_
              refine V_iload d_Reader_readNumber_130 rfl ?_
              refine V_if_ne 140 tc_0 d_Reader_readNumber_132 (by decide) (fun c44 => ?_) (fun c44 => ?_)
              ·
                exact absurd c44 (by decide)
              ·
                refine V_iload d_Reader_readNumber_135 rfl ?_
                refine V_if_eq 155 tc_0 d_Reader_readNumber_137 (by decide) (fun c45 => ?_) (fun c45 => ?_)
                ·
                  refine V_iconst 1 d_Reader_readNumber_155 (by decide) ?_
                  refine V_goto 160 d_Reader_readNumber_156 (by decide) ?_
                  exact V_zret rfl (by decide) d_Reader_readNumber_160 ⟨1, rfl, ⟨hI39, f40, o8, o8Z, o8E, (kn_ne eh38 (kn_call fh15 o8K rfl) (by decide)), o9, o9Z, o9E, (kn_ne eh38 (kn_call fh15 o9K rfl) (by decide)), o10, o10Z, o10E, (kn_ne eh38 (kn_call fh15 o10K rfl) (by decide)), o11, o11Z, o11E, (kn_ne eh38 (kn_call fh15 o11K rfl) (by decide)), o19, o19Z, o19E, (kn_ne eh38 o19K (by decide)), o20, o20Z, o20E, (kn_ne eh38 o20K (by decide)), o11, o11Z, o11E, (kn_put eh38), (by have s1 := num_0 (lo := 0) (hi := 3) p5.2.2.1 p5.2.2.2.2.1 ⟨by omega, by omega⟩; exact Or.inl ⟨rfl, by omega, by omega, by omega, by omega, by omega, by omega, by omega⟩)⟩⟩
                ·
                  exact absurd c45 (by decide)
            ·
              exact absurd c43 (by decide)
        ·
          exact absurd c41 (by decide)
      ·
        refine V_aload_n 0 d_Reader_readNumber_51 rfl rfl ?_
        refine V_iconst 3 d_Reader_readNumber_52 (by decide) ?_
        refine V_aload_n 0 d_Reader_readNumber_53 rfl rfl ?_
        refine V_getR fa_Reader_12 sk_88 rfl d_Reader_readNumber_54 ?_
        refine N_getK fa_Reader_81 sk_89 rfl d_Reader_readNumber_57 (kn_call fh15 o9K rfl) ?_
        refine N_callVI [.int 3, .int o9] [] cv_Reader_64 sk_88 rfl d_Reader_readNumber_60 rfl (Nat.le_of_ble_eq_true rfl) (by decide) (by decide) (c_Reader_isRefusedX h15 hI17 3 3 tc_3 o9 o9Z o9E) (fun z46 h47 z46Z z46E p48 => ?_)
        obtain ⟨hI49, fh47, o51, o51Z, o51E, o51K, o52, o52Z, o52E, o52K, p48⟩ := p48
        have f50 : fr S_Reader_readNumberX_4_1 h h47 := fr_call f18 fh47 rfl
        obtain ⟨z53, z53Z, z53E, z53e⟩ : ∃ (y : Int32) (Y : Int), y.toInt = Y ∧ y = h47.1 91 1 := ⟨_, _, rfl, rfl⟩
        exact V_zret rfl (by rw [z46E]; omega) d_Reader_readNumber_63 ⟨z46, rfl, ⟨hI49, f50, o8, o8Z, o8E, (kn_call fh47 (kn_call fh15 o8K rfl) rfl), o9, o9Z, o9E, (kn_call fh47 (kn_call fh15 o9K rfl) rfl), o10, o10Z, o10E, (kn_call fh47 (kn_call fh15 o10K rfl) rfl), o11, o11Z, o11E, (kn_call fh47 (kn_call fh15 o11K rfl) rfl), o51, o51Z, o51E, o51K, o52, o52Z, o52E, o52K, z53, z53Z, z53E, z53e.symm, (by have s1 := num_3 (lo := 0) (hi := 3) p5.2.2.1 p5.2.2.2.2.1 (by omega); exact Or.inr ⟨by omega, ⟨by omega, by omega⟩, by omega⟩)⟩⟩
  ·
    have hk9 := num_k 0 3 p5 p16 (by omega)
    refine V_iconst 0 d_Reader_readNumber_15 (by decide) ?_
    obtain ⟨z54, z54Z, z54E, z54e⟩ : ∃ (y : Int32) (Y : Int), y.toInt = Y ∧ y = h15.1 91 1 := ⟨_, _, rfl, rfl⟩
    exact V_zret rfl (by decide) d_Reader_readNumber_16 ⟨0, rfl, ⟨hI17, f18, o8, o8Z, o8E, (kn_call fh15 o8K rfl), o9, o9Z, o9E, (kn_call fh15 o9K rfl), o10, o10Z, o10E, (kn_call fh15 o10K rfl), o11, o11Z, o11E, (kn_call fh15 o11K rfl), o19, o19Z, o19E, o19K, o20, o20Z, o20E, o20K, z54, z54Z, z54E, z54e.symm, (Or.inr ⟨tc_0, ⟨hk9.1, hk9.2.1⟩, hk9.2.2⟩)⟩⟩
def S_Reader_readNumberX_5_0 : List (Nat × Option Nat) := [(89, some 2), (89, some 3), (89, some 4), (89, some 5), (88, some 5), (88, some 6), (91, some 0)]
abbrev q_Reader_readNumberX_5_0 (h : Hp) (b : Int → Int) (T : Nat → Int → Int) (s : Int32) (sZ : Int) (t : Int32) (tZ : Int) (a : Int32) (aZ : Int) (w : Int32) (wZ : Int) (z : Int32) (zZ : Int) : Option Value → Hp → Prop := pInt (fun r h' => Inv h' ∧ fr S_Reader_readNumberX_5_0 h h' ∧ ∃ (k : Int32) (kZ : Int), k.toInt = kZ ∧ h'.1 89 2 = k ∧ ∃ (f : Int32) (fZ : Int), f.toInt = fZ ∧ h'.1 89 3 = f ∧ ∃ (u : Int32) (uZ : Int), u.toInt = uZ ∧ h'.1 89 4 = u ∧ ∃ (v : Int32) (vZ : Int), v.toInt = vZ ∧ h'.1 89 5 = v ∧ ∃ (e : Int32) (eZ : Int), e.toInt = eZ ∧ h'.1 88 6 = e ∧ ∃ (y : Int32) (yZ : Int), y.toInt = yZ ∧ h'.1 88 5 = y ∧ ∃ (x : Int32) (xZ : Int), x.toInt = xZ ∧ h'.1 91 0 = x ∧ (r.toInt = 1 ∧ x_cN b tZ 0 3 = 0 ∧ x_c4 (T 5 (x_vl b tZ)) = 0 ∧ uZ = x_en b tZ ∧ xZ = x_vl b tZ ∧ eZ = wZ ∧ yZ = aZ ∧ tZ < uZ ∧ uZ ≤ sZ ∨ r.toInt = 0 ∧ (x_cN b tZ 0 3 ≠ 0 ∧ eZ = x_cN b tZ 0 3 ∨ x_cN b tZ 0 3 = 0 ∧ x_c4 (T 5 (x_vl b tZ)) ≠ 0 ∧ eZ = x_c4 (T 5 (x_vl b tZ))) ∧ yZ = x_fr b tZ))
set_option maxRecDepth 100000 in
theorem c_Reader_readNumberX_5_0 (h : Hp) (b : Int → Int) (T : Nat → Int → Int) (hI : Inv h) (s : Int32) (sZ : Int) (sE : s.toInt = sZ) (sK : h.1 89 1 = s) (t : Int32) (tZ : Int) (tE : t.toInt = tZ) (tK : h.1 89 4 = t) (a : Int32) (aZ : Int) (aE : a.toInt = aZ) (aK : h.1 88 5 = a) (w : Int32) (wZ : Int) (wE : w.toInt = wZ) (wK : h.1 88 6 = w) (z : Int32) (zZ : Int) (zE : z.toInt = zZ) (zK : h.1 92 5 = z) (hy0 : TP h 90 sZ b) (hy1 : 0 ≤ tZ ∧ tZ ≤ sZ) (hy2 : x_TB z (T 5)) : Ct y_Reader_readNumber b_Reader_readNumber 6 (some .boolean) 3 60 [.ref 88, .int 5, .int 0] h (q_Reader_readNumberX_5_0 h b T s sZ t tZ a aZ w wZ z zZ) := by
  refine ct_ow R_Reader [some (.ref 88), some (.int 5), some (.int 0), none, none, none] rfl (by decide) rfl (Nat.le_of_ble_eq_true rfl) ?_
  have f0 : fr S_Reader_readNumberX_5_0 h h := fr_rf
  have g1 : 0 ≤ sZ ∧ sZ ≤ 160 := inv_at hI sE sK.symm rfl
  have g2 : 0 ≤ tZ ∧ tZ ≤ 160 := inv_at hI tE tK.symm rfl
  refine V_aload_n 0 d_Reader_readNumber_0 rfl rfl ?_
  refine V_getR fa_Reader_12 sk_88 rfl d_Reader_readNumber_1 ?_
  refine N_callVV [] [] cv_Reader_48 sk_89 rfl d_Reader_readNumber_4 rfl (Nat.le_of_ble_eq_true rfl) (by decide) (by decide) (c_Tape_advanceX h b hI s sZ sE sK t tZ tE tK (TP_fr f0 (fun _ => rfl) hy0) (by omega)) (fun h4 p5 => ?_)
  obtain ⟨hI6, fh4, o8, o8Z, o8E, o8K, o9, o9Z, o9E, o9K, o10, o10Z, o10E, o10K, o11, o11Z, o11E, o11K, p5⟩ := p5
  have f7 : fr S_Reader_readNumberX_5_0 h h4 := fr_call f0 fh4 rfl
  have g12 : 0 ≤ o9Z ∧ o9Z ≤ 160 := inv_at hI6 o9E o9K.symm rfl
  have g13 : 0 ≤ o10Z ∧ o10Z ≤ 160 := inv_at hI6 o10E o10K.symm rfl
  refine V_aload_n 0 d_Reader_readNumber_7 rfl rfl ?_
  refine V_iconst 2 d_Reader_readNumber_8 (by decide) ?_
  refine N_callVI [.int 2] [] cv_Reader_84 sk_88 rfl d_Reader_readNumber_9 rfl (Nat.le_of_ble_eq_true rfl) (by decide) (by decide) (c_Reader_isKindX h4 hI6 2 2 tc_2 o8 o8Z o8E o8K o9 o9Z o9E o9K a aZ aE (kn_call fh4 aK rfl) w wZ wE (kn_call fh4 wK rfl)) (fun z14 h15 z14Z z14E p16 => ?_)
  obtain ⟨hI17, fh15, o19, o19Z, o19E, o19K, o20, o20Z, o20E, o20K, p16⟩ := p16
  have f18 : fr S_Reader_readNumberX_5_0 h h15 := fr_call f7 fh15 rfl
  refine V_if_ne 17 z14E d_Reader_readNumber_12 (by decide) (fun c21 => ?_) (fun c21 => ?_)
  ·
    replace p16 := kd_y p16 (by omega)
    replace p5 := adv_2 p5 (by omega)
    refine V_aload_n 0 d_Reader_readNumber_17 rfl rfl ?_
    refine V_getR fa_Reader_12 sk_88 rfl d_Reader_readNumber_18 ?_
    refine N_getK fa_Reader_122 sk_89 rfl d_Reader_readNumber_21 (kn_call fh15 o11K rfl) ?_
    refine V_istore_n 3 [some (.ref 88), some (.int 5), some (.int 0), some (.int o11), none, none] d_Reader_readNumber_24 rfl (by decide) rfl rfl ?_
    refine V_iload_n 3 d_Reader_readNumber_25 rfl rfl ?_
    refine V_gets (v := .ref 133) zL ws_Reader_125 d_Reader_readNumber_26 ?_
    refine V_iconst 3 d_Reader_readNumber_29 (by decide) ?_
    refine V_iload_n 1 d_Reader_readNumber_30 rfl rfl ?_
    refine V_imulw d_Reader_readNumber_31 (fun z22 z22e => ?_)
    obtain rfl : z22 = 15 := z22e.trans (by decide)
    refine V_iload_n 2 d_Reader_readNumber_32 rfl rfl ?_
    refine V_iaddw d_Reader_readNumber_33 (fun z23 z23e => ?_)
    obtain rfl : z23 = 15 := z23e.trans (by decide)
    refine V_tald roL tc_15 (by decide) d_Reader_readNumber_34 (fun z24 z24Z z24E z24e => ?_)
    obtain rfl : z24 = 0 := z24e.trans rfl
    refine V_icmp_lt 51 o11E tc_0 d_Reader_readNumber_35 (by decide) (fun c25 => ?_) (fun c25 => ?_)
    ·
      refine V_aload_n 0 d_Reader_readNumber_51 rfl rfl ?_
      refine V_iconst 3 d_Reader_readNumber_52 (by decide) ?_
      refine V_aload_n 0 d_Reader_readNumber_53 rfl rfl ?_
      refine V_getR fa_Reader_12 sk_88 rfl d_Reader_readNumber_54 ?_
      refine N_getK fa_Reader_81 sk_89 rfl d_Reader_readNumber_57 (kn_call fh15 o9K rfl) ?_
      refine N_callVI [.int 3, .int o9] [] cv_Reader_64 sk_88 rfl d_Reader_readNumber_60 rfl (Nat.le_of_ble_eq_true rfl) (by decide) (by decide) (c_Reader_isRefusedX h15 hI17 3 3 tc_3 o9 o9Z o9E) (fun z26 h27 z26Z z26E p28 => ?_)
      obtain ⟨hI29, fh27, o31, o31Z, o31E, o31K, o32, o32Z, o32E, o32K, p28⟩ := p28
      have f30 : fr S_Reader_readNumberX_5_0 h h27 := fr_call f18 fh27 rfl
      obtain ⟨z33, z33Z, z33E, z33e⟩ : ∃ (y : Int32) (Y : Int), y.toInt = Y ∧ y = h27.1 91 0 := ⟨_, _, rfl, rfl⟩
      exact V_zret rfl (by rw [z26E]; omega) d_Reader_readNumber_63 ⟨z26, rfl, ⟨hI29, f30, o8, o8Z, o8E, (kn_call fh27 (kn_call fh15 o8K rfl) rfl), o9, o9Z, o9E, (kn_call fh27 (kn_call fh15 o9K rfl) rfl), o10, o10Z, o10E, (kn_call fh27 (kn_call fh15 o10K rfl) rfl), o11, o11Z, o11E, (kn_call fh27 (kn_call fh15 o11K rfl) rfl), o31, o31Z, o31E, o31K, o32, o32Z, o32E, o32K, z33, z33Z, z33E, z33e.symm, (by have s1 := num_3 (lo := 0) (hi := 3) p5.2.2.1 p5.2.2.2.2.1 (by omega); exact Or.inr ⟨by omega, Or.inl ⟨by omega, by omega⟩, by omega⟩)⟩⟩
    ·
      refine V_iload_n 3 d_Reader_readNumber_38 rfl rfl ?_
      refine V_gets (v := .ref 134) zM ws_Reader_128 d_Reader_readNumber_39 ?_
      refine V_iconst 3 d_Reader_readNumber_42 (by decide) ?_
      refine V_iload_n 1 d_Reader_readNumber_43 rfl rfl ?_
      refine V_imulw d_Reader_readNumber_44 (fun z34 z34e => ?_)
      obtain rfl : z34 = 15 := z34e.trans (by decide)
      refine V_iload_n 2 d_Reader_readNumber_45 rfl rfl ?_
      refine V_iaddw d_Reader_readNumber_46 (fun z35 z35e => ?_)
      obtain rfl : z35 = 15 := z35e.trans (by decide)
      refine V_tald roM tc_15 (by decide) d_Reader_readNumber_47 (fun z36 z36Z z36E z36e => ?_)
      obtain rfl : z36 = 3 := z36e.trans rfl
      refine V_icmp_le 64 o11E tc_3 d_Reader_readNumber_48 (by decide) (fun c37 => ?_) (fun c37 => ?_)
      ·
        refine V_aload_n 0 d_Reader_readNumber_64 rfl rfl ?_
        refine V_getR fa_Reader_25 sk_88 rfl d_Reader_readNumber_65 ?_
        refine V_iload_n 2 d_Reader_readNumber_68 rfl rfl ?_
        refine V_iload_n 3 d_Reader_readNumber_69 rfl rfl ?_
        refine N_iast sk_91 tc_0 (by omega) d_Reader_readNumber_70 (fun h38 eh38 => ?_)
        have hI39 : Inv h38 := inv_full hI17 eh38 rfl
        have f40 : fr S_Reader_readNumberX_5_0 h h38 := fr_put f18 eh38 rfl
        refine V_iload_n 2 d_Reader_readNumber_71 rfl rfl ?_
        refine V_if_ne 99 tc_0 d_Reader_readNumber_72 (by decide) (fun c41 => ?_) (fun c41 => ?_)
        ·
          exact absurd c41 (by decide)
        ·
          refine V_iload_n 1 d_Reader_readNumber_75 rfl rfl ?_
          refine N_callSI [.int 5] [] cs_Reader_131 d_Reader_readNumber_76 rfl (Nat.le_of_ble_eq_true rfl) (by decide) (by decide) (c_Reader_isOfOneX_5 h38) (fun z42 h43 z42Z z42E p44 => ?_)
          obtain ⟨eh43, p44⟩ := p44
          subst eh43
          refine V_if_eq 99 z42E d_Reader_readNumber_79 (by decide) (fun c45 => ?_) (fun c45 => ?_)
          ·
            refine V_iconst 0 d_Reader_readNumber_99 (by decide) ?_
            refine V_istore 4 [some (.ref 88), some (.int 5), some (.int 0), some (.int o11), some (.int 0), none] d_Reader_readNumber_100 (by decide) rfl rfl ?_
            refine V_iload_n 2 d_Reader_readNumber_102 rfl rfl ?_
            refine V_iconst 1 d_Reader_readNumber_103 (by decide) ?_
            refine V_icmp_ne 127 tc_0 tc_1 d_Reader_readNumber_104 (by decide) (fun c46 => ?_) (fun c46 => ?_)
            ·
              refine V_iconst 0 d_Reader_readNumber_127 (by decide) ?_
              refine V_istore 5 [some (.ref 88), some (.int 5), some (.int 0), some (.int o11), some (.int 0), some (.int 0)] d_Reader_readNumber_128 (by decide) rfl rfl ?_
              refine V_iload d_Reader_readNumber_130 rfl ?_
              refine V_if_ne 140 tc_0 d_Reader_readNumber_132 (by decide) (fun c47 => ?_) (fun c47 => ?_)
              ·
                exact absurd c47 (by decide)
              ·
                refine V_iload d_Reader_readNumber_135 rfl ?_
                refine V_if_eq 155 tc_0 d_Reader_readNumber_137 (by decide) (fun c48 => ?_) (fun c48 => ?_)
                ·
                  refine V_iconst 1 d_Reader_readNumber_155 (by decide) ?_
                  refine V_goto 160 d_Reader_readNumber_156 (by decide) ?_
                  exact V_zret rfl (by decide) d_Reader_readNumber_160 ⟨1, rfl, ⟨hI39, f40, o8, o8Z, o8E, (kn_ne eh38 (kn_call fh15 o8K rfl) (by decide)), o9, o9Z, o9E, (kn_ne eh38 (kn_call fh15 o9K rfl) (by decide)), o10, o10Z, o10E, (kn_ne eh38 (kn_call fh15 o10K rfl) (by decide)), o11, o11Z, o11E, (kn_ne eh38 (kn_call fh15 o11K rfl) (by decide)), o19, o19Z, o19E, (kn_ne eh38 o19K (by decide)), o20, o20Z, o20E, (kn_ne eh38 o20K (by decide)), o11, o11Z, o11E, (kn_put eh38), (by have s1 := num_0 (lo := 0) (hi := 3) p5.2.2.1 p5.2.2.2.2.1 ⟨by omega, by omega⟩; have s2 := x_c4_s (T 5 (x_vl b tZ)); exact Or.inl ⟨rfl, by omega, by omega, by omega, by omega, by omega, by omega, by omega, by omega⟩)⟩⟩
                ·
                  exact absurd c48 (by decide)
            ·
              exact absurd c46 (by decide)
          ·
            refine V_aload_n 0 d_Reader_readNumber_82 rfl rfl ?_
            refine V_getR fa_Reader_29 sk_88 rfl d_Reader_readNumber_83 ?_
            refine V_iload_n 1 d_Reader_readNumber_86 rfl rfl ?_
            refine N_ialdK sk_92 tc_5 (by omega) d_Reader_readNumber_87 (kn_ne eh38 (kn_call fh15 (kn_call fh4 zK rfl) rfl) (by decide)) ?_
            refine V_iload_n 3 d_Reader_readNumber_88 rfl rfl ?_
            refine N_ishr d_Reader_readNumber_89 (fun z50 z50Z z50E z50e => ?_)
            refine V_iconst 1 d_Reader_readNumber_90 (by decide) ?_
            refine N_iand d_Reader_readNumber_91 (fun z51 z51Z z51E z51e => ?_)
            have g52 : z51Z = T 5 o11Z := x_bt_of hy2 (by omega) (by omega) o11E z51E (by assumption) (by assumption)
            have g53 : T 5 o11Z = T 5 (x_vl b tZ) := congrArg (T 5) (by omega)
            refine V_if_eq 99 z51E d_Reader_readNumber_92 (by decide) (fun c54 => ?_) (fun c54 => ?_)
            ·
              refine V_iconst 0 d_Reader_readNumber_99 (by decide) ?_
              refine V_istore 4 [some (.ref 88), some (.int 5), some (.int 0), some (.int o11), some (.int 0), none] d_Reader_readNumber_100 (by decide) rfl rfl ?_
              refine V_iload_n 2 d_Reader_readNumber_102 rfl rfl ?_
              refine V_iconst 1 d_Reader_readNumber_103 (by decide) ?_
              refine V_icmp_ne 127 tc_0 tc_1 d_Reader_readNumber_104 (by decide) (fun c55 => ?_) (fun c55 => ?_)
              ·
                refine V_iconst 0 d_Reader_readNumber_127 (by decide) ?_
                refine V_istore 5 [some (.ref 88), some (.int 5), some (.int 0), some (.int o11), some (.int 0), some (.int 0)] d_Reader_readNumber_128 (by decide) rfl rfl ?_
                refine V_iload d_Reader_readNumber_130 rfl ?_
                refine V_if_ne 140 tc_0 d_Reader_readNumber_132 (by decide) (fun c56 => ?_) (fun c56 => ?_)
                ·
                  exact absurd c56 (by decide)
                ·
                  refine V_iload d_Reader_readNumber_135 rfl ?_
                  refine V_if_eq 155 tc_0 d_Reader_readNumber_137 (by decide) (fun c57 => ?_) (fun c57 => ?_)
                  ·
                    refine V_iconst 1 d_Reader_readNumber_155 (by decide) ?_
                    refine V_goto 160 d_Reader_readNumber_156 (by decide) ?_
                    exact V_zret rfl (by decide) d_Reader_readNumber_160 ⟨1, rfl, ⟨hI39, f40, o8, o8Z, o8E, (kn_ne eh38 (kn_call fh15 o8K rfl) (by decide)), o9, o9Z, o9E, (kn_ne eh38 (kn_call fh15 o9K rfl) (by decide)), o10, o10Z, o10E, (kn_ne eh38 (kn_call fh15 o10K rfl) (by decide)), o11, o11Z, o11E, (kn_ne eh38 (kn_call fh15 o11K rfl) (by decide)), o19, o19Z, o19E, (kn_ne eh38 o19K (by decide)), o20, o20Z, o20E, (kn_ne eh38 o20K (by decide)), o11, o11Z, o11E, (kn_put eh38), (by have s1 := num_0 (lo := 0) (hi := 3) p5.2.2.1 p5.2.2.2.2.1 ⟨by omega, by omega⟩; have s2 := x_c4_s (T 5 (x_vl b tZ)); exact Or.inl ⟨rfl, by omega, by omega, by omega, by omega, by omega, by omega, by omega, by omega⟩)⟩⟩
                  ·
                    exact absurd c57 (by decide)
              ·
                exact absurd c55 (by decide)
            ·
              refine V_iconst 1 d_Reader_readNumber_95 (by decide) ?_
              refine V_goto 100 d_Reader_readNumber_96 (by decide) ?_
              refine V_istore 4 [some (.ref 88), some (.int 5), some (.int 0), some (.int o11), some (.int 1), none] d_Reader_readNumber_100 (by decide) rfl rfl ?_
              refine V_iload_n 2 d_Reader_readNumber_102 rfl rfl ?_
              refine V_iconst 1 d_Reader_readNumber_103 (by decide) ?_
              refine V_icmp_ne 127 tc_0 tc_1 d_Reader_readNumber_104 (by decide) (fun c58 => ?_) (fun c58 => ?_)
              ·
                refine V_iconst 0 d_Reader_readNumber_127 (by decide) ?_
                refine V_istore 5 [some (.ref 88), some (.int 5), some (.int 0), some (.int o11), some (.int 1), some (.int 0)] d_Reader_readNumber_128 (by decide) rfl rfl ?_
                refine V_iload d_Reader_readNumber_130 rfl ?_
                refine V_if_ne 140 tc_1 d_Reader_readNumber_132 (by decide) (fun c59 => ?_) (fun c59 => ?_)
                ·
                  refine V_aload_n 0 d_Reader_readNumber_140 rfl rfl ?_
                  refine V_iconst 4 d_Reader_readNumber_141 (by decide) ?_
                  refine V_aload_n 0 d_Reader_readNumber_142 rfl rfl ?_
                  refine V_getR fa_Reader_12 sk_88 rfl d_Reader_readNumber_143 ?_
                  refine N_getK fa_Reader_81 sk_89 rfl d_Reader_readNumber_146 (kn_ne eh38 (kn_call fh15 o9K rfl) (by decide)) ?_
                  refine N_callVI [.int 4, .int o9] [] cv_Reader_64 sk_88 rfl d_Reader_readNumber_149 rfl (Nat.le_of_ble_eq_true rfl) (by decide) (by decide) (c_Reader_isRefusedX h38 hI39 4 4 tc_4 o9 o9Z o9E) (fun z60 h61 z60Z z60E p62 => ?_)
                  obtain ⟨hI63, fh61, o65, o65Z, o65E, o65K, o66, o66Z, o66E, o66K, p62⟩ := p62
                  have f64 : fr S_Reader_readNumberX_5_0 h h61 := fr_call f40 fh61 rfl
                  refine V_if_eq 159 z60E d_Reader_readNumber_152 (by decide) (fun c67 => ?_) (fun c67 => ?_)
                  ·
                    refine V_iconst 0 d_Reader_readNumber_159 (by decide) ?_
                    exact V_zret rfl (by decide) d_Reader_readNumber_160 ⟨0, rfl, ⟨hI63, f64, o8, o8Z, o8E, (kn_call fh61 (kn_ne eh38 (kn_call fh15 o8K rfl) (by decide)) rfl), o9, o9Z, o9E, (kn_call fh61 (kn_ne eh38 (kn_call fh15 o9K rfl) (by decide)) rfl), o10, o10Z, o10E, (kn_call fh61 (kn_ne eh38 (kn_call fh15 o10K rfl) (by decide)) rfl), o11, o11Z, o11E, (kn_call fh61 (kn_ne eh38 (kn_call fh15 o11K rfl) (by decide)) rfl), o65, o65Z, o65E, o65K, o66, o66Z, o66E, o66K, o11, o11Z, o11E, (kn_call fh61 (kn_put eh38) rfl), (by have s1 := num_0 (lo := 0) (hi := 3) p5.2.2.1 p5.2.2.2.2.1 ⟨by omega, by omega⟩; have s2 := x_c4_s (T 5 (x_vl b tZ)); exact Or.inr ⟨tc_0, Or.inr ⟨by omega, by omega, by omega⟩, by omega⟩)⟩⟩
                  ·
                    refine V_iconst 1 d_Reader_readNumber_155 (by decide) ?_
                    refine V_goto 160 d_Reader_readNumber_156 (by decide) ?_
                    exact V_zret rfl (by decide) d_Reader_readNumber_160 ⟨1, rfl, ⟨hI63, f64, o8, o8Z, o8E, (kn_call fh61 (kn_ne eh38 (kn_call fh15 o8K rfl) (by decide)) rfl), o9, o9Z, o9E, (kn_call fh61 (kn_ne eh38 (kn_call fh15 o9K rfl) (by decide)) rfl), o10, o10Z, o10E, (kn_call fh61 (kn_ne eh38 (kn_call fh15 o10K rfl) (by decide)) rfl), o11, o11Z, o11E, (kn_call fh61 (kn_ne eh38 (kn_call fh15 o11K rfl) (by decide)) rfl), o65, o65Z, o65E, o65K, o66, o66Z, o66E, o66K, o11, o11Z, o11E, (kn_call fh61 (kn_put eh38) rfl), (by have s1 := num_0 (lo := 0) (hi := 3) p5.2.2.1 p5.2.2.2.2.1 ⟨by omega, by omega⟩; have s2 := x_c4_s (T 5 (x_vl b tZ)); exact Or.inl ⟨rfl, by omega, by omega, by omega, by omega, by omega, by omega, by omega, by omega⟩)⟩⟩
                ·
                  exact absurd c59 (by decide)
              ·
                exact absurd c58 (by decide)
      ·
        refine V_aload_n 0 d_Reader_readNumber_51 rfl rfl ?_
        refine V_iconst 3 d_Reader_readNumber_52 (by decide) ?_
        refine V_aload_n 0 d_Reader_readNumber_53 rfl rfl ?_
        refine V_getR fa_Reader_12 sk_88 rfl d_Reader_readNumber_54 ?_
        refine N_getK fa_Reader_81 sk_89 rfl d_Reader_readNumber_57 (kn_call fh15 o9K rfl) ?_
        refine N_callVI [.int 3, .int o9] [] cv_Reader_64 sk_88 rfl d_Reader_readNumber_60 rfl (Nat.le_of_ble_eq_true rfl) (by decide) (by decide) (c_Reader_isRefusedX h15 hI17 3 3 tc_3 o9 o9Z o9E) (fun z68 h69 z68Z z68E p70 => ?_)
        obtain ⟨hI71, fh69, o73, o73Z, o73E, o73K, o74, o74Z, o74E, o74K, p70⟩ := p70
        have f72 : fr S_Reader_readNumberX_5_0 h h69 := fr_call f18 fh69 rfl
        obtain ⟨z75, z75Z, z75E, z75e⟩ : ∃ (y : Int32) (Y : Int), y.toInt = Y ∧ y = h69.1 91 0 := ⟨_, _, rfl, rfl⟩
        exact V_zret rfl (by rw [z68E]; omega) d_Reader_readNumber_63 ⟨z68, rfl, ⟨hI71, f72, o8, o8Z, o8E, (kn_call fh69 (kn_call fh15 o8K rfl) rfl), o9, o9Z, o9E, (kn_call fh69 (kn_call fh15 o9K rfl) rfl), o10, o10Z, o10E, (kn_call fh69 (kn_call fh15 o10K rfl) rfl), o11, o11Z, o11E, (kn_call fh69 (kn_call fh15 o11K rfl) rfl), o73, o73Z, o73E, o73K, o74, o74Z, o74E, o74K, z75, z75Z, z75E, z75e.symm, (by have s1 := num_3 (lo := 0) (hi := 3) p5.2.2.1 p5.2.2.2.2.1 (by omega); exact Or.inr ⟨by omega, Or.inl ⟨by omega, by omega⟩, by omega⟩)⟩⟩
  ·
    have hk9 := num_k 0 3 p5 p16 (by omega)
    refine V_iconst 0 d_Reader_readNumber_15 (by decide) ?_
    obtain ⟨z76, z76Z, z76E, z76e⟩ : ∃ (y : Int32) (Y : Int), y.toInt = Y ∧ y = h15.1 91 0 := ⟨_, _, rfl, rfl⟩
    exact V_zret rfl (by decide) d_Reader_readNumber_16 ⟨0, rfl, ⟨hI17, f18, o8, o8Z, o8E, (kn_call fh15 o8K rfl), o9, o9Z, o9E, (kn_call fh15 o9K rfl), o10, o10Z, o10E, (kn_call fh15 o10K rfl), o11, o11Z, o11E, (kn_call fh15 o11K rfl), o19, o19Z, o19E, o19K, o20, o20Z, o20E, o20K, z76, z76Z, z76E, z76e.symm, (Or.inr ⟨tc_0, Or.inl ⟨hk9.1, hk9.2.1⟩, hk9.2.2⟩)⟩⟩
def S_Reader_readNumberX_5_1 : List (Nat × Option Nat) := [(89, some 2), (89, some 3), (89, some 4), (89, some 5), (88, some 5), (88, some 6), (91, some 1)]
abbrev q_Reader_readNumberX_5_1 (h : Hp) (b : Int → Int) (T : Nat → Int → Int) (s : Int32) (sZ : Int) (t : Int32) (tZ : Int) (a : Int32) (aZ : Int) (w : Int32) (wZ : Int) : Option Value → Hp → Prop := pInt (fun r h' => Inv h' ∧ fr S_Reader_readNumberX_5_1 h h' ∧ ∃ (k : Int32) (kZ : Int), k.toInt = kZ ∧ h'.1 89 2 = k ∧ ∃ (f : Int32) (fZ : Int), f.toInt = fZ ∧ h'.1 89 3 = f ∧ ∃ (u : Int32) (uZ : Int), u.toInt = uZ ∧ h'.1 89 4 = u ∧ ∃ (v : Int32) (vZ : Int), v.toInt = vZ ∧ h'.1 89 5 = v ∧ ∃ (e : Int32) (eZ : Int), e.toInt = eZ ∧ h'.1 88 6 = e ∧ ∃ (y : Int32) (yZ : Int), y.toInt = yZ ∧ h'.1 88 5 = y ∧ ∃ (x : Int32) (xZ : Int), x.toInt = xZ ∧ h'.1 91 1 = x ∧ (r.toInt = 1 ∧ x_cN b tZ 0 99 = 0 ∧ uZ = x_en b tZ ∧ xZ = x_vl b tZ ∧ eZ = wZ ∧ yZ = aZ ∧ tZ < uZ ∧ uZ ≤ sZ ∨ r.toInt = 0 ∧ (x_cN b tZ 0 99 ≠ 0 ∧ eZ = x_cN b tZ 0 99) ∧ yZ = x_fr b tZ))
set_option maxRecDepth 100000 in
theorem c_Reader_readNumberX_5_1 (h : Hp) (b : Int → Int) (T : Nat → Int → Int) (hI : Inv h) (s : Int32) (sZ : Int) (sE : s.toInt = sZ) (sK : h.1 89 1 = s) (t : Int32) (tZ : Int) (tE : t.toInt = tZ) (tK : h.1 89 4 = t) (a : Int32) (aZ : Int) (aE : a.toInt = aZ) (aK : h.1 88 5 = a) (w : Int32) (wZ : Int) (wE : w.toInt = wZ) (wK : h.1 88 6 = w) (hy0 : TP h 90 sZ b) (hy1 : 0 ≤ tZ ∧ tZ ≤ sZ) : Ct y_Reader_readNumber b_Reader_readNumber 6 (some .boolean) 3 60 [.ref 88, .int 5, .int 1] h (q_Reader_readNumberX_5_1 h b T s sZ t tZ a aZ w wZ) := by
  refine ct_ow R_Reader [some (.ref 88), some (.int 5), some (.int 1), none, none, none] rfl (by decide) rfl (Nat.le_of_ble_eq_true rfl) ?_
  have f0 : fr S_Reader_readNumberX_5_1 h h := fr_rf
  have g1 : 0 ≤ sZ ∧ sZ ≤ 160 := inv_at hI sE sK.symm rfl
  have g2 : 0 ≤ tZ ∧ tZ ≤ 160 := inv_at hI tE tK.symm rfl
  refine V_aload_n 0 d_Reader_readNumber_0 rfl rfl ?_
  refine V_getR fa_Reader_12 sk_88 rfl d_Reader_readNumber_1 ?_
  refine N_callVV [] [] cv_Reader_48 sk_89 rfl d_Reader_readNumber_4 rfl (Nat.le_of_ble_eq_true rfl) (by decide) (by decide) (c_Tape_advanceX h b hI s sZ sE sK t tZ tE tK (TP_fr f0 (fun _ => rfl) hy0) (by omega)) (fun h4 p5 => ?_)
  obtain ⟨hI6, fh4, o8, o8Z, o8E, o8K, o9, o9Z, o9E, o9K, o10, o10Z, o10E, o10K, o11, o11Z, o11E, o11K, p5⟩ := p5
  have f7 : fr S_Reader_readNumberX_5_1 h h4 := fr_call f0 fh4 rfl
  have g12 : 0 ≤ o9Z ∧ o9Z ≤ 160 := inv_at hI6 o9E o9K.symm rfl
  have g13 : 0 ≤ o10Z ∧ o10Z ≤ 160 := inv_at hI6 o10E o10K.symm rfl
  refine V_aload_n 0 d_Reader_readNumber_7 rfl rfl ?_
  refine V_iconst 2 d_Reader_readNumber_8 (by decide) ?_
  refine N_callVI [.int 2] [] cv_Reader_84 sk_88 rfl d_Reader_readNumber_9 rfl (Nat.le_of_ble_eq_true rfl) (by decide) (by decide) (c_Reader_isKindX h4 hI6 2 2 tc_2 o8 o8Z o8E o8K o9 o9Z o9E o9K a aZ aE (kn_call fh4 aK rfl) w wZ wE (kn_call fh4 wK rfl)) (fun z14 h15 z14Z z14E p16 => ?_)
  obtain ⟨hI17, fh15, o19, o19Z, o19E, o19K, o20, o20Z, o20E, o20K, p16⟩ := p16
  have f18 : fr S_Reader_readNumberX_5_1 h h15 := fr_call f7 fh15 rfl
  refine V_if_ne 17 z14E d_Reader_readNumber_12 (by decide) (fun c21 => ?_) (fun c21 => ?_)
  ·
    replace p16 := kd_y p16 (by omega)
    replace p5 := adv_2 p5 (by omega)
    refine V_aload_n 0 d_Reader_readNumber_17 rfl rfl ?_
    refine V_getR fa_Reader_12 sk_88 rfl d_Reader_readNumber_18 ?_
    refine N_getK fa_Reader_122 sk_89 rfl d_Reader_readNumber_21 (kn_call fh15 o11K rfl) ?_
    refine V_istore_n 3 [some (.ref 88), some (.int 5), some (.int 1), some (.int o11), none, none] d_Reader_readNumber_24 rfl (by decide) rfl rfl ?_
    refine V_iload_n 3 d_Reader_readNumber_25 rfl rfl ?_
    refine V_gets (v := .ref 133) zL ws_Reader_125 d_Reader_readNumber_26 ?_
    refine V_iconst 3 d_Reader_readNumber_29 (by decide) ?_
    refine V_iload_n 1 d_Reader_readNumber_30 rfl rfl ?_
    refine V_imulw d_Reader_readNumber_31 (fun z22 z22e => ?_)
    obtain rfl : z22 = 15 := z22e.trans (by decide)
    refine V_iload_n 2 d_Reader_readNumber_32 rfl rfl ?_
    refine V_iaddw d_Reader_readNumber_33 (fun z23 z23e => ?_)
    obtain rfl : z23 = 16 := z23e.trans (by decide)
    refine V_tald roL tc_16 (by decide) d_Reader_readNumber_34 (fun z24 z24Z z24E z24e => ?_)
    obtain rfl : z24 = 0 := z24e.trans rfl
    refine V_icmp_lt 51 o11E tc_0 d_Reader_readNumber_35 (by decide) (fun c25 => ?_) (fun c25 => ?_)
    ·
      refine V_aload_n 0 d_Reader_readNumber_51 rfl rfl ?_
      refine V_iconst 3 d_Reader_readNumber_52 (by decide) ?_
      refine V_aload_n 0 d_Reader_readNumber_53 rfl rfl ?_
      refine V_getR fa_Reader_12 sk_88 rfl d_Reader_readNumber_54 ?_
      refine N_getK fa_Reader_81 sk_89 rfl d_Reader_readNumber_57 (kn_call fh15 o9K rfl) ?_
      refine N_callVI [.int 3, .int o9] [] cv_Reader_64 sk_88 rfl d_Reader_readNumber_60 rfl (Nat.le_of_ble_eq_true rfl) (by decide) (by decide) (c_Reader_isRefusedX h15 hI17 3 3 tc_3 o9 o9Z o9E) (fun z26 h27 z26Z z26E p28 => ?_)
      obtain ⟨hI29, fh27, o31, o31Z, o31E, o31K, o32, o32Z, o32E, o32K, p28⟩ := p28
      have f30 : fr S_Reader_readNumberX_5_1 h h27 := fr_call f18 fh27 rfl
      obtain ⟨z33, z33Z, z33E, z33e⟩ : ∃ (y : Int32) (Y : Int), y.toInt = Y ∧ y = h27.1 91 1 := ⟨_, _, rfl, rfl⟩
      exact V_zret rfl (by rw [z26E]; omega) d_Reader_readNumber_63 ⟨z26, rfl, ⟨hI29, f30, o8, o8Z, o8E, (kn_call fh27 (kn_call fh15 o8K rfl) rfl), o9, o9Z, o9E, (kn_call fh27 (kn_call fh15 o9K rfl) rfl), o10, o10Z, o10E, (kn_call fh27 (kn_call fh15 o10K rfl) rfl), o11, o11Z, o11E, (kn_call fh27 (kn_call fh15 o11K rfl) rfl), o31, o31Z, o31E, o31K, o32, o32Z, o32E, o32K, z33, z33Z, z33E, z33e.symm, (by have s1 := num_3 (lo := 0) (hi := 99) p5.2.2.1 p5.2.2.2.2.1 (by omega); exact Or.inr ⟨by omega, ⟨by omega, by omega⟩, by omega⟩)⟩⟩
    ·
      refine V_iload_n 3 d_Reader_readNumber_38 rfl rfl ?_
      refine V_gets (v := .ref 134) zM ws_Reader_128 d_Reader_readNumber_39 ?_
      refine V_iconst 3 d_Reader_readNumber_42 (by decide) ?_
      refine V_iload_n 1 d_Reader_readNumber_43 rfl rfl ?_
      refine V_imulw d_Reader_readNumber_44 (fun z34 z34e => ?_)
      obtain rfl : z34 = 15 := z34e.trans (by decide)
      refine V_iload_n 2 d_Reader_readNumber_45 rfl rfl ?_
      refine V_iaddw d_Reader_readNumber_46 (fun z35 z35e => ?_)
      obtain rfl : z35 = 16 := z35e.trans (by decide)
      refine V_tald roM tc_16 (by decide) d_Reader_readNumber_47 (fun z36 z36Z z36E z36e => ?_)
      obtain rfl : z36 = 99 := z36e.trans rfl
      refine V_icmp_le 64 o11E tc_99 d_Reader_readNumber_48 (by decide) (fun c37 => ?_) (fun c37 => ?_)
      ·
        refine V_aload_n 0 d_Reader_readNumber_64 rfl rfl ?_
        refine V_getR fa_Reader_25 sk_88 rfl d_Reader_readNumber_65 ?_
        refine V_iload_n 2 d_Reader_readNumber_68 rfl rfl ?_
        refine V_iload_n 3 d_Reader_readNumber_69 rfl rfl ?_
        refine N_iast sk_91 tc_1 (by omega) d_Reader_readNumber_70 (fun h38 eh38 => ?_)
        have hI39 : Inv h38 := inv_full hI17 eh38 rfl
        have f40 : fr S_Reader_readNumberX_5_1 h h38 := fr_put f18 eh38 rfl
        refine V_iload_n 2 d_Reader_readNumber_71 rfl rfl ?_
        refine V_if_ne 99 tc_1 d_Reader_readNumber_72 (by decide) (fun c41 => ?_) (fun c41 => ?_)
        ·
          refine V_iconst 0 d_Reader_readNumber_99 (by decide) ?_
          refine V_istore 4 [some (.ref 88), some (.int 5), some (.int 1), some (.int o11), some (.int 0), none] d_Reader_readNumber_100 (by decide) rfl rfl ?_
          refine V_iload_n 2 d_Reader_readNumber_102 rfl rfl ?_
          refine V_iconst 1 d_Reader_readNumber_103 (by decide) ?_
          refine V_icmp_ne 127 tc_1 tc_1 d_Reader_readNumber_104 (by decide) (fun c42 => ?_) (fun c42 => ?_)
          ·
            exact absurd c42 (by decide)
          ·
            refine V_iload_n 1 d_Reader_readNumber_107 rfl rfl ?_
            refine V_bipush 9 d_Reader_readNumber_108 (by decide) ?_
            refine V_icmp_ne 127 tc_5 tc_9 d_Reader_readNumber_110 (by decide) (fun c43 => ?_) (fun c43 => ?_)
            ·
              refine V_iconst 0 d_Reader_readNumber_127 (by decide) ?_
              refine V_istore 5 [some (.ref 88), some (.int 5), some (.int 1), some (.int o11), some (.int 0), some (.int 0)] d_Reader_readNumber_128 (by decide) rfl rfl ?_
              refine V_iload d_Reader_readNumber_130 rfl ?_
              refine V_if_ne 140 tc_0 d_Reader_readNumber_132 (by decide) (fun c44 => ?_) (fun c44 => ?_)
              ·
                exact absurd c44 (by decide)
              ·
                refine V_iload d_Reader_readNumber_135 rfl ?_
                refine V_if_eq 155 tc_0 d_Reader_readNumber_137 (by decide) (fun c45 => ?_) (fun c45 => ?_)
                ·
                  refine V_iconst 1 d_Reader_readNumber_155 (by decide) ?_
                  refine V_goto 160 d_Reader_readNumber_156 (by decide) ?_
                  exact V_zret rfl (by decide) d_Reader_readNumber_160 ⟨1, rfl, ⟨hI39, f40, o8, o8Z, o8E, (kn_ne eh38 (kn_call fh15 o8K rfl) (by decide)), o9, o9Z, o9E, (kn_ne eh38 (kn_call fh15 o9K rfl) (by decide)), o10, o10Z, o10E, (kn_ne eh38 (kn_call fh15 o10K rfl) (by decide)), o11, o11Z, o11E, (kn_ne eh38 (kn_call fh15 o11K rfl) (by decide)), o19, o19Z, o19E, (kn_ne eh38 o19K (by decide)), o20, o20Z, o20E, (kn_ne eh38 o20K (by decide)), o11, o11Z, o11E, (kn_put eh38), (by have s1 := num_0 (lo := 0) (hi := 99) p5.2.2.1 p5.2.2.2.2.1 ⟨by omega, by omega⟩; exact Or.inl ⟨rfl, by omega, by omega, by omega, by omega, by omega, by omega, by omega⟩)⟩⟩
                ·
                  exact absurd c45 (by decide)
            ·
              exact absurd c43 (by decide)
        ·
          exact absurd c41 (by decide)
      ·
        refine V_aload_n 0 d_Reader_readNumber_51 rfl rfl ?_
        refine V_iconst 3 d_Reader_readNumber_52 (by decide) ?_
        refine V_aload_n 0 d_Reader_readNumber_53 rfl rfl ?_
        refine V_getR fa_Reader_12 sk_88 rfl d_Reader_readNumber_54 ?_
        refine N_getK fa_Reader_81 sk_89 rfl d_Reader_readNumber_57 (kn_call fh15 o9K rfl) ?_
        refine N_callVI [.int 3, .int o9] [] cv_Reader_64 sk_88 rfl d_Reader_readNumber_60 rfl (Nat.le_of_ble_eq_true rfl) (by decide) (by decide) (c_Reader_isRefusedX h15 hI17 3 3 tc_3 o9 o9Z o9E) (fun z46 h47 z46Z z46E p48 => ?_)
        obtain ⟨hI49, fh47, o51, o51Z, o51E, o51K, o52, o52Z, o52E, o52K, p48⟩ := p48
        have f50 : fr S_Reader_readNumberX_5_1 h h47 := fr_call f18 fh47 rfl
        obtain ⟨z53, z53Z, z53E, z53e⟩ : ∃ (y : Int32) (Y : Int), y.toInt = Y ∧ y = h47.1 91 1 := ⟨_, _, rfl, rfl⟩
        exact V_zret rfl (by rw [z46E]; omega) d_Reader_readNumber_63 ⟨z46, rfl, ⟨hI49, f50, o8, o8Z, o8E, (kn_call fh47 (kn_call fh15 o8K rfl) rfl), o9, o9Z, o9E, (kn_call fh47 (kn_call fh15 o9K rfl) rfl), o10, o10Z, o10E, (kn_call fh47 (kn_call fh15 o10K rfl) rfl), o11, o11Z, o11E, (kn_call fh47 (kn_call fh15 o11K rfl) rfl), o51, o51Z, o51E, o51K, o52, o52Z, o52E, o52K, z53, z53Z, z53E, z53e.symm, (by have s1 := num_3 (lo := 0) (hi := 99) p5.2.2.1 p5.2.2.2.2.1 (by omega); exact Or.inr ⟨by omega, ⟨by omega, by omega⟩, by omega⟩)⟩⟩
  ·
    have hk9 := num_k 0 99 p5 p16 (by omega)
    refine V_iconst 0 d_Reader_readNumber_15 (by decide) ?_
    obtain ⟨z54, z54Z, z54E, z54e⟩ : ∃ (y : Int32) (Y : Int), y.toInt = Y ∧ y = h15.1 91 1 := ⟨_, _, rfl, rfl⟩
    exact V_zret rfl (by decide) d_Reader_readNumber_16 ⟨0, rfl, ⟨hI17, f18, o8, o8Z, o8E, (kn_call fh15 o8K rfl), o9, o9Z, o9E, (kn_call fh15 o9K rfl), o10, o10Z, o10E, (kn_call fh15 o10K rfl), o11, o11Z, o11E, (kn_call fh15 o11K rfl), o19, o19Z, o19E, o19K, o20, o20Z, o20E, o20K, z54, z54Z, z54E, z54e.symm, (Or.inr ⟨tc_0, ⟨hk9.1, hk9.2.1⟩, hk9.2.2⟩)⟩⟩
def S_Reader_readNumberX_6_0 : List (Nat × Option Nat) := [(89, some 2), (89, some 3), (89, some 4), (89, some 5), (88, some 5), (88, some 6), (91, some 0)]
abbrev q_Reader_readNumberX_6_0 (h : Hp) (b : Int → Int) (T : Nat → Int → Int) (s : Int32) (sZ : Int) (t : Int32) (tZ : Int) (a : Int32) (aZ : Int) (w : Int32) (wZ : Int) : Option Value → Hp → Prop := pInt (fun r h' => Inv h' ∧ fr S_Reader_readNumberX_6_0 h h' ∧ ∃ (k : Int32) (kZ : Int), k.toInt = kZ ∧ h'.1 89 2 = k ∧ ∃ (f : Int32) (fZ : Int), f.toInt = fZ ∧ h'.1 89 3 = f ∧ ∃ (u : Int32) (uZ : Int), u.toInt = uZ ∧ h'.1 89 4 = u ∧ ∃ (v : Int32) (vZ : Int), v.toInt = vZ ∧ h'.1 89 5 = v ∧ ∃ (e : Int32) (eZ : Int), e.toInt = eZ ∧ h'.1 88 6 = e ∧ ∃ (y : Int32) (yZ : Int), y.toInt = yZ ∧ h'.1 88 5 = y ∧ ∃ (x : Int32) (xZ : Int), x.toInt = xZ ∧ h'.1 91 0 = x ∧ (r.toInt = 1 ∧ x_cN b tZ 1 9 = 0 ∧ uZ = x_en b tZ ∧ xZ = x_vl b tZ ∧ eZ = wZ ∧ yZ = aZ ∧ tZ < uZ ∧ uZ ≤ sZ ∨ r.toInt = 0 ∧ (x_cN b tZ 1 9 ≠ 0 ∧ eZ = x_cN b tZ 1 9) ∧ yZ = x_fr b tZ))
set_option maxRecDepth 100000 in
theorem c_Reader_readNumberX_6_0 (h : Hp) (b : Int → Int) (T : Nat → Int → Int) (hI : Inv h) (s : Int32) (sZ : Int) (sE : s.toInt = sZ) (sK : h.1 89 1 = s) (t : Int32) (tZ : Int) (tE : t.toInt = tZ) (tK : h.1 89 4 = t) (a : Int32) (aZ : Int) (aE : a.toInt = aZ) (aK : h.1 88 5 = a) (w : Int32) (wZ : Int) (wE : w.toInt = wZ) (wK : h.1 88 6 = w) (hy0 : TP h 90 sZ b) (hy1 : 0 ≤ tZ ∧ tZ ≤ sZ) : Ct y_Reader_readNumber b_Reader_readNumber 6 (some .boolean) 3 60 [.ref 88, .int 6, .int 0] h (q_Reader_readNumberX_6_0 h b T s sZ t tZ a aZ w wZ) := by
  refine ct_ow R_Reader [some (.ref 88), some (.int 6), some (.int 0), none, none, none] rfl (by decide) rfl (Nat.le_of_ble_eq_true rfl) ?_
  have f0 : fr S_Reader_readNumberX_6_0 h h := fr_rf
  have g1 : 0 ≤ sZ ∧ sZ ≤ 160 := inv_at hI sE sK.symm rfl
  have g2 : 0 ≤ tZ ∧ tZ ≤ 160 := inv_at hI tE tK.symm rfl
  refine V_aload_n 0 d_Reader_readNumber_0 rfl rfl ?_
  refine V_getR fa_Reader_12 sk_88 rfl d_Reader_readNumber_1 ?_
  refine N_callVV [] [] cv_Reader_48 sk_89 rfl d_Reader_readNumber_4 rfl (Nat.le_of_ble_eq_true rfl) (by decide) (by decide) (c_Tape_advanceX h b hI s sZ sE sK t tZ tE tK (TP_fr f0 (fun _ => rfl) hy0) (by omega)) (fun h4 p5 => ?_)
  obtain ⟨hI6, fh4, o8, o8Z, o8E, o8K, o9, o9Z, o9E, o9K, o10, o10Z, o10E, o10K, o11, o11Z, o11E, o11K, p5⟩ := p5
  have f7 : fr S_Reader_readNumberX_6_0 h h4 := fr_call f0 fh4 rfl
  have g12 : 0 ≤ o9Z ∧ o9Z ≤ 160 := inv_at hI6 o9E o9K.symm rfl
  have g13 : 0 ≤ o10Z ∧ o10Z ≤ 160 := inv_at hI6 o10E o10K.symm rfl
  refine V_aload_n 0 d_Reader_readNumber_7 rfl rfl ?_
  refine V_iconst 2 d_Reader_readNumber_8 (by decide) ?_
  refine N_callVI [.int 2] [] cv_Reader_84 sk_88 rfl d_Reader_readNumber_9 rfl (Nat.le_of_ble_eq_true rfl) (by decide) (by decide) (c_Reader_isKindX h4 hI6 2 2 tc_2 o8 o8Z o8E o8K o9 o9Z o9E o9K a aZ aE (kn_call fh4 aK rfl) w wZ wE (kn_call fh4 wK rfl)) (fun z14 h15 z14Z z14E p16 => ?_)
  obtain ⟨hI17, fh15, o19, o19Z, o19E, o19K, o20, o20Z, o20E, o20K, p16⟩ := p16
  have f18 : fr S_Reader_readNumberX_6_0 h h15 := fr_call f7 fh15 rfl
  refine V_if_ne 17 z14E d_Reader_readNumber_12 (by decide) (fun c21 => ?_) (fun c21 => ?_)
  ·
    replace p16 := kd_y p16 (by omega)
    replace p5 := adv_2 p5 (by omega)
    refine V_aload_n 0 d_Reader_readNumber_17 rfl rfl ?_
    refine V_getR fa_Reader_12 sk_88 rfl d_Reader_readNumber_18 ?_
    refine N_getK fa_Reader_122 sk_89 rfl d_Reader_readNumber_21 (kn_call fh15 o11K rfl) ?_
    refine V_istore_n 3 [some (.ref 88), some (.int 6), some (.int 0), some (.int o11), none, none] d_Reader_readNumber_24 rfl (by decide) rfl rfl ?_
    refine V_iload_n 3 d_Reader_readNumber_25 rfl rfl ?_
    refine V_gets (v := .ref 133) zL ws_Reader_125 d_Reader_readNumber_26 ?_
    refine V_iconst 3 d_Reader_readNumber_29 (by decide) ?_
    refine V_iload_n 1 d_Reader_readNumber_30 rfl rfl ?_
    refine V_imulw d_Reader_readNumber_31 (fun z22 z22e => ?_)
    obtain rfl : z22 = 18 := z22e.trans (by decide)
    refine V_iload_n 2 d_Reader_readNumber_32 rfl rfl ?_
    refine V_iaddw d_Reader_readNumber_33 (fun z23 z23e => ?_)
    obtain rfl : z23 = 18 := z23e.trans (by decide)
    refine V_tald roL tc_18 (by decide) d_Reader_readNumber_34 (fun z24 z24Z z24E z24e => ?_)
    obtain rfl : z24 = 1 := z24e.trans rfl
    refine V_icmp_lt 51 o11E tc_1 d_Reader_readNumber_35 (by decide) (fun c25 => ?_) (fun c25 => ?_)
    ·
      refine V_aload_n 0 d_Reader_readNumber_51 rfl rfl ?_
      refine V_iconst 3 d_Reader_readNumber_52 (by decide) ?_
      refine V_aload_n 0 d_Reader_readNumber_53 rfl rfl ?_
      refine V_getR fa_Reader_12 sk_88 rfl d_Reader_readNumber_54 ?_
      refine N_getK fa_Reader_81 sk_89 rfl d_Reader_readNumber_57 (kn_call fh15 o9K rfl) ?_
      refine N_callVI [.int 3, .int o9] [] cv_Reader_64 sk_88 rfl d_Reader_readNumber_60 rfl (Nat.le_of_ble_eq_true rfl) (by decide) (by decide) (c_Reader_isRefusedX h15 hI17 3 3 tc_3 o9 o9Z o9E) (fun z26 h27 z26Z z26E p28 => ?_)
      obtain ⟨hI29, fh27, o31, o31Z, o31E, o31K, o32, o32Z, o32E, o32K, p28⟩ := p28
      have f30 : fr S_Reader_readNumberX_6_0 h h27 := fr_call f18 fh27 rfl
      obtain ⟨z33, z33Z, z33E, z33e⟩ : ∃ (y : Int32) (Y : Int), y.toInt = Y ∧ y = h27.1 91 0 := ⟨_, _, rfl, rfl⟩
      exact V_zret rfl (by rw [z26E]; omega) d_Reader_readNumber_63 ⟨z26, rfl, ⟨hI29, f30, o8, o8Z, o8E, (kn_call fh27 (kn_call fh15 o8K rfl) rfl), o9, o9Z, o9E, (kn_call fh27 (kn_call fh15 o9K rfl) rfl), o10, o10Z, o10E, (kn_call fh27 (kn_call fh15 o10K rfl) rfl), o11, o11Z, o11E, (kn_call fh27 (kn_call fh15 o11K rfl) rfl), o31, o31Z, o31E, o31K, o32, o32Z, o32E, o32K, z33, z33Z, z33E, z33e.symm, (by have s1 := num_3 (lo := 1) (hi := 9) p5.2.2.1 p5.2.2.2.2.1 (by omega); exact Or.inr ⟨by omega, ⟨by omega, by omega⟩, by omega⟩)⟩⟩
    ·
      refine V_iload_n 3 d_Reader_readNumber_38 rfl rfl ?_
      refine V_gets (v := .ref 134) zM ws_Reader_128 d_Reader_readNumber_39 ?_
      refine V_iconst 3 d_Reader_readNumber_42 (by decide) ?_
      refine V_iload_n 1 d_Reader_readNumber_43 rfl rfl ?_
      refine V_imulw d_Reader_readNumber_44 (fun z34 z34e => ?_)
      obtain rfl : z34 = 18 := z34e.trans (by decide)
      refine V_iload_n 2 d_Reader_readNumber_45 rfl rfl ?_
      refine V_iaddw d_Reader_readNumber_46 (fun z35 z35e => ?_)
      obtain rfl : z35 = 18 := z35e.trans (by decide)
      refine V_tald roM tc_18 (by decide) d_Reader_readNumber_47 (fun z36 z36Z z36E z36e => ?_)
      obtain rfl : z36 = 9 := z36e.trans rfl
      refine V_icmp_le 64 o11E tc_9 d_Reader_readNumber_48 (by decide) (fun c37 => ?_) (fun c37 => ?_)
      ·
        refine V_aload_n 0 d_Reader_readNumber_64 rfl rfl ?_
        refine V_getR fa_Reader_25 sk_88 rfl d_Reader_readNumber_65 ?_
        refine V_iload_n 2 d_Reader_readNumber_68 rfl rfl ?_
        refine V_iload_n 3 d_Reader_readNumber_69 rfl rfl ?_
        refine N_iast sk_91 tc_0 (by omega) d_Reader_readNumber_70 (fun h38 eh38 => ?_)
        have hI39 : Inv h38 := inv_full hI17 eh38 rfl
        have f40 : fr S_Reader_readNumberX_6_0 h h38 := fr_put f18 eh38 rfl
        refine V_iload_n 2 d_Reader_readNumber_71 rfl rfl ?_
        refine V_if_ne 99 tc_0 d_Reader_readNumber_72 (by decide) (fun c41 => ?_) (fun c41 => ?_)
        ·
          exact absurd c41 (by decide)
        ·
          refine V_iload_n 1 d_Reader_readNumber_75 rfl rfl ?_
          refine N_callSI [.int 6] [] cs_Reader_131 d_Reader_readNumber_76 rfl (Nat.le_of_ble_eq_true rfl) (by decide) (by decide) (c_Reader_isOfOneX_6 h38) (fun z42 h43 z42Z z42E p44 => ?_)
          obtain ⟨eh43, p44⟩ := p44
          subst eh43
          refine V_if_eq 99 z42E d_Reader_readNumber_79 (by decide) (fun c45 => ?_) (fun c45 => ?_)
          ·
            refine V_iconst 0 d_Reader_readNumber_99 (by decide) ?_
            refine V_istore 4 [some (.ref 88), some (.int 6), some (.int 0), some (.int o11), some (.int 0), none] d_Reader_readNumber_100 (by decide) rfl rfl ?_
            refine V_iload_n 2 d_Reader_readNumber_102 rfl rfl ?_
            refine V_iconst 1 d_Reader_readNumber_103 (by decide) ?_
            refine V_icmp_ne 127 tc_0 tc_1 d_Reader_readNumber_104 (by decide) (fun c46 => ?_) (fun c46 => ?_)
            ·
              refine V_iconst 0 d_Reader_readNumber_127 (by decide) ?_
              refine V_istore 5 [some (.ref 88), some (.int 6), some (.int 0), some (.int o11), some (.int 0), some (.int 0)] d_Reader_readNumber_128 (by decide) rfl rfl ?_
              refine V_iload d_Reader_readNumber_130 rfl ?_
              refine V_if_ne 140 tc_0 d_Reader_readNumber_132 (by decide) (fun c47 => ?_) (fun c47 => ?_)
              ·
                exact absurd c47 (by decide)
              ·
                refine V_iload d_Reader_readNumber_135 rfl ?_
                refine V_if_eq 155 tc_0 d_Reader_readNumber_137 (by decide) (fun c48 => ?_) (fun c48 => ?_)
                ·
                  refine V_iconst 1 d_Reader_readNumber_155 (by decide) ?_
                  refine V_goto 160 d_Reader_readNumber_156 (by decide) ?_
                  exact V_zret rfl (by decide) d_Reader_readNumber_160 ⟨1, rfl, ⟨hI39, f40, o8, o8Z, o8E, (kn_ne eh38 (kn_call fh15 o8K rfl) (by decide)), o9, o9Z, o9E, (kn_ne eh38 (kn_call fh15 o9K rfl) (by decide)), o10, o10Z, o10E, (kn_ne eh38 (kn_call fh15 o10K rfl) (by decide)), o11, o11Z, o11E, (kn_ne eh38 (kn_call fh15 o11K rfl) (by decide)), o19, o19Z, o19E, (kn_ne eh38 o19K (by decide)), o20, o20Z, o20E, (kn_ne eh38 o20K (by decide)), o11, o11Z, o11E, (kn_put eh38), (by have s1 := num_0 (lo := 1) (hi := 9) p5.2.2.1 p5.2.2.2.2.1 ⟨by omega, by omega⟩; exact Or.inl ⟨rfl, by omega, by omega, by omega, by omega, by omega, by omega, by omega⟩)⟩⟩
                ·
                  exact absurd c48 (by decide)
            ·
              exact absurd c46 (by decide)
          ·
            refine V_aload_n 0 d_Reader_readNumber_82 rfl rfl ?_
            refine V_getR fa_Reader_29 sk_88 rfl d_Reader_readNumber_83 ?_
            refine V_iload_n 1 d_Reader_readNumber_86 rfl rfl ?_
            refine N_iald sk_92 tc_6 (by omega) d_Reader_readNumber_87 (fun z49 z49Z z49E z49e => ?_)
            refine V_iload_n 3 d_Reader_readNumber_88 rfl rfl ?_
            refine N_ishr d_Reader_readNumber_89 (fun z50 z50Z z50E z50e => ?_)
            refine V_iconst 1 d_Reader_readNumber_90 (by decide) ?_
            refine N_iand d_Reader_readNumber_91 (fun z51 z51Z z51E z51e => ?_)
            refine V_if_eq 99 z51E d_Reader_readNumber_92 (by decide) (fun c52 => ?_) (fun c52 => ?_)
            ·
              refine V_iconst 0 d_Reader_readNumber_99 (by decide) ?_
              refine V_istore 4 [some (.ref 88), some (.int 6), some (.int 0), some (.int o11), some (.int 0), none] d_Reader_readNumber_100 (by decide) rfl rfl ?_
              refine V_iload_n 2 d_Reader_readNumber_102 rfl rfl ?_
              refine V_iconst 1 d_Reader_readNumber_103 (by decide) ?_
              refine V_icmp_ne 127 tc_0 tc_1 d_Reader_readNumber_104 (by decide) (fun c53 => ?_) (fun c53 => ?_)
              ·
                refine V_iconst 0 d_Reader_readNumber_127 (by decide) ?_
                refine V_istore 5 [some (.ref 88), some (.int 6), some (.int 0), some (.int o11), some (.int 0), some (.int 0)] d_Reader_readNumber_128 (by decide) rfl rfl ?_
                refine V_iload d_Reader_readNumber_130 rfl ?_
                refine V_if_ne 140 tc_0 d_Reader_readNumber_132 (by decide) (fun c54 => ?_) (fun c54 => ?_)
                ·
                  exact absurd c54 (by decide)
                ·
                  refine V_iload d_Reader_readNumber_135 rfl ?_
                  refine V_if_eq 155 tc_0 d_Reader_readNumber_137 (by decide) (fun c55 => ?_) (fun c55 => ?_)
                  ·
                    refine V_iconst 1 d_Reader_readNumber_155 (by decide) ?_
                    refine V_goto 160 d_Reader_readNumber_156 (by decide) ?_
                    exact V_zret rfl (by decide) d_Reader_readNumber_160 ⟨1, rfl, ⟨hI39, f40, o8, o8Z, o8E, (kn_ne eh38 (kn_call fh15 o8K rfl) (by decide)), o9, o9Z, o9E, (kn_ne eh38 (kn_call fh15 o9K rfl) (by decide)), o10, o10Z, o10E, (kn_ne eh38 (kn_call fh15 o10K rfl) (by decide)), o11, o11Z, o11E, (kn_ne eh38 (kn_call fh15 o11K rfl) (by decide)), o19, o19Z, o19E, (kn_ne eh38 o19K (by decide)), o20, o20Z, o20E, (kn_ne eh38 o20K (by decide)), o11, o11Z, o11E, (kn_put eh38), (by have s1 := num_0 (lo := 1) (hi := 9) p5.2.2.1 p5.2.2.2.2.1 ⟨by omega, by omega⟩; exact Or.inl ⟨rfl, by omega, by omega, by omega, by omega, by omega, by omega, by omega⟩)⟩⟩
                  ·
                    exact absurd c55 (by decide)
              ·
                exact absurd c53 (by decide)
            ·
              refine V_iconst 1 d_Reader_readNumber_95 (by decide) ?_
              refine V_goto 100 d_Reader_readNumber_96 (by decide) ?_
              refine V_istore 4 [some (.ref 88), some (.int 6), some (.int 0), some (.int o11), some (.int 1), none] d_Reader_readNumber_100 (by decide) rfl rfl ?_
              refine V_iload_n 2 d_Reader_readNumber_102 rfl rfl ?_
              refine V_iconst 1 d_Reader_readNumber_103 (by decide) ?_
              refine V_icmp_ne 127 tc_0 tc_1 d_Reader_readNumber_104 (by decide) (fun c56 => ?_) (fun c56 => ?_)
              ·
                refine V_iconst 0 d_Reader_readNumber_127 (by decide) ?_
                refine V_istore 5 [some (.ref 88), some (.int 6), some (.int 0), some (.int o11), some (.int 1), some (.int 0)] d_Reader_readNumber_128 (by decide) rfl rfl ?_
                refine V_iload d_Reader_readNumber_130 rfl ?_
                refine V_if_ne 140 tc_1 d_Reader_readNumber_132 (by decide) (fun c57 => ?_) (fun c57 => ?_)
                ·
                  refine V_aload_n 0 d_Reader_readNumber_140 rfl rfl ?_
                  refine V_iconst 4 d_Reader_readNumber_141 (by decide) ?_
                  refine V_aload_n 0 d_Reader_readNumber_142 rfl rfl ?_
                  refine V_getR fa_Reader_12 sk_88 rfl d_Reader_readNumber_143 ?_
                  refine N_getK fa_Reader_81 sk_89 rfl d_Reader_readNumber_146 (kn_ne eh38 (kn_call fh15 o9K rfl) (by decide)) ?_
                  refine N_callVI [.int 4, .int o9] [] cv_Reader_64 sk_88 rfl d_Reader_readNumber_149 rfl (Nat.le_of_ble_eq_true rfl) (by decide) (by decide) (c_Reader_isRefusedX h38 hI39 4 4 tc_4 o9 o9Z o9E) (fun z58 h59 z58Z z58E p60 => ?_)
                  obtain ⟨hI61, fh59, o63, o63Z, o63E, o63K, o64, o64Z, o64E, o64K, p60⟩ := p60
                  have f62 : fr S_Reader_readNumberX_6_0 h h59 := fr_call f40 fh59 rfl
                  refine V_if_eq 159 z58E d_Reader_readNumber_152 (by decide) (fun c65 => ?_) (fun c65 => ?_)
                  ·
                    refine V_iconst 0 d_Reader_readNumber_159 (by decide) ?_
                    exact V_zret rfl (by decide) d_Reader_readNumber_160 ⟨0, rfl, ⟨hI61, f62, o8, o8Z, o8E, (kn_call fh59 (kn_ne eh38 (kn_call fh15 o8K rfl) (by decide)) rfl), o9, o9Z, o9E, (kn_call fh59 (kn_ne eh38 (kn_call fh15 o9K rfl) (by decide)) rfl), o10, o10Z, o10E, (kn_call fh59 (kn_ne eh38 (kn_call fh15 o10K rfl) (by decide)) rfl), o11, o11Z, o11E, (kn_call fh59 (kn_ne eh38 (kn_call fh15 o11K rfl) (by decide)) rfl), o63, o63Z, o63E, o63K, o64, o64Z, o64E, o64K, o11, o11Z, o11E, (kn_call fh59 (kn_put eh38) rfl), (by have s1 := num_0 (lo := 1) (hi := 9) p5.2.2.1 p5.2.2.2.2.1 ⟨by omega, by omega⟩; exact Or.inr ⟨tc_0, ⟨by omega, by omega⟩, by omega⟩)⟩⟩
                  ·
                    refine V_iconst 1 d_Reader_readNumber_155 (by decide) ?_
                    refine V_goto 160 d_Reader_readNumber_156 (by decide) ?_
                    exact V_zret rfl (by decide) d_Reader_readNumber_160 ⟨1, rfl, ⟨hI61, f62, o8, o8Z, o8E, (kn_call fh59 (kn_ne eh38 (kn_call fh15 o8K rfl) (by decide)) rfl), o9, o9Z, o9E, (kn_call fh59 (kn_ne eh38 (kn_call fh15 o9K rfl) (by decide)) rfl), o10, o10Z, o10E, (kn_call fh59 (kn_ne eh38 (kn_call fh15 o10K rfl) (by decide)) rfl), o11, o11Z, o11E, (kn_call fh59 (kn_ne eh38 (kn_call fh15 o11K rfl) (by decide)) rfl), o63, o63Z, o63E, o63K, o64, o64Z, o64E, o64K, o11, o11Z, o11E, (kn_call fh59 (kn_put eh38) rfl), (by have s1 := num_0 (lo := 1) (hi := 9) p5.2.2.1 p5.2.2.2.2.1 ⟨by omega, by omega⟩; exact Or.inl ⟨rfl, by omega, by omega, by omega, by omega, by omega, by omega, by omega⟩)⟩⟩
                ·
                  exact absurd c57 (by decide)
              ·
                exact absurd c56 (by decide)
      ·
        refine V_aload_n 0 d_Reader_readNumber_51 rfl rfl ?_
        refine V_iconst 3 d_Reader_readNumber_52 (by decide) ?_
        refine V_aload_n 0 d_Reader_readNumber_53 rfl rfl ?_
        refine V_getR fa_Reader_12 sk_88 rfl d_Reader_readNumber_54 ?_
        refine N_getK fa_Reader_81 sk_89 rfl d_Reader_readNumber_57 (kn_call fh15 o9K rfl) ?_
        refine N_callVI [.int 3, .int o9] [] cv_Reader_64 sk_88 rfl d_Reader_readNumber_60 rfl (Nat.le_of_ble_eq_true rfl) (by decide) (by decide) (c_Reader_isRefusedX h15 hI17 3 3 tc_3 o9 o9Z o9E) (fun z66 h67 z66Z z66E p68 => ?_)
        obtain ⟨hI69, fh67, o71, o71Z, o71E, o71K, o72, o72Z, o72E, o72K, p68⟩ := p68
        have f70 : fr S_Reader_readNumberX_6_0 h h67 := fr_call f18 fh67 rfl
        obtain ⟨z73, z73Z, z73E, z73e⟩ : ∃ (y : Int32) (Y : Int), y.toInt = Y ∧ y = h67.1 91 0 := ⟨_, _, rfl, rfl⟩
        exact V_zret rfl (by rw [z66E]; omega) d_Reader_readNumber_63 ⟨z66, rfl, ⟨hI69, f70, o8, o8Z, o8E, (kn_call fh67 (kn_call fh15 o8K rfl) rfl), o9, o9Z, o9E, (kn_call fh67 (kn_call fh15 o9K rfl) rfl), o10, o10Z, o10E, (kn_call fh67 (kn_call fh15 o10K rfl) rfl), o11, o11Z, o11E, (kn_call fh67 (kn_call fh15 o11K rfl) rfl), o71, o71Z, o71E, o71K, o72, o72Z, o72E, o72K, z73, z73Z, z73E, z73e.symm, (by have s1 := num_3 (lo := 1) (hi := 9) p5.2.2.1 p5.2.2.2.2.1 (by omega); exact Or.inr ⟨by omega, ⟨by omega, by omega⟩, by omega⟩)⟩⟩
  ·
    have hk9 := num_k 1 9 p5 p16 (by omega)
    refine V_iconst 0 d_Reader_readNumber_15 (by decide) ?_
    obtain ⟨z74, z74Z, z74E, z74e⟩ : ∃ (y : Int32) (Y : Int), y.toInt = Y ∧ y = h15.1 91 0 := ⟨_, _, rfl, rfl⟩
    exact V_zret rfl (by decide) d_Reader_readNumber_16 ⟨0, rfl, ⟨hI17, f18, o8, o8Z, o8E, (kn_call fh15 o8K rfl), o9, o9Z, o9E, (kn_call fh15 o9K rfl), o10, o10Z, o10E, (kn_call fh15 o10K rfl), o11, o11Z, o11E, (kn_call fh15 o11K rfl), o19, o19Z, o19E, o19K, o20, o20Z, o20E, o20K, z74, z74Z, z74E, z74e.symm, (Or.inr ⟨tc_0, ⟨hk9.1, hk9.2.1⟩, hk9.2.2⟩)⟩⟩
def S_Reader_readNumberX_7_0 : List (Nat × Option Nat) := [(89, some 2), (89, some 3), (89, some 4), (89, some 5), (88, some 5), (88, some 6), (91, some 0)]
abbrev q_Reader_readNumberX_7_0 (h : Hp) (b : Int → Int) (T : Nat → Int → Int) (s : Int32) (sZ : Int) (t : Int32) (tZ : Int) (a : Int32) (aZ : Int) (w : Int32) (wZ : Int) : Option Value → Hp → Prop := pInt (fun r h' => Inv h' ∧ fr S_Reader_readNumberX_7_0 h h' ∧ ∃ (k : Int32) (kZ : Int), k.toInt = kZ ∧ h'.1 89 2 = k ∧ ∃ (f : Int32) (fZ : Int), f.toInt = fZ ∧ h'.1 89 3 = f ∧ ∃ (u : Int32) (uZ : Int), u.toInt = uZ ∧ h'.1 89 4 = u ∧ ∃ (v : Int32) (vZ : Int), v.toInt = vZ ∧ h'.1 89 5 = v ∧ ∃ (e : Int32) (eZ : Int), e.toInt = eZ ∧ h'.1 88 6 = e ∧ ∃ (y : Int32) (yZ : Int), y.toInt = yZ ∧ h'.1 88 5 = y ∧ ∃ (x : Int32) (xZ : Int), x.toInt = xZ ∧ h'.1 91 0 = x ∧ (r.toInt = 1 ∧ x_cN b tZ 1 99 = 0 ∧ uZ = x_en b tZ ∧ xZ = x_vl b tZ ∧ eZ = wZ ∧ yZ = aZ ∧ tZ < uZ ∧ uZ ≤ sZ ∨ r.toInt = 0 ∧ (x_cN b tZ 1 99 ≠ 0 ∧ eZ = x_cN b tZ 1 99) ∧ yZ = x_fr b tZ))
set_option maxRecDepth 100000 in
theorem c_Reader_readNumberX_7_0 (h : Hp) (b : Int → Int) (T : Nat → Int → Int) (hI : Inv h) (s : Int32) (sZ : Int) (sE : s.toInt = sZ) (sK : h.1 89 1 = s) (t : Int32) (tZ : Int) (tE : t.toInt = tZ) (tK : h.1 89 4 = t) (a : Int32) (aZ : Int) (aE : a.toInt = aZ) (aK : h.1 88 5 = a) (w : Int32) (wZ : Int) (wE : w.toInt = wZ) (wK : h.1 88 6 = w) (hy0 : TP h 90 sZ b) (hy1 : 0 ≤ tZ ∧ tZ ≤ sZ) : Ct y_Reader_readNumber b_Reader_readNumber 6 (some .boolean) 3 60 [.ref 88, .int 7, .int 0] h (q_Reader_readNumberX_7_0 h b T s sZ t tZ a aZ w wZ) := by
  refine ct_ow R_Reader [some (.ref 88), some (.int 7), some (.int 0), none, none, none] rfl (by decide) rfl (Nat.le_of_ble_eq_true rfl) ?_
  have f0 : fr S_Reader_readNumberX_7_0 h h := fr_rf
  have g1 : 0 ≤ sZ ∧ sZ ≤ 160 := inv_at hI sE sK.symm rfl
  have g2 : 0 ≤ tZ ∧ tZ ≤ 160 := inv_at hI tE tK.symm rfl
  refine V_aload_n 0 d_Reader_readNumber_0 rfl rfl ?_
  refine V_getR fa_Reader_12 sk_88 rfl d_Reader_readNumber_1 ?_
  refine N_callVV [] [] cv_Reader_48 sk_89 rfl d_Reader_readNumber_4 rfl (Nat.le_of_ble_eq_true rfl) (by decide) (by decide) (c_Tape_advanceX h b hI s sZ sE sK t tZ tE tK (TP_fr f0 (fun _ => rfl) hy0) (by omega)) (fun h4 p5 => ?_)
  obtain ⟨hI6, fh4, o8, o8Z, o8E, o8K, o9, o9Z, o9E, o9K, o10, o10Z, o10E, o10K, o11, o11Z, o11E, o11K, p5⟩ := p5
  have f7 : fr S_Reader_readNumberX_7_0 h h4 := fr_call f0 fh4 rfl
  have g12 : 0 ≤ o9Z ∧ o9Z ≤ 160 := inv_at hI6 o9E o9K.symm rfl
  have g13 : 0 ≤ o10Z ∧ o10Z ≤ 160 := inv_at hI6 o10E o10K.symm rfl
  refine V_aload_n 0 d_Reader_readNumber_7 rfl rfl ?_
  refine V_iconst 2 d_Reader_readNumber_8 (by decide) ?_
  refine N_callVI [.int 2] [] cv_Reader_84 sk_88 rfl d_Reader_readNumber_9 rfl (Nat.le_of_ble_eq_true rfl) (by decide) (by decide) (c_Reader_isKindX h4 hI6 2 2 tc_2 o8 o8Z o8E o8K o9 o9Z o9E o9K a aZ aE (kn_call fh4 aK rfl) w wZ wE (kn_call fh4 wK rfl)) (fun z14 h15 z14Z z14E p16 => ?_)
  obtain ⟨hI17, fh15, o19, o19Z, o19E, o19K, o20, o20Z, o20E, o20K, p16⟩ := p16
  have f18 : fr S_Reader_readNumberX_7_0 h h15 := fr_call f7 fh15 rfl
  refine V_if_ne 17 z14E d_Reader_readNumber_12 (by decide) (fun c21 => ?_) (fun c21 => ?_)
  ·
    replace p16 := kd_y p16 (by omega)
    replace p5 := adv_2 p5 (by omega)
    refine V_aload_n 0 d_Reader_readNumber_17 rfl rfl ?_
    refine V_getR fa_Reader_12 sk_88 rfl d_Reader_readNumber_18 ?_
    refine N_getK fa_Reader_122 sk_89 rfl d_Reader_readNumber_21 (kn_call fh15 o11K rfl) ?_
    refine V_istore_n 3 [some (.ref 88), some (.int 7), some (.int 0), some (.int o11), none, none] d_Reader_readNumber_24 rfl (by decide) rfl rfl ?_
    refine V_iload_n 3 d_Reader_readNumber_25 rfl rfl ?_
    refine V_gets (v := .ref 133) zL ws_Reader_125 d_Reader_readNumber_26 ?_
    refine V_iconst 3 d_Reader_readNumber_29 (by decide) ?_
    refine V_iload_n 1 d_Reader_readNumber_30 rfl rfl ?_
    refine V_imulw d_Reader_readNumber_31 (fun z22 z22e => ?_)
    obtain rfl : z22 = 21 := z22e.trans (by decide)
    refine V_iload_n 2 d_Reader_readNumber_32 rfl rfl ?_
    refine V_iaddw d_Reader_readNumber_33 (fun z23 z23e => ?_)
    obtain rfl : z23 = 21 := z23e.trans (by decide)
    refine V_tald roL tc_21 (by decide) d_Reader_readNumber_34 (fun z24 z24Z z24E z24e => ?_)
    obtain rfl : z24 = 1 := z24e.trans rfl
    refine V_icmp_lt 51 o11E tc_1 d_Reader_readNumber_35 (by decide) (fun c25 => ?_) (fun c25 => ?_)
    ·
      refine V_aload_n 0 d_Reader_readNumber_51 rfl rfl ?_
      refine V_iconst 3 d_Reader_readNumber_52 (by decide) ?_
      refine V_aload_n 0 d_Reader_readNumber_53 rfl rfl ?_
      refine V_getR fa_Reader_12 sk_88 rfl d_Reader_readNumber_54 ?_
      refine N_getK fa_Reader_81 sk_89 rfl d_Reader_readNumber_57 (kn_call fh15 o9K rfl) ?_
      refine N_callVI [.int 3, .int o9] [] cv_Reader_64 sk_88 rfl d_Reader_readNumber_60 rfl (Nat.le_of_ble_eq_true rfl) (by decide) (by decide) (c_Reader_isRefusedX h15 hI17 3 3 tc_3 o9 o9Z o9E) (fun z26 h27 z26Z z26E p28 => ?_)
      obtain ⟨hI29, fh27, o31, o31Z, o31E, o31K, o32, o32Z, o32E, o32K, p28⟩ := p28
      have f30 : fr S_Reader_readNumberX_7_0 h h27 := fr_call f18 fh27 rfl
      obtain ⟨z33, z33Z, z33E, z33e⟩ : ∃ (y : Int32) (Y : Int), y.toInt = Y ∧ y = h27.1 91 0 := ⟨_, _, rfl, rfl⟩
      exact V_zret rfl (by rw [z26E]; omega) d_Reader_readNumber_63 ⟨z26, rfl, ⟨hI29, f30, o8, o8Z, o8E, (kn_call fh27 (kn_call fh15 o8K rfl) rfl), o9, o9Z, o9E, (kn_call fh27 (kn_call fh15 o9K rfl) rfl), o10, o10Z, o10E, (kn_call fh27 (kn_call fh15 o10K rfl) rfl), o11, o11Z, o11E, (kn_call fh27 (kn_call fh15 o11K rfl) rfl), o31, o31Z, o31E, o31K, o32, o32Z, o32E, o32K, z33, z33Z, z33E, z33e.symm, (by have s1 := num_3 (lo := 1) (hi := 99) p5.2.2.1 p5.2.2.2.2.1 (by omega); exact Or.inr ⟨by omega, ⟨by omega, by omega⟩, by omega⟩)⟩⟩
    ·
      refine V_iload_n 3 d_Reader_readNumber_38 rfl rfl ?_
      refine V_gets (v := .ref 134) zM ws_Reader_128 d_Reader_readNumber_39 ?_
      refine V_iconst 3 d_Reader_readNumber_42 (by decide) ?_
      refine V_iload_n 1 d_Reader_readNumber_43 rfl rfl ?_
      refine V_imulw d_Reader_readNumber_44 (fun z34 z34e => ?_)
      obtain rfl : z34 = 21 := z34e.trans (by decide)
      refine V_iload_n 2 d_Reader_readNumber_45 rfl rfl ?_
      refine V_iaddw d_Reader_readNumber_46 (fun z35 z35e => ?_)
      obtain rfl : z35 = 21 := z35e.trans (by decide)
      refine V_tald roM tc_21 (by decide) d_Reader_readNumber_47 (fun z36 z36Z z36E z36e => ?_)
      obtain rfl : z36 = 99 := z36e.trans rfl
      refine V_icmp_le 64 o11E tc_99 d_Reader_readNumber_48 (by decide) (fun c37 => ?_) (fun c37 => ?_)
      ·
        refine V_aload_n 0 d_Reader_readNumber_64 rfl rfl ?_
        refine V_getR fa_Reader_25 sk_88 rfl d_Reader_readNumber_65 ?_
        refine V_iload_n 2 d_Reader_readNumber_68 rfl rfl ?_
        refine V_iload_n 3 d_Reader_readNumber_69 rfl rfl ?_
        refine N_iast sk_91 tc_0 (by omega) d_Reader_readNumber_70 (fun h38 eh38 => ?_)
        have hI39 : Inv h38 := inv_full hI17 eh38 rfl
        have f40 : fr S_Reader_readNumberX_7_0 h h38 := fr_put f18 eh38 rfl
        refine V_iload_n 2 d_Reader_readNumber_71 rfl rfl ?_
        refine V_if_ne 99 tc_0 d_Reader_readNumber_72 (by decide) (fun c41 => ?_) (fun c41 => ?_)
        ·
          exact absurd c41 (by decide)
        ·
          refine V_iload_n 1 d_Reader_readNumber_75 rfl rfl ?_
          refine N_callSI [.int 7] [] cs_Reader_131 d_Reader_readNumber_76 rfl (Nat.le_of_ble_eq_true rfl) (by decide) (by decide) (c_Reader_isOfOneX_7 h38) (fun z42 h43 z42Z z42E p44 => ?_)
          obtain ⟨eh43, p44⟩ := p44
          subst eh43
          refine V_if_eq 99 z42E d_Reader_readNumber_79 (by decide) (fun c45 => ?_) (fun c45 => ?_)
          ·
            refine V_iconst 0 d_Reader_readNumber_99 (by decide) ?_
            refine V_istore 4 [some (.ref 88), some (.int 7), some (.int 0), some (.int o11), some (.int 0), none] d_Reader_readNumber_100 (by decide) rfl rfl ?_
            refine V_iload_n 2 d_Reader_readNumber_102 rfl rfl ?_
            refine V_iconst 1 d_Reader_readNumber_103 (by decide) ?_
            refine V_icmp_ne 127 tc_0 tc_1 d_Reader_readNumber_104 (by decide) (fun c46 => ?_) (fun c46 => ?_)
            ·
              refine V_iconst 0 d_Reader_readNumber_127 (by decide) ?_
              refine V_istore 5 [some (.ref 88), some (.int 7), some (.int 0), some (.int o11), some (.int 0), some (.int 0)] d_Reader_readNumber_128 (by decide) rfl rfl ?_
              refine V_iload d_Reader_readNumber_130 rfl ?_
              refine V_if_ne 140 tc_0 d_Reader_readNumber_132 (by decide) (fun c47 => ?_) (fun c47 => ?_)
              ·
                exact absurd c47 (by decide)
              ·
                refine V_iload d_Reader_readNumber_135 rfl ?_
                refine V_if_eq 155 tc_0 d_Reader_readNumber_137 (by decide) (fun c48 => ?_) (fun c48 => ?_)
                ·
                  refine V_iconst 1 d_Reader_readNumber_155 (by decide) ?_
                  refine V_goto 160 d_Reader_readNumber_156 (by decide) ?_
                  exact V_zret rfl (by decide) d_Reader_readNumber_160 ⟨1, rfl, ⟨hI39, f40, o8, o8Z, o8E, (kn_ne eh38 (kn_call fh15 o8K rfl) (by decide)), o9, o9Z, o9E, (kn_ne eh38 (kn_call fh15 o9K rfl) (by decide)), o10, o10Z, o10E, (kn_ne eh38 (kn_call fh15 o10K rfl) (by decide)), o11, o11Z, o11E, (kn_ne eh38 (kn_call fh15 o11K rfl) (by decide)), o19, o19Z, o19E, (kn_ne eh38 o19K (by decide)), o20, o20Z, o20E, (kn_ne eh38 o20K (by decide)), o11, o11Z, o11E, (kn_put eh38), (by have s1 := num_0 (lo := 1) (hi := 99) p5.2.2.1 p5.2.2.2.2.1 ⟨by omega, by omega⟩; exact Or.inl ⟨rfl, by omega, by omega, by omega, by omega, by omega, by omega, by omega⟩)⟩⟩
                ·
                  exact absurd c48 (by decide)
            ·
              exact absurd c46 (by decide)
          ·
            refine V_aload_n 0 d_Reader_readNumber_82 rfl rfl ?_
            refine V_getR fa_Reader_29 sk_88 rfl d_Reader_readNumber_83 ?_
            refine V_iload_n 1 d_Reader_readNumber_86 rfl rfl ?_
            refine N_iald sk_92 tc_7 (by omega) d_Reader_readNumber_87 (fun z49 z49Z z49E z49e => ?_)
            refine V_iload_n 3 d_Reader_readNumber_88 rfl rfl ?_
            refine N_ishr d_Reader_readNumber_89 (fun z50 z50Z z50E z50e => ?_)
            refine V_iconst 1 d_Reader_readNumber_90 (by decide) ?_
            refine N_iand d_Reader_readNumber_91 (fun z51 z51Z z51E z51e => ?_)
            refine V_if_eq 99 z51E d_Reader_readNumber_92 (by decide) (fun c52 => ?_) (fun c52 => ?_)
            ·
              refine V_iconst 0 d_Reader_readNumber_99 (by decide) ?_
              refine V_istore 4 [some (.ref 88), some (.int 7), some (.int 0), some (.int o11), some (.int 0), none] d_Reader_readNumber_100 (by decide) rfl rfl ?_
              refine V_iload_n 2 d_Reader_readNumber_102 rfl rfl ?_
              refine V_iconst 1 d_Reader_readNumber_103 (by decide) ?_
              refine V_icmp_ne 127 tc_0 tc_1 d_Reader_readNumber_104 (by decide) (fun c53 => ?_) (fun c53 => ?_)
              ·
                refine V_iconst 0 d_Reader_readNumber_127 (by decide) ?_
                refine V_istore 5 [some (.ref 88), some (.int 7), some (.int 0), some (.int o11), some (.int 0), some (.int 0)] d_Reader_readNumber_128 (by decide) rfl rfl ?_
                refine V_iload d_Reader_readNumber_130 rfl ?_
                refine V_if_ne 140 tc_0 d_Reader_readNumber_132 (by decide) (fun c54 => ?_) (fun c54 => ?_)
                ·
                  exact absurd c54 (by decide)
                ·
                  refine V_iload d_Reader_readNumber_135 rfl ?_
                  refine V_if_eq 155 tc_0 d_Reader_readNumber_137 (by decide) (fun c55 => ?_) (fun c55 => ?_)
                  ·
                    refine V_iconst 1 d_Reader_readNumber_155 (by decide) ?_
                    refine V_goto 160 d_Reader_readNumber_156 (by decide) ?_
                    exact V_zret rfl (by decide) d_Reader_readNumber_160 ⟨1, rfl, ⟨hI39, f40, o8, o8Z, o8E, (kn_ne eh38 (kn_call fh15 o8K rfl) (by decide)), o9, o9Z, o9E, (kn_ne eh38 (kn_call fh15 o9K rfl) (by decide)), o10, o10Z, o10E, (kn_ne eh38 (kn_call fh15 o10K rfl) (by decide)), o11, o11Z, o11E, (kn_ne eh38 (kn_call fh15 o11K rfl) (by decide)), o19, o19Z, o19E, (kn_ne eh38 o19K (by decide)), o20, o20Z, o20E, (kn_ne eh38 o20K (by decide)), o11, o11Z, o11E, (kn_put eh38), (by have s1 := num_0 (lo := 1) (hi := 99) p5.2.2.1 p5.2.2.2.2.1 ⟨by omega, by omega⟩; exact Or.inl ⟨rfl, by omega, by omega, by omega, by omega, by omega, by omega, by omega⟩)⟩⟩
                  ·
                    exact absurd c55 (by decide)
              ·
                exact absurd c53 (by decide)
            ·
              refine V_iconst 1 d_Reader_readNumber_95 (by decide) ?_
              refine V_goto 100 d_Reader_readNumber_96 (by decide) ?_
              refine V_istore 4 [some (.ref 88), some (.int 7), some (.int 0), some (.int o11), some (.int 1), none] d_Reader_readNumber_100 (by decide) rfl rfl ?_
              refine V_iload_n 2 d_Reader_readNumber_102 rfl rfl ?_
              refine V_iconst 1 d_Reader_readNumber_103 (by decide) ?_
              refine V_icmp_ne 127 tc_0 tc_1 d_Reader_readNumber_104 (by decide) (fun c56 => ?_) (fun c56 => ?_)
              ·
                refine V_iconst 0 d_Reader_readNumber_127 (by decide) ?_
                refine V_istore 5 [some (.ref 88), some (.int 7), some (.int 0), some (.int o11), some (.int 1), some (.int 0)] d_Reader_readNumber_128 (by decide) rfl rfl ?_
                refine V_iload d_Reader_readNumber_130 rfl ?_
                refine V_if_ne 140 tc_1 d_Reader_readNumber_132 (by decide) (fun c57 => ?_) (fun c57 => ?_)
                ·
                  refine V_aload_n 0 d_Reader_readNumber_140 rfl rfl ?_
                  refine V_iconst 4 d_Reader_readNumber_141 (by decide) ?_
                  refine V_aload_n 0 d_Reader_readNumber_142 rfl rfl ?_
                  refine V_getR fa_Reader_12 sk_88 rfl d_Reader_readNumber_143 ?_
                  refine N_getK fa_Reader_81 sk_89 rfl d_Reader_readNumber_146 (kn_ne eh38 (kn_call fh15 o9K rfl) (by decide)) ?_
                  refine N_callVI [.int 4, .int o9] [] cv_Reader_64 sk_88 rfl d_Reader_readNumber_149 rfl (Nat.le_of_ble_eq_true rfl) (by decide) (by decide) (c_Reader_isRefusedX h38 hI39 4 4 tc_4 o9 o9Z o9E) (fun z58 h59 z58Z z58E p60 => ?_)
                  obtain ⟨hI61, fh59, o63, o63Z, o63E, o63K, o64, o64Z, o64E, o64K, p60⟩ := p60
                  have f62 : fr S_Reader_readNumberX_7_0 h h59 := fr_call f40 fh59 rfl
                  refine V_if_eq 159 z58E d_Reader_readNumber_152 (by decide) (fun c65 => ?_) (fun c65 => ?_)
                  ·
                    refine V_iconst 0 d_Reader_readNumber_159 (by decide) ?_
                    exact V_zret rfl (by decide) d_Reader_readNumber_160 ⟨0, rfl, ⟨hI61, f62, o8, o8Z, o8E, (kn_call fh59 (kn_ne eh38 (kn_call fh15 o8K rfl) (by decide)) rfl), o9, o9Z, o9E, (kn_call fh59 (kn_ne eh38 (kn_call fh15 o9K rfl) (by decide)) rfl), o10, o10Z, o10E, (kn_call fh59 (kn_ne eh38 (kn_call fh15 o10K rfl) (by decide)) rfl), o11, o11Z, o11E, (kn_call fh59 (kn_ne eh38 (kn_call fh15 o11K rfl) (by decide)) rfl), o63, o63Z, o63E, o63K, o64, o64Z, o64E, o64K, o11, o11Z, o11E, (kn_call fh59 (kn_put eh38) rfl), (by have s1 := num_0 (lo := 1) (hi := 99) p5.2.2.1 p5.2.2.2.2.1 ⟨by omega, by omega⟩; exact Or.inr ⟨tc_0, ⟨by omega, by omega⟩, by omega⟩)⟩⟩
                  ·
                    refine V_iconst 1 d_Reader_readNumber_155 (by decide) ?_
                    refine V_goto 160 d_Reader_readNumber_156 (by decide) ?_
                    exact V_zret rfl (by decide) d_Reader_readNumber_160 ⟨1, rfl, ⟨hI61, f62, o8, o8Z, o8E, (kn_call fh59 (kn_ne eh38 (kn_call fh15 o8K rfl) (by decide)) rfl), o9, o9Z, o9E, (kn_call fh59 (kn_ne eh38 (kn_call fh15 o9K rfl) (by decide)) rfl), o10, o10Z, o10E, (kn_call fh59 (kn_ne eh38 (kn_call fh15 o10K rfl) (by decide)) rfl), o11, o11Z, o11E, (kn_call fh59 (kn_ne eh38 (kn_call fh15 o11K rfl) (by decide)) rfl), o63, o63Z, o63E, o63K, o64, o64Z, o64E, o64K, o11, o11Z, o11E, (kn_call fh59 (kn_put eh38) rfl), (by have s1 := num_0 (lo := 1) (hi := 99) p5.2.2.1 p5.2.2.2.2.1 ⟨by omega, by omega⟩; exact Or.inl ⟨rfl, by omega, by omega, by omega, by omega, by omega, by omega, by omega⟩)⟩⟩
                ·
                  exact absurd c57 (by decide)
              ·
                exact absurd c56 (by decide)
      ·
        refine V_aload_n 0 d_Reader_readNumber_51 rfl rfl ?_
        refine V_iconst 3 d_Reader_readNumber_52 (by decide) ?_
        refine V_aload_n 0 d_Reader_readNumber_53 rfl rfl ?_
        refine V_getR fa_Reader_12 sk_88 rfl d_Reader_readNumber_54 ?_
        refine N_getK fa_Reader_81 sk_89 rfl d_Reader_readNumber_57 (kn_call fh15 o9K rfl) ?_
        refine N_callVI [.int 3, .int o9] [] cv_Reader_64 sk_88 rfl d_Reader_readNumber_60 rfl (Nat.le_of_ble_eq_true rfl) (by decide) (by decide) (c_Reader_isRefusedX h15 hI17 3 3 tc_3 o9 o9Z o9E) (fun z66 h67 z66Z z66E p68 => ?_)
        obtain ⟨hI69, fh67, o71, o71Z, o71E, o71K, o72, o72Z, o72E, o72K, p68⟩ := p68
        have f70 : fr S_Reader_readNumberX_7_0 h h67 := fr_call f18 fh67 rfl
        obtain ⟨z73, z73Z, z73E, z73e⟩ : ∃ (y : Int32) (Y : Int), y.toInt = Y ∧ y = h67.1 91 0 := ⟨_, _, rfl, rfl⟩
        exact V_zret rfl (by rw [z66E]; omega) d_Reader_readNumber_63 ⟨z66, rfl, ⟨hI69, f70, o8, o8Z, o8E, (kn_call fh67 (kn_call fh15 o8K rfl) rfl), o9, o9Z, o9E, (kn_call fh67 (kn_call fh15 o9K rfl) rfl), o10, o10Z, o10E, (kn_call fh67 (kn_call fh15 o10K rfl) rfl), o11, o11Z, o11E, (kn_call fh67 (kn_call fh15 o11K rfl) rfl), o71, o71Z, o71E, o71K, o72, o72Z, o72E, o72K, z73, z73Z, z73E, z73e.symm, (by have s1 := num_3 (lo := 1) (hi := 99) p5.2.2.1 p5.2.2.2.2.1 (by omega); exact Or.inr ⟨by omega, ⟨by omega, by omega⟩, by omega⟩)⟩⟩
  ·
    have hk9 := num_k 1 99 p5 p16 (by omega)
    refine V_iconst 0 d_Reader_readNumber_15 (by decide) ?_
    obtain ⟨z74, z74Z, z74E, z74e⟩ : ∃ (y : Int32) (Y : Int), y.toInt = Y ∧ y = h15.1 91 0 := ⟨_, _, rfl, rfl⟩
    exact V_zret rfl (by decide) d_Reader_readNumber_16 ⟨0, rfl, ⟨hI17, f18, o8, o8Z, o8E, (kn_call fh15 o8K rfl), o9, o9Z, o9E, (kn_call fh15 o9K rfl), o10, o10Z, o10E, (kn_call fh15 o10K rfl), o11, o11Z, o11E, (kn_call fh15 o11K rfl), o19, o19Z, o19E, o19K, o20, o20Z, o20E, o20K, z74, z74Z, z74E, z74e.symm, (Or.inr ⟨tc_0, ⟨hk9.1, hk9.2.1⟩, hk9.2.2⟩)⟩⟩
def S_Reader_readNumberX_8_0 : List (Nat × Option Nat) := [(89, some 2), (89, some 3), (89, some 4), (89, some 5), (88, some 5), (88, some 6), (91, some 0)]
abbrev q_Reader_readNumberX_8_0 (h : Hp) (b : Int → Int) (T : Nat → Int → Int) (s : Int32) (sZ : Int) (t : Int32) (tZ : Int) (a : Int32) (aZ : Int) (w : Int32) (wZ : Int) : Option Value → Hp → Prop := pInt (fun r h' => Inv h' ∧ fr S_Reader_readNumberX_8_0 h h' ∧ ∃ (k : Int32) (kZ : Int), k.toInt = kZ ∧ h'.1 89 2 = k ∧ ∃ (f : Int32) (fZ : Int), f.toInt = fZ ∧ h'.1 89 3 = f ∧ ∃ (u : Int32) (uZ : Int), u.toInt = uZ ∧ h'.1 89 4 = u ∧ ∃ (v : Int32) (vZ : Int), v.toInt = vZ ∧ h'.1 89 5 = v ∧ ∃ (e : Int32) (eZ : Int), e.toInt = eZ ∧ h'.1 88 6 = e ∧ ∃ (y : Int32) (yZ : Int), y.toInt = yZ ∧ h'.1 88 5 = y ∧ ∃ (x : Int32) (xZ : Int), x.toInt = xZ ∧ h'.1 91 0 = x ∧ (r.toInt = 1 ∧ x_cN b tZ 1 9 = 0 ∧ uZ = x_en b tZ ∧ xZ = x_vl b tZ ∧ eZ = wZ ∧ yZ = aZ ∧ tZ < uZ ∧ uZ ≤ sZ ∨ r.toInt = 0 ∧ (x_cN b tZ 1 9 ≠ 0 ∧ eZ = x_cN b tZ 1 9) ∧ yZ = x_fr b tZ))
set_option maxRecDepth 100000 in
theorem c_Reader_readNumberX_8_0 (h : Hp) (b : Int → Int) (T : Nat → Int → Int) (hI : Inv h) (s : Int32) (sZ : Int) (sE : s.toInt = sZ) (sK : h.1 89 1 = s) (t : Int32) (tZ : Int) (tE : t.toInt = tZ) (tK : h.1 89 4 = t) (a : Int32) (aZ : Int) (aE : a.toInt = aZ) (aK : h.1 88 5 = a) (w : Int32) (wZ : Int) (wE : w.toInt = wZ) (wK : h.1 88 6 = w) (hy0 : TP h 90 sZ b) (hy1 : 0 ≤ tZ ∧ tZ ≤ sZ) : Ct y_Reader_readNumber b_Reader_readNumber 6 (some .boolean) 3 60 [.ref 88, .int 8, .int 0] h (q_Reader_readNumberX_8_0 h b T s sZ t tZ a aZ w wZ) := by
  refine ct_ow R_Reader [some (.ref 88), some (.int 8), some (.int 0), none, none, none] rfl (by decide) rfl (Nat.le_of_ble_eq_true rfl) ?_
  have f0 : fr S_Reader_readNumberX_8_0 h h := fr_rf
  have g1 : 0 ≤ sZ ∧ sZ ≤ 160 := inv_at hI sE sK.symm rfl
  have g2 : 0 ≤ tZ ∧ tZ ≤ 160 := inv_at hI tE tK.symm rfl
  refine V_aload_n 0 d_Reader_readNumber_0 rfl rfl ?_
  refine V_getR fa_Reader_12 sk_88 rfl d_Reader_readNumber_1 ?_
  refine N_callVV [] [] cv_Reader_48 sk_89 rfl d_Reader_readNumber_4 rfl (Nat.le_of_ble_eq_true rfl) (by decide) (by decide) (c_Tape_advanceX h b hI s sZ sE sK t tZ tE tK (TP_fr f0 (fun _ => rfl) hy0) (by omega)) (fun h4 p5 => ?_)
  obtain ⟨hI6, fh4, o8, o8Z, o8E, o8K, o9, o9Z, o9E, o9K, o10, o10Z, o10E, o10K, o11, o11Z, o11E, o11K, p5⟩ := p5
  have f7 : fr S_Reader_readNumberX_8_0 h h4 := fr_call f0 fh4 rfl
  have g12 : 0 ≤ o9Z ∧ o9Z ≤ 160 := inv_at hI6 o9E o9K.symm rfl
  have g13 : 0 ≤ o10Z ∧ o10Z ≤ 160 := inv_at hI6 o10E o10K.symm rfl
  refine V_aload_n 0 d_Reader_readNumber_7 rfl rfl ?_
  refine V_iconst 2 d_Reader_readNumber_8 (by decide) ?_
  refine N_callVI [.int 2] [] cv_Reader_84 sk_88 rfl d_Reader_readNumber_9 rfl (Nat.le_of_ble_eq_true rfl) (by decide) (by decide) (c_Reader_isKindX h4 hI6 2 2 tc_2 o8 o8Z o8E o8K o9 o9Z o9E o9K a aZ aE (kn_call fh4 aK rfl) w wZ wE (kn_call fh4 wK rfl)) (fun z14 h15 z14Z z14E p16 => ?_)
  obtain ⟨hI17, fh15, o19, o19Z, o19E, o19K, o20, o20Z, o20E, o20K, p16⟩ := p16
  have f18 : fr S_Reader_readNumberX_8_0 h h15 := fr_call f7 fh15 rfl
  refine V_if_ne 17 z14E d_Reader_readNumber_12 (by decide) (fun c21 => ?_) (fun c21 => ?_)
  ·
    replace p16 := kd_y p16 (by omega)
    replace p5 := adv_2 p5 (by omega)
    refine V_aload_n 0 d_Reader_readNumber_17 rfl rfl ?_
    refine V_getR fa_Reader_12 sk_88 rfl d_Reader_readNumber_18 ?_
    refine N_getK fa_Reader_122 sk_89 rfl d_Reader_readNumber_21 (kn_call fh15 o11K rfl) ?_
    refine V_istore_n 3 [some (.ref 88), some (.int 8), some (.int 0), some (.int o11), none, none] d_Reader_readNumber_24 rfl (by decide) rfl rfl ?_
    refine V_iload_n 3 d_Reader_readNumber_25 rfl rfl ?_
    refine V_gets (v := .ref 133) zL ws_Reader_125 d_Reader_readNumber_26 ?_
    refine V_iconst 3 d_Reader_readNumber_29 (by decide) ?_
    refine V_iload_n 1 d_Reader_readNumber_30 rfl rfl ?_
    refine V_imulw d_Reader_readNumber_31 (fun z22 z22e => ?_)
    obtain rfl : z22 = 24 := z22e.trans (by decide)
    refine V_iload_n 2 d_Reader_readNumber_32 rfl rfl ?_
    refine V_iaddw d_Reader_readNumber_33 (fun z23 z23e => ?_)
    obtain rfl : z23 = 24 := z23e.trans (by decide)
    refine V_tald roL tc_24 (by decide) d_Reader_readNumber_34 (fun z24 z24Z z24E z24e => ?_)
    obtain rfl : z24 = 1 := z24e.trans rfl
    refine V_icmp_lt 51 o11E tc_1 d_Reader_readNumber_35 (by decide) (fun c25 => ?_) (fun c25 => ?_)
    ·
      refine V_aload_n 0 d_Reader_readNumber_51 rfl rfl ?_
      refine V_iconst 3 d_Reader_readNumber_52 (by decide) ?_
      refine V_aload_n 0 d_Reader_readNumber_53 rfl rfl ?_
      refine V_getR fa_Reader_12 sk_88 rfl d_Reader_readNumber_54 ?_
      refine N_getK fa_Reader_81 sk_89 rfl d_Reader_readNumber_57 (kn_call fh15 o9K rfl) ?_
      refine N_callVI [.int 3, .int o9] [] cv_Reader_64 sk_88 rfl d_Reader_readNumber_60 rfl (Nat.le_of_ble_eq_true rfl) (by decide) (by decide) (c_Reader_isRefusedX h15 hI17 3 3 tc_3 o9 o9Z o9E) (fun z26 h27 z26Z z26E p28 => ?_)
      obtain ⟨hI29, fh27, o31, o31Z, o31E, o31K, o32, o32Z, o32E, o32K, p28⟩ := p28
      have f30 : fr S_Reader_readNumberX_8_0 h h27 := fr_call f18 fh27 rfl
      obtain ⟨z33, z33Z, z33E, z33e⟩ : ∃ (y : Int32) (Y : Int), y.toInt = Y ∧ y = h27.1 91 0 := ⟨_, _, rfl, rfl⟩
      exact V_zret rfl (by rw [z26E]; omega) d_Reader_readNumber_63 ⟨z26, rfl, ⟨hI29, f30, o8, o8Z, o8E, (kn_call fh27 (kn_call fh15 o8K rfl) rfl), o9, o9Z, o9E, (kn_call fh27 (kn_call fh15 o9K rfl) rfl), o10, o10Z, o10E, (kn_call fh27 (kn_call fh15 o10K rfl) rfl), o11, o11Z, o11E, (kn_call fh27 (kn_call fh15 o11K rfl) rfl), o31, o31Z, o31E, o31K, o32, o32Z, o32E, o32K, z33, z33Z, z33E, z33e.symm, (by have s1 := num_3 (lo := 1) (hi := 9) p5.2.2.1 p5.2.2.2.2.1 (by omega); exact Or.inr ⟨by omega, ⟨by omega, by omega⟩, by omega⟩)⟩⟩
    ·
      refine V_iload_n 3 d_Reader_readNumber_38 rfl rfl ?_
      refine V_gets (v := .ref 134) zM ws_Reader_128 d_Reader_readNumber_39 ?_
      refine V_iconst 3 d_Reader_readNumber_42 (by decide) ?_
      refine V_iload_n 1 d_Reader_readNumber_43 rfl rfl ?_
      refine V_imulw d_Reader_readNumber_44 (fun z34 z34e => ?_)
      obtain rfl : z34 = 24 := z34e.trans (by decide)
      refine V_iload_n 2 d_Reader_readNumber_45 rfl rfl ?_
      refine V_iaddw d_Reader_readNumber_46 (fun z35 z35e => ?_)
      obtain rfl : z35 = 24 := z35e.trans (by decide)
      refine V_tald roM tc_24 (by decide) d_Reader_readNumber_47 (fun z36 z36Z z36E z36e => ?_)
      obtain rfl : z36 = 9 := z36e.trans rfl
      refine V_icmp_le 64 o11E tc_9 d_Reader_readNumber_48 (by decide) (fun c37 => ?_) (fun c37 => ?_)
      ·
        refine V_aload_n 0 d_Reader_readNumber_64 rfl rfl ?_
        refine V_getR fa_Reader_25 sk_88 rfl d_Reader_readNumber_65 ?_
        refine V_iload_n 2 d_Reader_readNumber_68 rfl rfl ?_
        refine V_iload_n 3 d_Reader_readNumber_69 rfl rfl ?_
        refine N_iast sk_91 tc_0 (by omega) d_Reader_readNumber_70 (fun h38 eh38 => ?_)
        have hI39 : Inv h38 := inv_full hI17 eh38 rfl
        have f40 : fr S_Reader_readNumberX_8_0 h h38 := fr_put f18 eh38 rfl
        refine V_iload_n 2 d_Reader_readNumber_71 rfl rfl ?_
        refine V_if_ne 99 tc_0 d_Reader_readNumber_72 (by decide) (fun c41 => ?_) (fun c41 => ?_)
        ·
          exact absurd c41 (by decide)
        ·
          refine V_iload_n 1 d_Reader_readNumber_75 rfl rfl ?_
          refine N_callSI [.int 8] [] cs_Reader_131 d_Reader_readNumber_76 rfl (Nat.le_of_ble_eq_true rfl) (by decide) (by decide) (c_Reader_isOfOneX_8 h38) (fun z42 h43 z42Z z42E p44 => ?_)
          obtain ⟨eh43, p44⟩ := p44
          subst eh43
          refine V_if_eq 99 z42E d_Reader_readNumber_79 (by decide) (fun c45 => ?_) (fun c45 => ?_)
          ·
            refine V_iconst 0 d_Reader_readNumber_99 (by decide) ?_
            refine V_istore 4 [some (.ref 88), some (.int 8), some (.int 0), some (.int o11), some (.int 0), none] d_Reader_readNumber_100 (by decide) rfl rfl ?_
            refine V_iload_n 2 d_Reader_readNumber_102 rfl rfl ?_
            refine V_iconst 1 d_Reader_readNumber_103 (by decide) ?_
            refine V_icmp_ne 127 tc_0 tc_1 d_Reader_readNumber_104 (by decide) (fun c46 => ?_) (fun c46 => ?_)
            ·
              refine V_iconst 0 d_Reader_readNumber_127 (by decide) ?_
              refine V_istore 5 [some (.ref 88), some (.int 8), some (.int 0), some (.int o11), some (.int 0), some (.int 0)] d_Reader_readNumber_128 (by decide) rfl rfl ?_
              refine V_iload d_Reader_readNumber_130 rfl ?_
              refine V_if_ne 140 tc_0 d_Reader_readNumber_132 (by decide) (fun c47 => ?_) (fun c47 => ?_)
              ·
                exact absurd c47 (by decide)
              ·
                refine V_iload d_Reader_readNumber_135 rfl ?_
                refine V_if_eq 155 tc_0 d_Reader_readNumber_137 (by decide) (fun c48 => ?_) (fun c48 => ?_)
                ·
                  refine V_iconst 1 d_Reader_readNumber_155 (by decide) ?_
                  refine V_goto 160 d_Reader_readNumber_156 (by decide) ?_
                  exact V_zret rfl (by decide) d_Reader_readNumber_160 ⟨1, rfl, ⟨hI39, f40, o8, o8Z, o8E, (kn_ne eh38 (kn_call fh15 o8K rfl) (by decide)), o9, o9Z, o9E, (kn_ne eh38 (kn_call fh15 o9K rfl) (by decide)), o10, o10Z, o10E, (kn_ne eh38 (kn_call fh15 o10K rfl) (by decide)), o11, o11Z, o11E, (kn_ne eh38 (kn_call fh15 o11K rfl) (by decide)), o19, o19Z, o19E, (kn_ne eh38 o19K (by decide)), o20, o20Z, o20E, (kn_ne eh38 o20K (by decide)), o11, o11Z, o11E, (kn_put eh38), (by have s1 := num_0 (lo := 1) (hi := 9) p5.2.2.1 p5.2.2.2.2.1 ⟨by omega, by omega⟩; exact Or.inl ⟨rfl, by omega, by omega, by omega, by omega, by omega, by omega, by omega⟩)⟩⟩
                ·
                  exact absurd c48 (by decide)
            ·
              exact absurd c46 (by decide)
          ·
            refine V_aload_n 0 d_Reader_readNumber_82 rfl rfl ?_
            refine V_getR fa_Reader_29 sk_88 rfl d_Reader_readNumber_83 ?_
            refine V_iload_n 1 d_Reader_readNumber_86 rfl rfl ?_
            refine N_iald sk_92 tc_8 (by omega) d_Reader_readNumber_87 (fun z49 z49Z z49E z49e => ?_)
            refine V_iload_n 3 d_Reader_readNumber_88 rfl rfl ?_
            refine N_ishr d_Reader_readNumber_89 (fun z50 z50Z z50E z50e => ?_)
            refine V_iconst 1 d_Reader_readNumber_90 (by decide) ?_
            refine N_iand d_Reader_readNumber_91 (fun z51 z51Z z51E z51e => ?_)
            refine V_if_eq 99 z51E d_Reader_readNumber_92 (by decide) (fun c52 => ?_) (fun c52 => ?_)
            ·
              refine V_iconst 0 d_Reader_readNumber_99 (by decide) ?_
              refine V_istore 4 [some (.ref 88), some (.int 8), some (.int 0), some (.int o11), some (.int 0), none] d_Reader_readNumber_100 (by decide) rfl rfl ?_
              refine V_iload_n 2 d_Reader_readNumber_102 rfl rfl ?_
              refine V_iconst 1 d_Reader_readNumber_103 (by decide) ?_
              refine V_icmp_ne 127 tc_0 tc_1 d_Reader_readNumber_104 (by decide) (fun c53 => ?_) (fun c53 => ?_)
              ·
                refine V_iconst 0 d_Reader_readNumber_127 (by decide) ?_
                refine V_istore 5 [some (.ref 88), some (.int 8), some (.int 0), some (.int o11), some (.int 0), some (.int 0)] d_Reader_readNumber_128 (by decide) rfl rfl ?_
                refine V_iload d_Reader_readNumber_130 rfl ?_
                refine V_if_ne 140 tc_0 d_Reader_readNumber_132 (by decide) (fun c54 => ?_) (fun c54 => ?_)
                ·
                  exact absurd c54 (by decide)
                ·
                  refine V_iload d_Reader_readNumber_135 rfl ?_
                  refine V_if_eq 155 tc_0 d_Reader_readNumber_137 (by decide) (fun c55 => ?_) (fun c55 => ?_)
                  ·
                    refine V_iconst 1 d_Reader_readNumber_155 (by decide) ?_
                    refine V_goto 160 d_Reader_readNumber_156 (by decide) ?_
                    exact V_zret rfl (by decide) d_Reader_readNumber_160 ⟨1, rfl, ⟨hI39, f40, o8, o8Z, o8E, (kn_ne eh38 (kn_call fh15 o8K rfl) (by decide)), o9, o9Z, o9E, (kn_ne eh38 (kn_call fh15 o9K rfl) (by decide)), o10, o10Z, o10E, (kn_ne eh38 (kn_call fh15 o10K rfl) (by decide)), o11, o11Z, o11E, (kn_ne eh38 (kn_call fh15 o11K rfl) (by decide)), o19, o19Z, o19E, (kn_ne eh38 o19K (by decide)), o20, o20Z, o20E, (kn_ne eh38 o20K (by decide)), o11, o11Z, o11E, (kn_put eh38), (by have s1 := num_0 (lo := 1) (hi := 9) p5.2.2.1 p5.2.2.2.2.1 ⟨by omega, by omega⟩; exact Or.inl ⟨rfl, by omega, by omega, by omega, by omega, by omega, by omega, by omega⟩)⟩⟩
                  ·
                    exact absurd c55 (by decide)
              ·
                exact absurd c53 (by decide)
            ·
              refine V_iconst 1 d_Reader_readNumber_95 (by decide) ?_
              refine V_goto 100 d_Reader_readNumber_96 (by decide) ?_
              refine V_istore 4 [some (.ref 88), some (.int 8), some (.int 0), some (.int o11), some (.int 1), none] d_Reader_readNumber_100 (by decide) rfl rfl ?_
              refine V_iload_n 2 d_Reader_readNumber_102 rfl rfl ?_
              refine V_iconst 1 d_Reader_readNumber_103 (by decide) ?_
              refine V_icmp_ne 127 tc_0 tc_1 d_Reader_readNumber_104 (by decide) (fun c56 => ?_) (fun c56 => ?_)
              ·
                refine V_iconst 0 d_Reader_readNumber_127 (by decide) ?_
                refine V_istore 5 [some (.ref 88), some (.int 8), some (.int 0), some (.int o11), some (.int 1), some (.int 0)] d_Reader_readNumber_128 (by decide) rfl rfl ?_
                refine V_iload d_Reader_readNumber_130 rfl ?_
                refine V_if_ne 140 tc_1 d_Reader_readNumber_132 (by decide) (fun c57 => ?_) (fun c57 => ?_)
                ·
                  refine V_aload_n 0 d_Reader_readNumber_140 rfl rfl ?_
                  refine V_iconst 4 d_Reader_readNumber_141 (by decide) ?_
                  refine V_aload_n 0 d_Reader_readNumber_142 rfl rfl ?_
                  refine V_getR fa_Reader_12 sk_88 rfl d_Reader_readNumber_143 ?_
                  refine N_getK fa_Reader_81 sk_89 rfl d_Reader_readNumber_146 (kn_ne eh38 (kn_call fh15 o9K rfl) (by decide)) ?_
                  refine N_callVI [.int 4, .int o9] [] cv_Reader_64 sk_88 rfl d_Reader_readNumber_149 rfl (Nat.le_of_ble_eq_true rfl) (by decide) (by decide) (c_Reader_isRefusedX h38 hI39 4 4 tc_4 o9 o9Z o9E) (fun z58 h59 z58Z z58E p60 => ?_)
                  obtain ⟨hI61, fh59, o63, o63Z, o63E, o63K, o64, o64Z, o64E, o64K, p60⟩ := p60
                  have f62 : fr S_Reader_readNumberX_8_0 h h59 := fr_call f40 fh59 rfl
                  refine V_if_eq 159 z58E d_Reader_readNumber_152 (by decide) (fun c65 => ?_) (fun c65 => ?_)
                  ·
                    refine V_iconst 0 d_Reader_readNumber_159 (by decide) ?_
                    exact V_zret rfl (by decide) d_Reader_readNumber_160 ⟨0, rfl, ⟨hI61, f62, o8, o8Z, o8E, (kn_call fh59 (kn_ne eh38 (kn_call fh15 o8K rfl) (by decide)) rfl), o9, o9Z, o9E, (kn_call fh59 (kn_ne eh38 (kn_call fh15 o9K rfl) (by decide)) rfl), o10, o10Z, o10E, (kn_call fh59 (kn_ne eh38 (kn_call fh15 o10K rfl) (by decide)) rfl), o11, o11Z, o11E, (kn_call fh59 (kn_ne eh38 (kn_call fh15 o11K rfl) (by decide)) rfl), o63, o63Z, o63E, o63K, o64, o64Z, o64E, o64K, o11, o11Z, o11E, (kn_call fh59 (kn_put eh38) rfl), (by have s1 := num_0 (lo := 1) (hi := 9) p5.2.2.1 p5.2.2.2.2.1 ⟨by omega, by omega⟩; exact Or.inr ⟨tc_0, ⟨by omega, by omega⟩, by omega⟩)⟩⟩
                  ·
                    refine V_iconst 1 d_Reader_readNumber_155 (by decide) ?_
                    refine V_goto 160 d_Reader_readNumber_156 (by decide) ?_
                    exact V_zret rfl (by decide) d_Reader_readNumber_160 ⟨1, rfl, ⟨hI61, f62, o8, o8Z, o8E, (kn_call fh59 (kn_ne eh38 (kn_call fh15 o8K rfl) (by decide)) rfl), o9, o9Z, o9E, (kn_call fh59 (kn_ne eh38 (kn_call fh15 o9K rfl) (by decide)) rfl), o10, o10Z, o10E, (kn_call fh59 (kn_ne eh38 (kn_call fh15 o10K rfl) (by decide)) rfl), o11, o11Z, o11E, (kn_call fh59 (kn_ne eh38 (kn_call fh15 o11K rfl) (by decide)) rfl), o63, o63Z, o63E, o63K, o64, o64Z, o64E, o64K, o11, o11Z, o11E, (kn_call fh59 (kn_put eh38) rfl), (by have s1 := num_0 (lo := 1) (hi := 9) p5.2.2.1 p5.2.2.2.2.1 ⟨by omega, by omega⟩; exact Or.inl ⟨rfl, by omega, by omega, by omega, by omega, by omega, by omega, by omega⟩)⟩⟩
                ·
                  exact absurd c57 (by decide)
              ·
                exact absurd c56 (by decide)
      ·
        refine V_aload_n 0 d_Reader_readNumber_51 rfl rfl ?_
        refine V_iconst 3 d_Reader_readNumber_52 (by decide) ?_
        refine V_aload_n 0 d_Reader_readNumber_53 rfl rfl ?_
        refine V_getR fa_Reader_12 sk_88 rfl d_Reader_readNumber_54 ?_
        refine N_getK fa_Reader_81 sk_89 rfl d_Reader_readNumber_57 (kn_call fh15 o9K rfl) ?_
        refine N_callVI [.int 3, .int o9] [] cv_Reader_64 sk_88 rfl d_Reader_readNumber_60 rfl (Nat.le_of_ble_eq_true rfl) (by decide) (by decide) (c_Reader_isRefusedX h15 hI17 3 3 tc_3 o9 o9Z o9E) (fun z66 h67 z66Z z66E p68 => ?_)
        obtain ⟨hI69, fh67, o71, o71Z, o71E, o71K, o72, o72Z, o72E, o72K, p68⟩ := p68
        have f70 : fr S_Reader_readNumberX_8_0 h h67 := fr_call f18 fh67 rfl
        obtain ⟨z73, z73Z, z73E, z73e⟩ : ∃ (y : Int32) (Y : Int), y.toInt = Y ∧ y = h67.1 91 0 := ⟨_, _, rfl, rfl⟩
        exact V_zret rfl (by rw [z66E]; omega) d_Reader_readNumber_63 ⟨z66, rfl, ⟨hI69, f70, o8, o8Z, o8E, (kn_call fh67 (kn_call fh15 o8K rfl) rfl), o9, o9Z, o9E, (kn_call fh67 (kn_call fh15 o9K rfl) rfl), o10, o10Z, o10E, (kn_call fh67 (kn_call fh15 o10K rfl) rfl), o11, o11Z, o11E, (kn_call fh67 (kn_call fh15 o11K rfl) rfl), o71, o71Z, o71E, o71K, o72, o72Z, o72E, o72K, z73, z73Z, z73E, z73e.symm, (by have s1 := num_3 (lo := 1) (hi := 9) p5.2.2.1 p5.2.2.2.2.1 (by omega); exact Or.inr ⟨by omega, ⟨by omega, by omega⟩, by omega⟩)⟩⟩
  ·
    have hk9 := num_k 1 9 p5 p16 (by omega)
    refine V_iconst 0 d_Reader_readNumber_15 (by decide) ?_
    obtain ⟨z74, z74Z, z74E, z74e⟩ : ∃ (y : Int32) (Y : Int), y.toInt = Y ∧ y = h15.1 91 0 := ⟨_, _, rfl, rfl⟩
    exact V_zret rfl (by decide) d_Reader_readNumber_16 ⟨0, rfl, ⟨hI17, f18, o8, o8Z, o8E, (kn_call fh15 o8K rfl), o9, o9Z, o9E, (kn_call fh15 o9K rfl), o10, o10Z, o10E, (kn_call fh15 o10K rfl), o11, o11Z, o11E, (kn_call fh15 o11K rfl), o19, o19Z, o19E, o19K, o20, o20Z, o20E, o20K, z74, z74Z, z74E, z74e.symm, (Or.inr ⟨tc_0, ⟨hk9.1, hk9.2.1⟩, hk9.2.2⟩)⟩⟩
def S_Reader_readNumberX_9_0 : List (Nat × Option Nat) := [(89, some 2), (89, some 3), (89, some 4), (89, some 5), (88, some 5), (88, some 6), (91, some 0)]
abbrev q_Reader_readNumberX_9_0 (h : Hp) (b : Int → Int) (T : Nat → Int → Int) (s : Int32) (sZ : Int) (t : Int32) (tZ : Int) (a : Int32) (aZ : Int) (w : Int32) (wZ : Int) : Option Value → Hp → Prop := pInt (fun r h' => Inv h' ∧ fr S_Reader_readNumberX_9_0 h h' ∧ ∃ (k : Int32) (kZ : Int), k.toInt = kZ ∧ h'.1 89 2 = k ∧ ∃ (f : Int32) (fZ : Int), f.toInt = fZ ∧ h'.1 89 3 = f ∧ ∃ (u : Int32) (uZ : Int), u.toInt = uZ ∧ h'.1 89 4 = u ∧ ∃ (v : Int32) (vZ : Int), v.toInt = vZ ∧ h'.1 89 5 = v ∧ ∃ (e : Int32) (eZ : Int), e.toInt = eZ ∧ h'.1 88 6 = e ∧ ∃ (y : Int32) (yZ : Int), y.toInt = yZ ∧ h'.1 88 5 = y ∧ ∃ (x : Int32) (xZ : Int), x.toInt = xZ ∧ h'.1 91 0 = x ∧ (r.toInt = 1 ∧ x_cN b tZ 0 3 = 0 ∧ uZ = x_en b tZ ∧ xZ = x_vl b tZ ∧ eZ = wZ ∧ yZ = aZ ∧ tZ < uZ ∧ uZ ≤ sZ ∨ r.toInt = 0 ∧ (x_cN b tZ 0 3 ≠ 0 ∧ eZ = x_cN b tZ 0 3) ∧ yZ = x_fr b tZ))
set_option maxRecDepth 100000 in
theorem c_Reader_readNumberX_9_0 (h : Hp) (b : Int → Int) (T : Nat → Int → Int) (hI : Inv h) (s : Int32) (sZ : Int) (sE : s.toInt = sZ) (sK : h.1 89 1 = s) (t : Int32) (tZ : Int) (tE : t.toInt = tZ) (tK : h.1 89 4 = t) (a : Int32) (aZ : Int) (aE : a.toInt = aZ) (aK : h.1 88 5 = a) (w : Int32) (wZ : Int) (wE : w.toInt = wZ) (wK : h.1 88 6 = w) (hy0 : TP h 90 sZ b) (hy1 : 0 ≤ tZ ∧ tZ ≤ sZ) : Ct y_Reader_readNumber b_Reader_readNumber 6 (some .boolean) 3 60 [.ref 88, .int 9, .int 0] h (q_Reader_readNumberX_9_0 h b T s sZ t tZ a aZ w wZ) := by
  refine ct_ow R_Reader [some (.ref 88), some (.int 9), some (.int 0), none, none, none] rfl (by decide) rfl (Nat.le_of_ble_eq_true rfl) ?_
  have f0 : fr S_Reader_readNumberX_9_0 h h := fr_rf
  have g1 : 0 ≤ sZ ∧ sZ ≤ 160 := inv_at hI sE sK.symm rfl
  have g2 : 0 ≤ tZ ∧ tZ ≤ 160 := inv_at hI tE tK.symm rfl
  refine V_aload_n 0 d_Reader_readNumber_0 rfl rfl ?_
  refine V_getR fa_Reader_12 sk_88 rfl d_Reader_readNumber_1 ?_
  refine N_callVV [] [] cv_Reader_48 sk_89 rfl d_Reader_readNumber_4 rfl (Nat.le_of_ble_eq_true rfl) (by decide) (by decide) (c_Tape_advanceX h b hI s sZ sE sK t tZ tE tK (TP_fr f0 (fun _ => rfl) hy0) (by omega)) (fun h4 p5 => ?_)
  obtain ⟨hI6, fh4, o8, o8Z, o8E, o8K, o9, o9Z, o9E, o9K, o10, o10Z, o10E, o10K, o11, o11Z, o11E, o11K, p5⟩ := p5
  have f7 : fr S_Reader_readNumberX_9_0 h h4 := fr_call f0 fh4 rfl
  have g12 : 0 ≤ o9Z ∧ o9Z ≤ 160 := inv_at hI6 o9E o9K.symm rfl
  have g13 : 0 ≤ o10Z ∧ o10Z ≤ 160 := inv_at hI6 o10E o10K.symm rfl
  refine V_aload_n 0 d_Reader_readNumber_7 rfl rfl ?_
  refine V_iconst 2 d_Reader_readNumber_8 (by decide) ?_
  refine N_callVI [.int 2] [] cv_Reader_84 sk_88 rfl d_Reader_readNumber_9 rfl (Nat.le_of_ble_eq_true rfl) (by decide) (by decide) (c_Reader_isKindX h4 hI6 2 2 tc_2 o8 o8Z o8E o8K o9 o9Z o9E o9K a aZ aE (kn_call fh4 aK rfl) w wZ wE (kn_call fh4 wK rfl)) (fun z14 h15 z14Z z14E p16 => ?_)
  obtain ⟨hI17, fh15, o19, o19Z, o19E, o19K, o20, o20Z, o20E, o20K, p16⟩ := p16
  have f18 : fr S_Reader_readNumberX_9_0 h h15 := fr_call f7 fh15 rfl
  refine V_if_ne 17 z14E d_Reader_readNumber_12 (by decide) (fun c21 => ?_) (fun c21 => ?_)
  ·
    replace p16 := kd_y p16 (by omega)
    replace p5 := adv_2 p5 (by omega)
    refine V_aload_n 0 d_Reader_readNumber_17 rfl rfl ?_
    refine V_getR fa_Reader_12 sk_88 rfl d_Reader_readNumber_18 ?_
    refine N_getK fa_Reader_122 sk_89 rfl d_Reader_readNumber_21 (kn_call fh15 o11K rfl) ?_
    refine V_istore_n 3 [some (.ref 88), some (.int 9), some (.int 0), some (.int o11), none, none] d_Reader_readNumber_24 rfl (by decide) rfl rfl ?_
    refine V_iload_n 3 d_Reader_readNumber_25 rfl rfl ?_
    refine V_gets (v := .ref 133) zL ws_Reader_125 d_Reader_readNumber_26 ?_
    refine V_iconst 3 d_Reader_readNumber_29 (by decide) ?_
    refine V_iload_n 1 d_Reader_readNumber_30 rfl rfl ?_
    refine V_imulw d_Reader_readNumber_31 (fun z22 z22e => ?_)
    obtain rfl : z22 = 27 := z22e.trans (by decide)
    refine V_iload_n 2 d_Reader_readNumber_32 rfl rfl ?_
    refine V_iaddw d_Reader_readNumber_33 (fun z23 z23e => ?_)
    obtain rfl : z23 = 27 := z23e.trans (by decide)
    refine V_tald roL tc_27 (by decide) d_Reader_readNumber_34 (fun z24 z24Z z24E z24e => ?_)
    obtain rfl : z24 = 0 := z24e.trans rfl
    refine V_icmp_lt 51 o11E tc_0 d_Reader_readNumber_35 (by decide) (fun c25 => ?_) (fun c25 => ?_)
    ·
      refine V_aload_n 0 d_Reader_readNumber_51 rfl rfl ?_
      refine V_iconst 3 d_Reader_readNumber_52 (by decide) ?_
      refine V_aload_n 0 d_Reader_readNumber_53 rfl rfl ?_
      refine V_getR fa_Reader_12 sk_88 rfl d_Reader_readNumber_54 ?_
      refine N_getK fa_Reader_81 sk_89 rfl d_Reader_readNumber_57 (kn_call fh15 o9K rfl) ?_
      refine N_callVI [.int 3, .int o9] [] cv_Reader_64 sk_88 rfl d_Reader_readNumber_60 rfl (Nat.le_of_ble_eq_true rfl) (by decide) (by decide) (c_Reader_isRefusedX h15 hI17 3 3 tc_3 o9 o9Z o9E) (fun z26 h27 z26Z z26E p28 => ?_)
      obtain ⟨hI29, fh27, o31, o31Z, o31E, o31K, o32, o32Z, o32E, o32K, p28⟩ := p28
      have f30 : fr S_Reader_readNumberX_9_0 h h27 := fr_call f18 fh27 rfl
      obtain ⟨z33, z33Z, z33E, z33e⟩ : ∃ (y : Int32) (Y : Int), y.toInt = Y ∧ y = h27.1 91 0 := ⟨_, _, rfl, rfl⟩
      exact V_zret rfl (by rw [z26E]; omega) d_Reader_readNumber_63 ⟨z26, rfl, ⟨hI29, f30, o8, o8Z, o8E, (kn_call fh27 (kn_call fh15 o8K rfl) rfl), o9, o9Z, o9E, (kn_call fh27 (kn_call fh15 o9K rfl) rfl), o10, o10Z, o10E, (kn_call fh27 (kn_call fh15 o10K rfl) rfl), o11, o11Z, o11E, (kn_call fh27 (kn_call fh15 o11K rfl) rfl), o31, o31Z, o31E, o31K, o32, o32Z, o32E, o32K, z33, z33Z, z33E, z33e.symm, (by have s1 := num_3 (lo := 0) (hi := 3) p5.2.2.1 p5.2.2.2.2.1 (by omega); exact Or.inr ⟨by omega, ⟨by omega, by omega⟩, by omega⟩)⟩⟩
    ·
      refine V_iload_n 3 d_Reader_readNumber_38 rfl rfl ?_
      refine V_gets (v := .ref 134) zM ws_Reader_128 d_Reader_readNumber_39 ?_
      refine V_iconst 3 d_Reader_readNumber_42 (by decide) ?_
      refine V_iload_n 1 d_Reader_readNumber_43 rfl rfl ?_
      refine V_imulw d_Reader_readNumber_44 (fun z34 z34e => ?_)
      obtain rfl : z34 = 27 := z34e.trans (by decide)
      refine V_iload_n 2 d_Reader_readNumber_45 rfl rfl ?_
      refine V_iaddw d_Reader_readNumber_46 (fun z35 z35e => ?_)
      obtain rfl : z35 = 27 := z35e.trans (by decide)
      refine V_tald roM tc_27 (by decide) d_Reader_readNumber_47 (fun z36 z36Z z36E z36e => ?_)
      obtain rfl : z36 = 3 := z36e.trans rfl
      refine V_icmp_le 64 o11E tc_3 d_Reader_readNumber_48 (by decide) (fun c37 => ?_) (fun c37 => ?_)
      ·
        refine V_aload_n 0 d_Reader_readNumber_64 rfl rfl ?_
        refine V_getR fa_Reader_25 sk_88 rfl d_Reader_readNumber_65 ?_
        refine V_iload_n 2 d_Reader_readNumber_68 rfl rfl ?_
        refine V_iload_n 3 d_Reader_readNumber_69 rfl rfl ?_
        refine N_iast sk_91 tc_0 (by omega) d_Reader_readNumber_70 (fun h38 eh38 => ?_)
        have hI39 : Inv h38 := inv_full hI17 eh38 rfl
        have f40 : fr S_Reader_readNumberX_9_0 h h38 := fr_put f18 eh38 rfl
        refine V_iload_n 2 d_Reader_readNumber_71 rfl rfl ?_
        refine V_if_ne 99 tc_0 d_Reader_readNumber_72 (by decide) (fun c41 => ?_) (fun c41 => ?_)
        ·
          exact absurd c41 (by decide)
        ·
          refine V_iload_n 1 d_Reader_readNumber_75 rfl rfl ?_
          refine N_callSI [.int 9] [] cs_Reader_131 d_Reader_readNumber_76 rfl (Nat.le_of_ble_eq_true rfl) (by decide) (by decide) (c_Reader_isOfOneX_9 h38) (fun z42 h43 z42Z z42E p44 => ?_)
          obtain ⟨eh43, p44⟩ := p44
          subst eh43
          refine V_if_eq 99 z42E d_Reader_readNumber_79 (by decide) (fun c45 => ?_) (fun c45 => ?_)
          ·
            refine V_iconst 0 d_Reader_readNumber_99 (by decide) ?_
            refine V_istore 4 [some (.ref 88), some (.int 9), some (.int 0), some (.int o11), some (.int 0), none] d_Reader_readNumber_100 (by decide) rfl rfl ?_
            refine V_iload_n 2 d_Reader_readNumber_102 rfl rfl ?_
            refine V_iconst 1 d_Reader_readNumber_103 (by decide) ?_
            refine V_icmp_ne 127 tc_0 tc_1 d_Reader_readNumber_104 (by decide) (fun c46 => ?_) (fun c46 => ?_)
            ·
              refine V_iconst 0 d_Reader_readNumber_127 (by decide) ?_
              refine V_istore 5 [some (.ref 88), some (.int 9), some (.int 0), some (.int o11), some (.int 0), some (.int 0)] d_Reader_readNumber_128 (by decide) rfl rfl ?_
              refine V_iload d_Reader_readNumber_130 rfl ?_
              refine V_if_ne 140 tc_0 d_Reader_readNumber_132 (by decide) (fun c47 => ?_) (fun c47 => ?_)
              ·
                exact absurd c47 (by decide)
              ·
                refine V_iload d_Reader_readNumber_135 rfl ?_
                refine V_if_eq 155 tc_0 d_Reader_readNumber_137 (by decide) (fun c48 => ?_) (fun c48 => ?_)
                ·
                  refine V_iconst 1 d_Reader_readNumber_155 (by decide) ?_
                  refine V_goto 160 d_Reader_readNumber_156 (by decide) ?_
                  exact V_zret rfl (by decide) d_Reader_readNumber_160 ⟨1, rfl, ⟨hI39, f40, o8, o8Z, o8E, (kn_ne eh38 (kn_call fh15 o8K rfl) (by decide)), o9, o9Z, o9E, (kn_ne eh38 (kn_call fh15 o9K rfl) (by decide)), o10, o10Z, o10E, (kn_ne eh38 (kn_call fh15 o10K rfl) (by decide)), o11, o11Z, o11E, (kn_ne eh38 (kn_call fh15 o11K rfl) (by decide)), o19, o19Z, o19E, (kn_ne eh38 o19K (by decide)), o20, o20Z, o20E, (kn_ne eh38 o20K (by decide)), o11, o11Z, o11E, (kn_put eh38), (by have s1 := num_0 (lo := 0) (hi := 3) p5.2.2.1 p5.2.2.2.2.1 ⟨by omega, by omega⟩; exact Or.inl ⟨rfl, by omega, by omega, by omega, by omega, by omega, by omega, by omega⟩)⟩⟩
                ·
                  exact absurd c48 (by decide)
            ·
              exact absurd c46 (by decide)
          ·
            refine V_aload_n 0 d_Reader_readNumber_82 rfl rfl ?_
            refine V_getR fa_Reader_29 sk_88 rfl d_Reader_readNumber_83 ?_
            refine V_iload_n 1 d_Reader_readNumber_86 rfl rfl ?_
            refine N_iald sk_92 tc_9 (by omega) d_Reader_readNumber_87 (fun z49 z49Z z49E z49e => ?_)
            refine V_iload_n 3 d_Reader_readNumber_88 rfl rfl ?_
            refine N_ishr d_Reader_readNumber_89 (fun z50 z50Z z50E z50e => ?_)
            refine V_iconst 1 d_Reader_readNumber_90 (by decide) ?_
            refine N_iand d_Reader_readNumber_91 (fun z51 z51Z z51E z51e => ?_)
            refine V_if_eq 99 z51E d_Reader_readNumber_92 (by decide) (fun c52 => ?_) (fun c52 => ?_)
            ·
              refine V_iconst 0 d_Reader_readNumber_99 (by decide) ?_
              refine V_istore 4 [some (.ref 88), some (.int 9), some (.int 0), some (.int o11), some (.int 0), none] d_Reader_readNumber_100 (by decide) rfl rfl ?_
              refine V_iload_n 2 d_Reader_readNumber_102 rfl rfl ?_
              refine V_iconst 1 d_Reader_readNumber_103 (by decide) ?_
              refine V_icmp_ne 127 tc_0 tc_1 d_Reader_readNumber_104 (by decide) (fun c53 => ?_) (fun c53 => ?_)
              ·
                refine V_iconst 0 d_Reader_readNumber_127 (by decide) ?_
                refine V_istore 5 [some (.ref 88), some (.int 9), some (.int 0), some (.int o11), some (.int 0), some (.int 0)] d_Reader_readNumber_128 (by decide) rfl rfl ?_
                refine V_iload d_Reader_readNumber_130 rfl ?_
                refine V_if_ne 140 tc_0 d_Reader_readNumber_132 (by decide) (fun c54 => ?_) (fun c54 => ?_)
                ·
                  exact absurd c54 (by decide)
                ·
                  refine V_iload d_Reader_readNumber_135 rfl ?_
                  refine V_if_eq 155 tc_0 d_Reader_readNumber_137 (by decide) (fun c55 => ?_) (fun c55 => ?_)
                  ·
                    refine V_iconst 1 d_Reader_readNumber_155 (by decide) ?_
                    refine V_goto 160 d_Reader_readNumber_156 (by decide) ?_
                    exact V_zret rfl (by decide) d_Reader_readNumber_160 ⟨1, rfl, ⟨hI39, f40, o8, o8Z, o8E, (kn_ne eh38 (kn_call fh15 o8K rfl) (by decide)), o9, o9Z, o9E, (kn_ne eh38 (kn_call fh15 o9K rfl) (by decide)), o10, o10Z, o10E, (kn_ne eh38 (kn_call fh15 o10K rfl) (by decide)), o11, o11Z, o11E, (kn_ne eh38 (kn_call fh15 o11K rfl) (by decide)), o19, o19Z, o19E, (kn_ne eh38 o19K (by decide)), o20, o20Z, o20E, (kn_ne eh38 o20K (by decide)), o11, o11Z, o11E, (kn_put eh38), (by have s1 := num_0 (lo := 0) (hi := 3) p5.2.2.1 p5.2.2.2.2.1 ⟨by omega, by omega⟩; exact Or.inl ⟨rfl, by omega, by omega, by omega, by omega, by omega, by omega, by omega⟩)⟩⟩
                  ·
                    exact absurd c55 (by decide)
              ·
                exact absurd c53 (by decide)
            ·
              refine V_iconst 1 d_Reader_readNumber_95 (by decide) ?_
              refine V_goto 100 d_Reader_readNumber_96 (by decide) ?_
              refine V_istore 4 [some (.ref 88), some (.int 9), some (.int 0), some (.int o11), some (.int 1), none] d_Reader_readNumber_100 (by decide) rfl rfl ?_
              refine V_iload_n 2 d_Reader_readNumber_102 rfl rfl ?_
              refine V_iconst 1 d_Reader_readNumber_103 (by decide) ?_
              refine V_icmp_ne 127 tc_0 tc_1 d_Reader_readNumber_104 (by decide) (fun c56 => ?_) (fun c56 => ?_)
              ·
                refine V_iconst 0 d_Reader_readNumber_127 (by decide) ?_
                refine V_istore 5 [some (.ref 88), some (.int 9), some (.int 0), some (.int o11), some (.int 1), some (.int 0)] d_Reader_readNumber_128 (by decide) rfl rfl ?_
                refine V_iload d_Reader_readNumber_130 rfl ?_
                refine V_if_ne 140 tc_1 d_Reader_readNumber_132 (by decide) (fun c57 => ?_) (fun c57 => ?_)
                ·
                  refine V_aload_n 0 d_Reader_readNumber_140 rfl rfl ?_
                  refine V_iconst 4 d_Reader_readNumber_141 (by decide) ?_
                  refine V_aload_n 0 d_Reader_readNumber_142 rfl rfl ?_
                  refine V_getR fa_Reader_12 sk_88 rfl d_Reader_readNumber_143 ?_
                  refine N_getK fa_Reader_81 sk_89 rfl d_Reader_readNumber_146 (kn_ne eh38 (kn_call fh15 o9K rfl) (by decide)) ?_
                  refine N_callVI [.int 4, .int o9] [] cv_Reader_64 sk_88 rfl d_Reader_readNumber_149 rfl (Nat.le_of_ble_eq_true rfl) (by decide) (by decide) (c_Reader_isRefusedX h38 hI39 4 4 tc_4 o9 o9Z o9E) (fun z58 h59 z58Z z58E p60 => ?_)
                  obtain ⟨hI61, fh59, o63, o63Z, o63E, o63K, o64, o64Z, o64E, o64K, p60⟩ := p60
                  have f62 : fr S_Reader_readNumberX_9_0 h h59 := fr_call f40 fh59 rfl
                  refine V_if_eq 159 z58E d_Reader_readNumber_152 (by decide) (fun c65 => ?_) (fun c65 => ?_)
                  ·
                    refine V_iconst 0 d_Reader_readNumber_159 (by decide) ?_
                    exact V_zret rfl (by decide) d_Reader_readNumber_160 ⟨0, rfl, ⟨hI61, f62, o8, o8Z, o8E, (kn_call fh59 (kn_ne eh38 (kn_call fh15 o8K rfl) (by decide)) rfl), o9, o9Z, o9E, (kn_call fh59 (kn_ne eh38 (kn_call fh15 o9K rfl) (by decide)) rfl), o10, o10Z, o10E, (kn_call fh59 (kn_ne eh38 (kn_call fh15 o10K rfl) (by decide)) rfl), o11, o11Z, o11E, (kn_call fh59 (kn_ne eh38 (kn_call fh15 o11K rfl) (by decide)) rfl), o63, o63Z, o63E, o63K, o64, o64Z, o64E, o64K, o11, o11Z, o11E, (kn_call fh59 (kn_put eh38) rfl), (by have s1 := num_0 (lo := 0) (hi := 3) p5.2.2.1 p5.2.2.2.2.1 ⟨by omega, by omega⟩; exact Or.inr ⟨tc_0, ⟨by omega, by omega⟩, by omega⟩)⟩⟩
                  ·
                    refine V_iconst 1 d_Reader_readNumber_155 (by decide) ?_
                    refine V_goto 160 d_Reader_readNumber_156 (by decide) ?_
                    exact V_zret rfl (by decide) d_Reader_readNumber_160 ⟨1, rfl, ⟨hI61, f62, o8, o8Z, o8E, (kn_call fh59 (kn_ne eh38 (kn_call fh15 o8K rfl) (by decide)) rfl), o9, o9Z, o9E, (kn_call fh59 (kn_ne eh38 (kn_call fh15 o9K rfl) (by decide)) rfl), o10, o10Z, o10E, (kn_call fh59 (kn_ne eh38 (kn_call fh15 o10K rfl) (by decide)) rfl), o11, o11Z, o11E, (kn_call fh59 (kn_ne eh38 (kn_call fh15 o11K rfl) (by decide)) rfl), o63, o63Z, o63E, o63K, o64, o64Z, o64E, o64K, o11, o11Z, o11E, (kn_call fh59 (kn_put eh38) rfl), (by have s1 := num_0 (lo := 0) (hi := 3) p5.2.2.1 p5.2.2.2.2.1 ⟨by omega, by omega⟩; exact Or.inl ⟨rfl, by omega, by omega, by omega, by omega, by omega, by omega, by omega⟩)⟩⟩
                ·
                  exact absurd c57 (by decide)
              ·
                exact absurd c56 (by decide)
      ·
        refine V_aload_n 0 d_Reader_readNumber_51 rfl rfl ?_
        refine V_iconst 3 d_Reader_readNumber_52 (by decide) ?_
        refine V_aload_n 0 d_Reader_readNumber_53 rfl rfl ?_
        refine V_getR fa_Reader_12 sk_88 rfl d_Reader_readNumber_54 ?_
        refine N_getK fa_Reader_81 sk_89 rfl d_Reader_readNumber_57 (kn_call fh15 o9K rfl) ?_
        refine N_callVI [.int 3, .int o9] [] cv_Reader_64 sk_88 rfl d_Reader_readNumber_60 rfl (Nat.le_of_ble_eq_true rfl) (by decide) (by decide) (c_Reader_isRefusedX h15 hI17 3 3 tc_3 o9 o9Z o9E) (fun z66 h67 z66Z z66E p68 => ?_)
        obtain ⟨hI69, fh67, o71, o71Z, o71E, o71K, o72, o72Z, o72E, o72K, p68⟩ := p68
        have f70 : fr S_Reader_readNumberX_9_0 h h67 := fr_call f18 fh67 rfl
        obtain ⟨z73, z73Z, z73E, z73e⟩ : ∃ (y : Int32) (Y : Int), y.toInt = Y ∧ y = h67.1 91 0 := ⟨_, _, rfl, rfl⟩
        exact V_zret rfl (by rw [z66E]; omega) d_Reader_readNumber_63 ⟨z66, rfl, ⟨hI69, f70, o8, o8Z, o8E, (kn_call fh67 (kn_call fh15 o8K rfl) rfl), o9, o9Z, o9E, (kn_call fh67 (kn_call fh15 o9K rfl) rfl), o10, o10Z, o10E, (kn_call fh67 (kn_call fh15 o10K rfl) rfl), o11, o11Z, o11E, (kn_call fh67 (kn_call fh15 o11K rfl) rfl), o71, o71Z, o71E, o71K, o72, o72Z, o72E, o72K, z73, z73Z, z73E, z73e.symm, (by have s1 := num_3 (lo := 0) (hi := 3) p5.2.2.1 p5.2.2.2.2.1 (by omega); exact Or.inr ⟨by omega, ⟨by omega, by omega⟩, by omega⟩)⟩⟩
  ·
    have hk9 := num_k 0 3 p5 p16 (by omega)
    refine V_iconst 0 d_Reader_readNumber_15 (by decide) ?_
    obtain ⟨z74, z74Z, z74E, z74e⟩ : ∃ (y : Int32) (Y : Int), y.toInt = Y ∧ y = h15.1 91 0 := ⟨_, _, rfl, rfl⟩
    exact V_zret rfl (by decide) d_Reader_readNumber_16 ⟨0, rfl, ⟨hI17, f18, o8, o8Z, o8E, (kn_call fh15 o8K rfl), o9, o9Z, o9E, (kn_call fh15 o9K rfl), o10, o10Z, o10E, (kn_call fh15 o10K rfl), o11, o11Z, o11E, (kn_call fh15 o11K rfl), o19, o19Z, o19E, o19K, o20, o20Z, o20E, o20K, z74, z74Z, z74E, z74e.symm, (Or.inr ⟨tc_0, ⟨hk9.1, hk9.2.1⟩, hk9.2.2⟩)⟩⟩
def S_Reader_readNumberX_9_1 : List (Nat × Option Nat) := [(89, some 2), (89, some 3), (89, some 4), (89, some 5), (88, some 5), (88, some 6), (91, some 1)]
abbrev q_Reader_readNumberX_9_1 (h : Hp) (b : Int → Int) (T : Nat → Int → Int) (s : Int32) (sZ : Int) (t : Int32) (tZ : Int) (a : Int32) (aZ : Int) (w : Int32) (wZ : Int) (c : Int32) (cZ : Int) : Option Value → Hp → Prop := pInt (fun r h' => Inv h' ∧ fr S_Reader_readNumberX_9_1 h h' ∧ ∃ (k : Int32) (kZ : Int), k.toInt = kZ ∧ h'.1 89 2 = k ∧ ∃ (f : Int32) (fZ : Int), f.toInt = fZ ∧ h'.1 89 3 = f ∧ ∃ (u : Int32) (uZ : Int), u.toInt = uZ ∧ h'.1 89 4 = u ∧ ∃ (v : Int32) (vZ : Int), v.toInt = vZ ∧ h'.1 89 5 = v ∧ ∃ (e : Int32) (eZ : Int), e.toInt = eZ ∧ h'.1 88 6 = e ∧ ∃ (y : Int32) (yZ : Int), y.toInt = yZ ∧ h'.1 88 5 = y ∧ ∃ (x : Int32) (xZ : Int), x.toInt = xZ ∧ h'.1 91 1 = x ∧ (r.toInt = 1 ∧ x_cN b tZ 0 3 = 0 ∧ x_ce (x_vl b tZ) cZ = 0 ∧ uZ = x_en b tZ ∧ xZ = x_vl b tZ ∧ eZ = wZ ∧ yZ = aZ ∧ tZ < uZ ∧ uZ ≤ sZ ∨ r.toInt = 0 ∧ (x_cN b tZ 0 3 ≠ 0 ∧ eZ = x_cN b tZ 0 3 ∨ x_cN b tZ 0 3 = 0 ∧ x_ce (x_vl b tZ) cZ ≠ 0 ∧ eZ = x_ce (x_vl b tZ) cZ) ∧ yZ = x_fr b tZ))
set_option maxRecDepth 100000 in
theorem c_Reader_readNumberX_9_1 (h : Hp) (b : Int → Int) (T : Nat → Int → Int) (hI : Inv h) (s : Int32) (sZ : Int) (sE : s.toInt = sZ) (sK : h.1 89 1 = s) (t : Int32) (tZ : Int) (tE : t.toInt = tZ) (tK : h.1 89 4 = t) (a : Int32) (aZ : Int) (aE : a.toInt = aZ) (aK : h.1 88 5 = a) (w : Int32) (wZ : Int) (wE : w.toInt = wZ) (wK : h.1 88 6 = w) (c : Int32) (cZ : Int) (cE : c.toInt = cZ) (cK : h.1 91 0 = c) (hy0 : TP h 90 sZ b) (hy1 : 0 ≤ tZ ∧ tZ ≤ sZ) : Ct y_Reader_readNumber b_Reader_readNumber 6 (some .boolean) 3 60 [.ref 88, .int 9, .int 1] h (q_Reader_readNumberX_9_1 h b T s sZ t tZ a aZ w wZ c cZ) := by
  refine ct_ow R_Reader [some (.ref 88), some (.int 9), some (.int 1), none, none, none] rfl (by decide) rfl (Nat.le_of_ble_eq_true rfl) ?_
  have f0 : fr S_Reader_readNumberX_9_1 h h := fr_rf
  have g1 : 0 ≤ sZ ∧ sZ ≤ 160 := inv_at hI sE sK.symm rfl
  have g2 : 0 ≤ tZ ∧ tZ ≤ 160 := inv_at hI tE tK.symm rfl
  refine V_aload_n 0 d_Reader_readNumber_0 rfl rfl ?_
  refine V_getR fa_Reader_12 sk_88 rfl d_Reader_readNumber_1 ?_
  refine N_callVV [] [] cv_Reader_48 sk_89 rfl d_Reader_readNumber_4 rfl (Nat.le_of_ble_eq_true rfl) (by decide) (by decide) (c_Tape_advanceX h b hI s sZ sE sK t tZ tE tK (TP_fr f0 (fun _ => rfl) hy0) (by omega)) (fun h4 p5 => ?_)
  obtain ⟨hI6, fh4, o8, o8Z, o8E, o8K, o9, o9Z, o9E, o9K, o10, o10Z, o10E, o10K, o11, o11Z, o11E, o11K, p5⟩ := p5
  have f7 : fr S_Reader_readNumberX_9_1 h h4 := fr_call f0 fh4 rfl
  have g12 : 0 ≤ o9Z ∧ o9Z ≤ 160 := inv_at hI6 o9E o9K.symm rfl
  have g13 : 0 ≤ o10Z ∧ o10Z ≤ 160 := inv_at hI6 o10E o10K.symm rfl
  refine V_aload_n 0 d_Reader_readNumber_7 rfl rfl ?_
  refine V_iconst 2 d_Reader_readNumber_8 (by decide) ?_
  refine N_callVI [.int 2] [] cv_Reader_84 sk_88 rfl d_Reader_readNumber_9 rfl (Nat.le_of_ble_eq_true rfl) (by decide) (by decide) (c_Reader_isKindX h4 hI6 2 2 tc_2 o8 o8Z o8E o8K o9 o9Z o9E o9K a aZ aE (kn_call fh4 aK rfl) w wZ wE (kn_call fh4 wK rfl)) (fun z14 h15 z14Z z14E p16 => ?_)
  obtain ⟨hI17, fh15, o19, o19Z, o19E, o19K, o20, o20Z, o20E, o20K, p16⟩ := p16
  have f18 : fr S_Reader_readNumberX_9_1 h h15 := fr_call f7 fh15 rfl
  refine V_if_ne 17 z14E d_Reader_readNumber_12 (by decide) (fun c21 => ?_) (fun c21 => ?_)
  ·
    replace p16 := kd_y p16 (by omega)
    replace p5 := adv_2 p5 (by omega)
    refine V_aload_n 0 d_Reader_readNumber_17 rfl rfl ?_
    refine V_getR fa_Reader_12 sk_88 rfl d_Reader_readNumber_18 ?_
    refine N_getK fa_Reader_122 sk_89 rfl d_Reader_readNumber_21 (kn_call fh15 o11K rfl) ?_
    refine V_istore_n 3 [some (.ref 88), some (.int 9), some (.int 1), some (.int o11), none, none] d_Reader_readNumber_24 rfl (by decide) rfl rfl ?_
    refine V_iload_n 3 d_Reader_readNumber_25 rfl rfl ?_
    refine V_gets (v := .ref 133) zL ws_Reader_125 d_Reader_readNumber_26 ?_
    refine V_iconst 3 d_Reader_readNumber_29 (by decide) ?_
    refine V_iload_n 1 d_Reader_readNumber_30 rfl rfl ?_
    refine V_imulw d_Reader_readNumber_31 (fun z22 z22e => ?_)
    obtain rfl : z22 = 27 := z22e.trans (by decide)
    refine V_iload_n 2 d_Reader_readNumber_32 rfl rfl ?_
    refine V_iaddw d_Reader_readNumber_33 (fun z23 z23e => ?_)
    obtain rfl : z23 = 28 := z23e.trans (by decide)
    refine V_tald roL tc_28 (by decide) d_Reader_readNumber_34 (fun z24 z24Z z24E z24e => ?_)
    obtain rfl : z24 = 0 := z24e.trans rfl
    refine V_icmp_lt 51 o11E tc_0 d_Reader_readNumber_35 (by decide) (fun c25 => ?_) (fun c25 => ?_)
    ·
      refine V_aload_n 0 d_Reader_readNumber_51 rfl rfl ?_
      refine V_iconst 3 d_Reader_readNumber_52 (by decide) ?_
      refine V_aload_n 0 d_Reader_readNumber_53 rfl rfl ?_
      refine V_getR fa_Reader_12 sk_88 rfl d_Reader_readNumber_54 ?_
      refine N_getK fa_Reader_81 sk_89 rfl d_Reader_readNumber_57 (kn_call fh15 o9K rfl) ?_
      refine N_callVI [.int 3, .int o9] [] cv_Reader_64 sk_88 rfl d_Reader_readNumber_60 rfl (Nat.le_of_ble_eq_true rfl) (by decide) (by decide) (c_Reader_isRefusedX h15 hI17 3 3 tc_3 o9 o9Z o9E) (fun z26 h27 z26Z z26E p28 => ?_)
      obtain ⟨hI29, fh27, o31, o31Z, o31E, o31K, o32, o32Z, o32E, o32K, p28⟩ := p28
      have f30 : fr S_Reader_readNumberX_9_1 h h27 := fr_call f18 fh27 rfl
      obtain ⟨z33, z33Z, z33E, z33e⟩ : ∃ (y : Int32) (Y : Int), y.toInt = Y ∧ y = h27.1 91 1 := ⟨_, _, rfl, rfl⟩
      exact V_zret rfl (by rw [z26E]; omega) d_Reader_readNumber_63 ⟨z26, rfl, ⟨hI29, f30, o8, o8Z, o8E, (kn_call fh27 (kn_call fh15 o8K rfl) rfl), o9, o9Z, o9E, (kn_call fh27 (kn_call fh15 o9K rfl) rfl), o10, o10Z, o10E, (kn_call fh27 (kn_call fh15 o10K rfl) rfl), o11, o11Z, o11E, (kn_call fh27 (kn_call fh15 o11K rfl) rfl), o31, o31Z, o31E, o31K, o32, o32Z, o32E, o32K, z33, z33Z, z33E, z33e.symm, (by have s1 := num_3 (lo := 0) (hi := 3) p5.2.2.1 p5.2.2.2.2.1 (by omega); exact Or.inr ⟨by omega, Or.inl ⟨by omega, by omega⟩, by omega⟩)⟩⟩
    ·
      refine V_iload_n 3 d_Reader_readNumber_38 rfl rfl ?_
      refine V_gets (v := .ref 134) zM ws_Reader_128 d_Reader_readNumber_39 ?_
      refine V_iconst 3 d_Reader_readNumber_42 (by decide) ?_
      refine V_iload_n 1 d_Reader_readNumber_43 rfl rfl ?_
      refine V_imulw d_Reader_readNumber_44 (fun z34 z34e => ?_)
      obtain rfl : z34 = 27 := z34e.trans (by decide)
      refine V_iload_n 2 d_Reader_readNumber_45 rfl rfl ?_
      refine V_iaddw d_Reader_readNumber_46 (fun z35 z35e => ?_)
      obtain rfl : z35 = 28 := z35e.trans (by decide)
      refine V_tald roM tc_28 (by decide) d_Reader_readNumber_47 (fun z36 z36Z z36E z36e => ?_)
      obtain rfl : z36 = 3 := z36e.trans rfl
      refine V_icmp_le 64 o11E tc_3 d_Reader_readNumber_48 (by decide) (fun c37 => ?_) (fun c37 => ?_)
      ·
        refine V_aload_n 0 d_Reader_readNumber_64 rfl rfl ?_
        refine V_getR fa_Reader_25 sk_88 rfl d_Reader_readNumber_65 ?_
        refine V_iload_n 2 d_Reader_readNumber_68 rfl rfl ?_
        refine V_iload_n 3 d_Reader_readNumber_69 rfl rfl ?_
        refine N_iast sk_91 tc_1 (by omega) d_Reader_readNumber_70 (fun h38 eh38 => ?_)
        have hI39 : Inv h38 := inv_full hI17 eh38 rfl
        have f40 : fr S_Reader_readNumberX_9_1 h h38 := fr_put f18 eh38 rfl
        refine V_iload_n 2 d_Reader_readNumber_71 rfl rfl ?_
        refine V_if_ne 99 tc_1 d_Reader_readNumber_72 (by decide) (fun c41 => ?_) (fun c41 => ?_)
        ·
          refine V_iconst 0 d_Reader_readNumber_99 (by decide) ?_
          refine V_istore 4 [some (.ref 88), some (.int 9), some (.int 1), some (.int o11), some (.int 0), none] d_Reader_readNumber_100 (by decide) rfl rfl ?_
          refine V_iload_n 2 d_Reader_readNumber_102 rfl rfl ?_
          refine V_iconst 1 d_Reader_readNumber_103 (by decide) ?_
          refine V_icmp_ne 127 tc_1 tc_1 d_Reader_readNumber_104 (by decide) (fun c42 => ?_) (fun c42 => ?_)
          ·
            exact absurd c42 (by decide)
          ·
            refine V_iload_n 1 d_Reader_readNumber_107 rfl rfl ?_
            refine V_bipush 9 d_Reader_readNumber_108 (by decide) ?_
            refine V_icmp_ne 127 tc_9 tc_9 d_Reader_readNumber_110 (by decide) (fun c43 => ?_) (fun c43 => ?_)
            ·
              exact absurd c43 (by decide)
            ·
              refine V_iload_n 3 d_Reader_readNumber_113 rfl rfl ?_
              refine V_aload_n 0 d_Reader_readNumber_114 rfl rfl ?_
              refine V_getR fa_Reader_25 sk_88 rfl d_Reader_readNumber_115 ?_
              refine V_iconst 0 d_Reader_readNumber_118 (by decide) ?_
              refine N_ialdK sk_91 tc_0 (by omega) d_Reader_readNumber_119 (kn_nei eh38 (kn_call fh15 (kn_call fh4 cK rfl) rfl) (by decide)) ?_
              refine V_icmp_ne 127 o11E cE d_Reader_readNumber_120 (by decide) (fun c45 => ?_) (fun c45 => ?_)
              ·
                refine V_iconst 0 d_Reader_readNumber_127 (by decide) ?_
                refine V_istore 5 [some (.ref 88), some (.int 9), some (.int 1), some (.int o11), some (.int 0), some (.int 0)] d_Reader_readNumber_128 (by decide) rfl rfl ?_
                refine V_iload d_Reader_readNumber_130 rfl ?_
                refine V_if_ne 140 tc_0 d_Reader_readNumber_132 (by decide) (fun c46 => ?_) (fun c46 => ?_)
                ·
                  exact absurd c46 (by decide)
                ·
                  refine V_iload d_Reader_readNumber_135 rfl ?_
                  refine V_if_eq 155 tc_0 d_Reader_readNumber_137 (by decide) (fun c47 => ?_) (fun c47 => ?_)
                  ·
                    refine V_iconst 1 d_Reader_readNumber_155 (by decide) ?_
                    refine V_goto 160 d_Reader_readNumber_156 (by decide) ?_
                    exact V_zret rfl (by decide) d_Reader_readNumber_160 ⟨1, rfl, ⟨hI39, f40, o8, o8Z, o8E, (kn_ne eh38 (kn_call fh15 o8K rfl) (by decide)), o9, o9Z, o9E, (kn_ne eh38 (kn_call fh15 o9K rfl) (by decide)), o10, o10Z, o10E, (kn_ne eh38 (kn_call fh15 o10K rfl) (by decide)), o11, o11Z, o11E, (kn_ne eh38 (kn_call fh15 o11K rfl) (by decide)), o19, o19Z, o19E, (kn_ne eh38 o19K (by decide)), o20, o20Z, o20E, (kn_ne eh38 o20K (by decide)), o11, o11Z, o11E, (kn_put eh38), (by have s1 := num_0 (lo := 0) (hi := 3) p5.2.2.1 p5.2.2.2.2.1 ⟨by omega, by omega⟩; have s2 := x_ce_s (x_vl b tZ) cZ; exact Or.inl ⟨rfl, by omega, by omega, by omega, by omega, by omega, by omega, by omega, by omega⟩)⟩⟩
                  ·
                    exact absurd c47 (by decide)
              ·
                refine V_iconst 1 d_Reader_readNumber_123 (by decide) ?_
                refine V_goto 128 d_Reader_readNumber_124 (by decide) ?_
                refine V_istore 5 [some (.ref 88), some (.int 9), some (.int 1), some (.int o11), some (.int 0), some (.int 1)] d_Reader_readNumber_128 (by decide) rfl rfl ?_
                refine V_iload d_Reader_readNumber_130 rfl ?_
                refine V_if_ne 140 tc_0 d_Reader_readNumber_132 (by decide) (fun c48 => ?_) (fun c48 => ?_)
                ·
                  exact absurd c48 (by decide)
                ·
                  refine V_iload d_Reader_readNumber_135 rfl ?_
                  refine V_if_eq 155 tc_1 d_Reader_readNumber_137 (by decide) (fun c49 => ?_) (fun c49 => ?_)
                  ·
                    exact absurd c49 (by decide)
                  ·
                    refine V_aload_n 0 d_Reader_readNumber_140 rfl rfl ?_
                    refine V_iconst 4 d_Reader_readNumber_141 (by decide) ?_
                    refine V_aload_n 0 d_Reader_readNumber_142 rfl rfl ?_
                    refine V_getR fa_Reader_12 sk_88 rfl d_Reader_readNumber_143 ?_
                    refine N_getK fa_Reader_81 sk_89 rfl d_Reader_readNumber_146 (kn_ne eh38 (kn_call fh15 o9K rfl) (by decide)) ?_
                    refine N_callVI [.int 4, .int o9] [] cv_Reader_64 sk_88 rfl d_Reader_readNumber_149 rfl (Nat.le_of_ble_eq_true rfl) (by decide) (by decide) (c_Reader_isRefusedX h38 hI39 4 4 tc_4 o9 o9Z o9E) (fun z50 h51 z50Z z50E p52 => ?_)
                    obtain ⟨hI53, fh51, o55, o55Z, o55E, o55K, o56, o56Z, o56E, o56K, p52⟩ := p52
                    have f54 : fr S_Reader_readNumberX_9_1 h h51 := fr_call f40 fh51 rfl
                    refine V_if_eq 159 z50E d_Reader_readNumber_152 (by decide) (fun c57 => ?_) (fun c57 => ?_)
                    ·
                      refine V_iconst 0 d_Reader_readNumber_159 (by decide) ?_
                      exact V_zret rfl (by decide) d_Reader_readNumber_160 ⟨0, rfl, ⟨hI53, f54, o8, o8Z, o8E, (kn_call fh51 (kn_ne eh38 (kn_call fh15 o8K rfl) (by decide)) rfl), o9, o9Z, o9E, (kn_call fh51 (kn_ne eh38 (kn_call fh15 o9K rfl) (by decide)) rfl), o10, o10Z, o10E, (kn_call fh51 (kn_ne eh38 (kn_call fh15 o10K rfl) (by decide)) rfl), o11, o11Z, o11E, (kn_call fh51 (kn_ne eh38 (kn_call fh15 o11K rfl) (by decide)) rfl), o55, o55Z, o55E, o55K, o56, o56Z, o56E, o56K, o11, o11Z, o11E, (kn_call fh51 (kn_put eh38) rfl), (by have s1 := num_0 (lo := 0) (hi := 3) p5.2.2.1 p5.2.2.2.2.1 ⟨by omega, by omega⟩; have s2 := x_ce_s (x_vl b tZ) cZ; exact Or.inr ⟨tc_0, Or.inr ⟨by omega, by omega, by omega⟩, by omega⟩)⟩⟩
                    ·
                      refine V_iconst 1 d_Reader_readNumber_155 (by decide) ?_
                      refine V_goto 160 d_Reader_readNumber_156 (by decide) ?_
                      exact V_zret rfl (by decide) d_Reader_readNumber_160 ⟨1, rfl, ⟨hI53, f54, o8, o8Z, o8E, (kn_call fh51 (kn_ne eh38 (kn_call fh15 o8K rfl) (by decide)) rfl), o9, o9Z, o9E, (kn_call fh51 (kn_ne eh38 (kn_call fh15 o9K rfl) (by decide)) rfl), o10, o10Z, o10E, (kn_call fh51 (kn_ne eh38 (kn_call fh15 o10K rfl) (by decide)) rfl), o11, o11Z, o11E, (kn_call fh51 (kn_ne eh38 (kn_call fh15 o11K rfl) (by decide)) rfl), o55, o55Z, o55E, o55K, o56, o56Z, o56E, o56K, o11, o11Z, o11E, (kn_call fh51 (kn_put eh38) rfl), (by have s1 := num_0 (lo := 0) (hi := 3) p5.2.2.1 p5.2.2.2.2.1 ⟨by omega, by omega⟩; have s2 := x_ce_s (x_vl b tZ) cZ; exact Or.inl ⟨rfl, by omega, by omega, by omega, by omega, by omega, by omega, by omega, by omega⟩)⟩⟩
        ·
          exact absurd c41 (by decide)
      ·
        refine V_aload_n 0 d_Reader_readNumber_51 rfl rfl ?_
        refine V_iconst 3 d_Reader_readNumber_52 (by decide) ?_
        refine V_aload_n 0 d_Reader_readNumber_53 rfl rfl ?_
        refine V_getR fa_Reader_12 sk_88 rfl d_Reader_readNumber_54 ?_
        refine N_getK fa_Reader_81 sk_89 rfl d_Reader_readNumber_57 (kn_call fh15 o9K rfl) ?_
        refine N_callVI [.int 3, .int o9] [] cv_Reader_64 sk_88 rfl d_Reader_readNumber_60 rfl (Nat.le_of_ble_eq_true rfl) (by decide) (by decide) (c_Reader_isRefusedX h15 hI17 3 3 tc_3 o9 o9Z o9E) (fun z58 h59 z58Z z58E p60 => ?_)
        obtain ⟨hI61, fh59, o63, o63Z, o63E, o63K, o64, o64Z, o64E, o64K, p60⟩ := p60
        have f62 : fr S_Reader_readNumberX_9_1 h h59 := fr_call f18 fh59 rfl
        obtain ⟨z65, z65Z, z65E, z65e⟩ : ∃ (y : Int32) (Y : Int), y.toInt = Y ∧ y = h59.1 91 1 := ⟨_, _, rfl, rfl⟩
        exact V_zret rfl (by rw [z58E]; omega) d_Reader_readNumber_63 ⟨z58, rfl, ⟨hI61, f62, o8, o8Z, o8E, (kn_call fh59 (kn_call fh15 o8K rfl) rfl), o9, o9Z, o9E, (kn_call fh59 (kn_call fh15 o9K rfl) rfl), o10, o10Z, o10E, (kn_call fh59 (kn_call fh15 o10K rfl) rfl), o11, o11Z, o11E, (kn_call fh59 (kn_call fh15 o11K rfl) rfl), o63, o63Z, o63E, o63K, o64, o64Z, o64E, o64K, z65, z65Z, z65E, z65e.symm, (by have s1 := num_3 (lo := 0) (hi := 3) p5.2.2.1 p5.2.2.2.2.1 (by omega); exact Or.inr ⟨by omega, Or.inl ⟨by omega, by omega⟩, by omega⟩)⟩⟩
  ·
    have hk9 := num_k 0 3 p5 p16 (by omega)
    refine V_iconst 0 d_Reader_readNumber_15 (by decide) ?_
    obtain ⟨z66, z66Z, z66E, z66e⟩ : ∃ (y : Int32) (Y : Int), y.toInt = Y ∧ y = h15.1 91 1 := ⟨_, _, rfl, rfl⟩
    exact V_zret rfl (by decide) d_Reader_readNumber_16 ⟨0, rfl, ⟨hI17, f18, o8, o8Z, o8E, (kn_call fh15 o8K rfl), o9, o9Z, o9E, (kn_call fh15 o9K rfl), o10, o10Z, o10E, (kn_call fh15 o10K rfl), o11, o11Z, o11E, (kn_call fh15 o11K rfl), o19, o19Z, o19E, o19K, o20, o20Z, o20E, o20K, z66, z66Z, z66E, z66e.symm, (Or.inr ⟨tc_0, Or.inl ⟨hk9.1, hk9.2.1⟩, hk9.2.2⟩)⟩⟩
def S_Reader_readNumberX_9_2 : List (Nat × Option Nat) := [(89, some 2), (89, some 3), (89, some 4), (89, some 5), (88, some 5), (88, some 6), (91, some 2)]
abbrev q_Reader_readNumberX_9_2 (h : Hp) (b : Int → Int) (T : Nat → Int → Int) (s : Int32) (sZ : Int) (t : Int32) (tZ : Int) (a : Int32) (aZ : Int) (w : Int32) (wZ : Int) : Option Value → Hp → Prop := pInt (fun r h' => Inv h' ∧ fr S_Reader_readNumberX_9_2 h h' ∧ ∃ (k : Int32) (kZ : Int), k.toInt = kZ ∧ h'.1 89 2 = k ∧ ∃ (f : Int32) (fZ : Int), f.toInt = fZ ∧ h'.1 89 3 = f ∧ ∃ (u : Int32) (uZ : Int), u.toInt = uZ ∧ h'.1 89 4 = u ∧ ∃ (v : Int32) (vZ : Int), v.toInt = vZ ∧ h'.1 89 5 = v ∧ ∃ (e : Int32) (eZ : Int), e.toInt = eZ ∧ h'.1 88 6 = e ∧ ∃ (y : Int32) (yZ : Int), y.toInt = yZ ∧ h'.1 88 5 = y ∧ ∃ (x : Int32) (xZ : Int), x.toInt = xZ ∧ h'.1 91 2 = x ∧ (r.toInt = 1 ∧ x_cN b tZ 1 99 = 0 ∧ uZ = x_en b tZ ∧ xZ = x_vl b tZ ∧ eZ = wZ ∧ yZ = aZ ∧ tZ < uZ ∧ uZ ≤ sZ ∨ r.toInt = 0 ∧ (x_cN b tZ 1 99 ≠ 0 ∧ eZ = x_cN b tZ 1 99) ∧ yZ = x_fr b tZ))
set_option maxRecDepth 100000 in
theorem c_Reader_readNumberX_9_2 (h : Hp) (b : Int → Int) (T : Nat → Int → Int) (hI : Inv h) (s : Int32) (sZ : Int) (sE : s.toInt = sZ) (sK : h.1 89 1 = s) (t : Int32) (tZ : Int) (tE : t.toInt = tZ) (tK : h.1 89 4 = t) (a : Int32) (aZ : Int) (aE : a.toInt = aZ) (aK : h.1 88 5 = a) (w : Int32) (wZ : Int) (wE : w.toInt = wZ) (wK : h.1 88 6 = w) (hy0 : TP h 90 sZ b) (hy1 : 0 ≤ tZ ∧ tZ ≤ sZ) : Ct y_Reader_readNumber b_Reader_readNumber 6 (some .boolean) 3 60 [.ref 88, .int 9, .int 2] h (q_Reader_readNumberX_9_2 h b T s sZ t tZ a aZ w wZ) := by
  refine ct_ow R_Reader [some (.ref 88), some (.int 9), some (.int 2), none, none, none] rfl (by decide) rfl (Nat.le_of_ble_eq_true rfl) ?_
  have f0 : fr S_Reader_readNumberX_9_2 h h := fr_rf
  have g1 : 0 ≤ sZ ∧ sZ ≤ 160 := inv_at hI sE sK.symm rfl
  have g2 : 0 ≤ tZ ∧ tZ ≤ 160 := inv_at hI tE tK.symm rfl
  refine V_aload_n 0 d_Reader_readNumber_0 rfl rfl ?_
  refine V_getR fa_Reader_12 sk_88 rfl d_Reader_readNumber_1 ?_
  refine N_callVV [] [] cv_Reader_48 sk_89 rfl d_Reader_readNumber_4 rfl (Nat.le_of_ble_eq_true rfl) (by decide) (by decide) (c_Tape_advanceX h b hI s sZ sE sK t tZ tE tK (TP_fr f0 (fun _ => rfl) hy0) (by omega)) (fun h4 p5 => ?_)
  obtain ⟨hI6, fh4, o8, o8Z, o8E, o8K, o9, o9Z, o9E, o9K, o10, o10Z, o10E, o10K, o11, o11Z, o11E, o11K, p5⟩ := p5
  have f7 : fr S_Reader_readNumberX_9_2 h h4 := fr_call f0 fh4 rfl
  have g12 : 0 ≤ o9Z ∧ o9Z ≤ 160 := inv_at hI6 o9E o9K.symm rfl
  have g13 : 0 ≤ o10Z ∧ o10Z ≤ 160 := inv_at hI6 o10E o10K.symm rfl
  refine V_aload_n 0 d_Reader_readNumber_7 rfl rfl ?_
  refine V_iconst 2 d_Reader_readNumber_8 (by decide) ?_
  refine N_callVI [.int 2] [] cv_Reader_84 sk_88 rfl d_Reader_readNumber_9 rfl (Nat.le_of_ble_eq_true rfl) (by decide) (by decide) (c_Reader_isKindX h4 hI6 2 2 tc_2 o8 o8Z o8E o8K o9 o9Z o9E o9K a aZ aE (kn_call fh4 aK rfl) w wZ wE (kn_call fh4 wK rfl)) (fun z14 h15 z14Z z14E p16 => ?_)
  obtain ⟨hI17, fh15, o19, o19Z, o19E, o19K, o20, o20Z, o20E, o20K, p16⟩ := p16
  have f18 : fr S_Reader_readNumberX_9_2 h h15 := fr_call f7 fh15 rfl
  refine V_if_ne 17 z14E d_Reader_readNumber_12 (by decide) (fun c21 => ?_) (fun c21 => ?_)
  ·
    replace p16 := kd_y p16 (by omega)
    replace p5 := adv_2 p5 (by omega)
    refine V_aload_n 0 d_Reader_readNumber_17 rfl rfl ?_
    refine V_getR fa_Reader_12 sk_88 rfl d_Reader_readNumber_18 ?_
    refine N_getK fa_Reader_122 sk_89 rfl d_Reader_readNumber_21 (kn_call fh15 o11K rfl) ?_
    refine V_istore_n 3 [some (.ref 88), some (.int 9), some (.int 2), some (.int o11), none, none] d_Reader_readNumber_24 rfl (by decide) rfl rfl ?_
    refine V_iload_n 3 d_Reader_readNumber_25 rfl rfl ?_
    refine V_gets (v := .ref 133) zL ws_Reader_125 d_Reader_readNumber_26 ?_
    refine V_iconst 3 d_Reader_readNumber_29 (by decide) ?_
    refine V_iload_n 1 d_Reader_readNumber_30 rfl rfl ?_
    refine V_imulw d_Reader_readNumber_31 (fun z22 z22e => ?_)
    obtain rfl : z22 = 27 := z22e.trans (by decide)
    refine V_iload_n 2 d_Reader_readNumber_32 rfl rfl ?_
    refine V_iaddw d_Reader_readNumber_33 (fun z23 z23e => ?_)
    obtain rfl : z23 = 29 := z23e.trans (by decide)
    refine V_tald roL tc_29 (by decide) d_Reader_readNumber_34 (fun z24 z24Z z24E z24e => ?_)
    obtain rfl : z24 = 1 := z24e.trans rfl
    refine V_icmp_lt 51 o11E tc_1 d_Reader_readNumber_35 (by decide) (fun c25 => ?_) (fun c25 => ?_)
    ·
      refine V_aload_n 0 d_Reader_readNumber_51 rfl rfl ?_
      refine V_iconst 3 d_Reader_readNumber_52 (by decide) ?_
      refine V_aload_n 0 d_Reader_readNumber_53 rfl rfl ?_
      refine V_getR fa_Reader_12 sk_88 rfl d_Reader_readNumber_54 ?_
      refine N_getK fa_Reader_81 sk_89 rfl d_Reader_readNumber_57 (kn_call fh15 o9K rfl) ?_
      refine N_callVI [.int 3, .int o9] [] cv_Reader_64 sk_88 rfl d_Reader_readNumber_60 rfl (Nat.le_of_ble_eq_true rfl) (by decide) (by decide) (c_Reader_isRefusedX h15 hI17 3 3 tc_3 o9 o9Z o9E) (fun z26 h27 z26Z z26E p28 => ?_)
      obtain ⟨hI29, fh27, o31, o31Z, o31E, o31K, o32, o32Z, o32E, o32K, p28⟩ := p28
      have f30 : fr S_Reader_readNumberX_9_2 h h27 := fr_call f18 fh27 rfl
      obtain ⟨z33, z33Z, z33E, z33e⟩ : ∃ (y : Int32) (Y : Int), y.toInt = Y ∧ y = h27.1 91 2 := ⟨_, _, rfl, rfl⟩
      exact V_zret rfl (by rw [z26E]; omega) d_Reader_readNumber_63 ⟨z26, rfl, ⟨hI29, f30, o8, o8Z, o8E, (kn_call fh27 (kn_call fh15 o8K rfl) rfl), o9, o9Z, o9E, (kn_call fh27 (kn_call fh15 o9K rfl) rfl), o10, o10Z, o10E, (kn_call fh27 (kn_call fh15 o10K rfl) rfl), o11, o11Z, o11E, (kn_call fh27 (kn_call fh15 o11K rfl) rfl), o31, o31Z, o31E, o31K, o32, o32Z, o32E, o32K, z33, z33Z, z33E, z33e.symm, (by have s1 := num_3 (lo := 1) (hi := 99) p5.2.2.1 p5.2.2.2.2.1 (by omega); exact Or.inr ⟨by omega, ⟨by omega, by omega⟩, by omega⟩)⟩⟩
    ·
      refine V_iload_n 3 d_Reader_readNumber_38 rfl rfl ?_
      refine V_gets (v := .ref 134) zM ws_Reader_128 d_Reader_readNumber_39 ?_
      refine V_iconst 3 d_Reader_readNumber_42 (by decide) ?_
      refine V_iload_n 1 d_Reader_readNumber_43 rfl rfl ?_
      refine V_imulw d_Reader_readNumber_44 (fun z34 z34e => ?_)
      obtain rfl : z34 = 27 := z34e.trans (by decide)
      refine V_iload_n 2 d_Reader_readNumber_45 rfl rfl ?_
      refine V_iaddw d_Reader_readNumber_46 (fun z35 z35e => ?_)
      obtain rfl : z35 = 29 := z35e.trans (by decide)
      refine V_tald roM tc_29 (by decide) d_Reader_readNumber_47 (fun z36 z36Z z36E z36e => ?_)
      obtain rfl : z36 = 99 := z36e.trans rfl
      refine V_icmp_le 64 o11E tc_99 d_Reader_readNumber_48 (by decide) (fun c37 => ?_) (fun c37 => ?_)
      ·
        refine V_aload_n 0 d_Reader_readNumber_64 rfl rfl ?_
        refine V_getR fa_Reader_25 sk_88 rfl d_Reader_readNumber_65 ?_
        refine V_iload_n 2 d_Reader_readNumber_68 rfl rfl ?_
        refine V_iload_n 3 d_Reader_readNumber_69 rfl rfl ?_
        refine N_iast sk_91 tc_2 (by omega) d_Reader_readNumber_70 (fun h38 eh38 => ?_)
        have hI39 : Inv h38 := inv_full hI17 eh38 rfl
        have f40 : fr S_Reader_readNumberX_9_2 h h38 := fr_put f18 eh38 rfl
        refine V_iload_n 2 d_Reader_readNumber_71 rfl rfl ?_
        refine V_if_ne 99 tc_2 d_Reader_readNumber_72 (by decide) (fun c41 => ?_) (fun c41 => ?_)
        ·
          refine V_iconst 0 d_Reader_readNumber_99 (by decide) ?_
          refine V_istore 4 [some (.ref 88), some (.int 9), some (.int 2), some (.int o11), some (.int 0), none] d_Reader_readNumber_100 (by decide) rfl rfl ?_
          refine V_iload_n 2 d_Reader_readNumber_102 rfl rfl ?_
          refine V_iconst 1 d_Reader_readNumber_103 (by decide) ?_
          refine V_icmp_ne 127 tc_2 tc_1 d_Reader_readNumber_104 (by decide) (fun c42 => ?_) (fun c42 => ?_)
          ·
            refine V_iconst 0 d_Reader_readNumber_127 (by decide) ?_
            refine V_istore 5 [some (.ref 88), some (.int 9), some (.int 2), some (.int o11), some (.int 0), some (.int 0)] d_Reader_readNumber_128 (by decide) rfl rfl ?_
            refine V_iload d_Reader_readNumber_130 rfl ?_
            refine V_if_ne 140 tc_0 d_Reader_readNumber_132 (by decide) (fun c43 => ?_) (fun c43 => ?_)
            ·
              exact absurd c43 (by decide)
            ·
              refine V_iload d_Reader_readNumber_135 rfl ?_
              refine V_if_eq 155 tc_0 d_Reader_readNumber_137 (by decide) (fun c44 => ?_) (fun c44 => ?_)
              ·
                refine V_iconst 1 d_Reader_readNumber_155 (by decide) ?_
                refine V_goto 160 d_Reader_readNumber_156 (by decide) ?_
                exact V_zret rfl (by decide) d_Reader_readNumber_160 ⟨1, rfl, ⟨hI39, f40, o8, o8Z, o8E, (kn_ne eh38 (kn_call fh15 o8K rfl) (by decide)), o9, o9Z, o9E, (kn_ne eh38 (kn_call fh15 o9K rfl) (by decide)), o10, o10Z, o10E, (kn_ne eh38 (kn_call fh15 o10K rfl) (by decide)), o11, o11Z, o11E, (kn_ne eh38 (kn_call fh15 o11K rfl) (by decide)), o19, o19Z, o19E, (kn_ne eh38 o19K (by decide)), o20, o20Z, o20E, (kn_ne eh38 o20K (by decide)), o11, o11Z, o11E, (kn_put eh38), (by have s1 := num_0 (lo := 1) (hi := 99) p5.2.2.1 p5.2.2.2.2.1 ⟨by omega, by omega⟩; exact Or.inl ⟨rfl, by omega, by omega, by omega, by omega, by omega, by omega, by omega⟩)⟩⟩
              ·
                exact absurd c44 (by decide)
          ·
            exact absurd c42 (by decide)
        ·
          exact absurd c41 (by decide)
      ·
        refine V_aload_n 0 d_Reader_readNumber_51 rfl rfl ?_
        refine V_iconst 3 d_Reader_readNumber_52 (by decide) ?_
        refine V_aload_n 0 d_Reader_readNumber_53 rfl rfl ?_
        refine V_getR fa_Reader_12 sk_88 rfl d_Reader_readNumber_54 ?_
        refine N_getK fa_Reader_81 sk_89 rfl d_Reader_readNumber_57 (kn_call fh15 o9K rfl) ?_
        refine N_callVI [.int 3, .int o9] [] cv_Reader_64 sk_88 rfl d_Reader_readNumber_60 rfl (Nat.le_of_ble_eq_true rfl) (by decide) (by decide) (c_Reader_isRefusedX h15 hI17 3 3 tc_3 o9 o9Z o9E) (fun z45 h46 z45Z z45E p47 => ?_)
        obtain ⟨hI48, fh46, o50, o50Z, o50E, o50K, o51, o51Z, o51E, o51K, p47⟩ := p47
        have f49 : fr S_Reader_readNumberX_9_2 h h46 := fr_call f18 fh46 rfl
        obtain ⟨z52, z52Z, z52E, z52e⟩ : ∃ (y : Int32) (Y : Int), y.toInt = Y ∧ y = h46.1 91 2 := ⟨_, _, rfl, rfl⟩
        exact V_zret rfl (by rw [z45E]; omega) d_Reader_readNumber_63 ⟨z45, rfl, ⟨hI48, f49, o8, o8Z, o8E, (kn_call fh46 (kn_call fh15 o8K rfl) rfl), o9, o9Z, o9E, (kn_call fh46 (kn_call fh15 o9K rfl) rfl), o10, o10Z, o10E, (kn_call fh46 (kn_call fh15 o10K rfl) rfl), o11, o11Z, o11E, (kn_call fh46 (kn_call fh15 o11K rfl) rfl), o50, o50Z, o50E, o50K, o51, o51Z, o51E, o51K, z52, z52Z, z52E, z52e.symm, (by have s1 := num_3 (lo := 1) (hi := 99) p5.2.2.1 p5.2.2.2.2.1 (by omega); exact Or.inr ⟨by omega, ⟨by omega, by omega⟩, by omega⟩)⟩⟩
  ·
    have hk9 := num_k 1 99 p5 p16 (by omega)
    refine V_iconst 0 d_Reader_readNumber_15 (by decide) ?_
    obtain ⟨z53, z53Z, z53E, z53e⟩ : ∃ (y : Int32) (Y : Int), y.toInt = Y ∧ y = h15.1 91 2 := ⟨_, _, rfl, rfl⟩
    exact V_zret rfl (by decide) d_Reader_readNumber_16 ⟨0, rfl, ⟨hI17, f18, o8, o8Z, o8E, (kn_call fh15 o8K rfl), o9, o9Z, o9E, (kn_call fh15 o9K rfl), o10, o10Z, o10E, (kn_call fh15 o10K rfl), o11, o11Z, o11E, (kn_call fh15 o11K rfl), o19, o19Z, o19E, o19K, o20, o20Z, o20E, o20K, z53, z53Z, z53E, z53e.symm, (Or.inr ⟨tc_0, ⟨hk9.1, hk9.2.1⟩, hk9.2.2⟩)⟩⟩
end
section
/-- where the draft's cells stand in the pure draft -/
def dof (k i : Nat) : Option Nat :=
  if k = 70 ∧ i < 16 then some i else if k = 71 ∧ i < 16 then some (16 + i) else if k = 72 ∧ i < 16 then some (32 + i) else if k = 73 ∧ i < 16 then some (48 + i) else if k = 74 ∧ i < 16 then some (64 + i) else if k = 76 ∧ i < 4 then some (80 + i) else if k = 68 ∧ i = 3 then some 84 else if k = 68 ∧ i = 4 then some 85 else if k = 75 ∧ i = 4 then some 86 else if k = 80 ∧ i = 4 then some 111 else if k = 69 ∧ i < 4 then some (144 + i) else none
def dofi (d : Nat) : Nat × Nat :=
  if d < 16 then (70, d) else if d < 32 then (71, d - 16) else if d < 48 then (72, d - 32) else if d < 64 then (73, d - 48) else if d < 80 then (74, d - 64) else if d < 84 then (76, d - 80) else if d = 84 then (68, 3) else if d = 85 then (68, 4) else if d = 86 then (75, 4) else if d = 111 then (80, 4) else (69, d - 144)
theorem dofi_of {k i d : Nat} (h : dof k i = some d) : dofi d = (k, i) := by
  unfold dof at h
  split at h
  · next q => cases h; unfold dofi; rw [if_pos q.2, q.1]
  split at h
  · next q => cases h; unfold dofi; rw [if_neg (by omega), if_pos (by omega), q.1, Nat.add_sub_cancel_left]
  split at h
  · next q => cases h; unfold dofi; rw [if_neg (by omega), if_neg (by omega), if_pos (by omega), q.1, Nat.add_sub_cancel_left]
  split at h
  · next q => cases h; unfold dofi; rw [if_neg (by omega), if_neg (by omega), if_neg (by omega), if_pos (by omega), q.1, Nat.add_sub_cancel_left]
  split at h
  · next q => cases h; unfold dofi; rw [if_neg (by omega), if_neg (by omega), if_neg (by omega), if_neg (by omega), if_pos (by omega), q.1, Nat.add_sub_cancel_left]
  split at h
  · next q => cases h; unfold dofi; rw [if_neg (by omega), if_neg (by omega), if_neg (by omega), if_neg (by omega), if_neg (by omega), if_pos (by omega), q.1, Nat.add_sub_cancel_left]
  split at h
  · next q => cases h; rw [q.1, q.2]; rfl
  split at h
  · next q => cases h; rw [q.1, q.2]; rfl
  split at h
  · next q => cases h; rw [q.1, q.2]; rfl
  split at h
  · next q => cases h; rw [q.1, q.2]; rfl
  split at h
  · next q => cases h; unfold dofi; rw [if_neg (by omega), if_neg (by omega), if_neg (by omega), if_neg (by omega), if_neg (by omega), if_neg (by omega), if_neg (by omega), if_neg (by omega), if_neg (by omega), if_neg (by omega), q.1, Nat.add_sub_cancel_left]
  · cases h
theorem dof_k {k i d : Nat} (h : dof k i = some d) : 68 ≤ k ∧ k ≤ 80 ∧ k ≠ 77 ∧ k ≠ 78 ∧ k ≠ 79 ∧ (d ≤ 86 ∨ d = 111 ∨ 144 ≤ d) := by
  unfold dof at h
  repeat' split at h
  all_goals first | (cases h; omega) | (cases h)
def RCd (h : Hp) (D : Nat → Int) : Prop := ∀ k i d : Nat, dof k i = some d → (h.1 k i).toInt = D d
def RCb (h : Hp) (D : Nat → Int) : Prop := ∀ i : Nat, (i : Int) < D 86 → (h.1 77 i).toInt = D (87 + 3 * i) ∧ (h.1 78 i).toInt = D (88 + 3 * i) ∧ (h.1 79 i).toInt = D (89 + 3 * i)
def x_ON (z : Int32) (t : Int) : Prop := z.toInt = 0 ∧ t = 0 ∨ z.toInt ≠ 0 ∧ t = 1
def RCt (h : Hp) (T : Nat → Int → Int) : Prop := (∀ l : Nat, 1 ≤ l → l ≤ 5 → x_TB (h.1 92 l) (T l)) ∧ (∀ l : Nat, (l = 0 ∨ l = 6 ∨ l = 7 ∨ l = 8) → x_ON (h.1 92 l) (T l 0))
def RC (h : Hp) (T : Nat → Int → Int) (D : Nat → Int) : Prop := RCt h T ∧ RCd h D ∧ RCb h D
/-- a frame that leaves the draft and what was told alone -/
def rcS (S : List (Nat × Option Nat)) : Bool := S.all (fun q => decide (q.1 ≠ 92 ∧ (q.1 < 68 ∨ 80 < q.1)))
theorem rcS_no {S : List (Nat × Option Nat)} (hc : rcS S = true) {k i : Nat} (hk : k = 92 ∨ 68 ≤ k ∧ k ≤ 80) : inS S k i = false := by
  unfold inS
  rw [List.any_eq_false]
  intro q hq
  have := of_decide_eq_true (List.all_eq_true.mp hc q hq)
  intro e
  have e2 : q.1 = k := by
    have := (Bool.and_eq_true _ _ ▸ e).1
    exact eq_of_beq this
  omega
theorem RC_fr {S : List (Nat × Option Nat)} {h h' : Hp} {T : Nat → Int → Int} {D : Nat → Int} (f : fr S h h') (hc : rcS S = true) (r : RC h T D) : RC h' T D := by
  have e : ∀ k i : Nat, (k = 92 ∨ 68 ≤ k ∧ k ≤ 80) → h'.1 k i = h.1 k i := fun k i hk => f.1 k i (rcS_no hc hk)
  obtain ⟨r1, r2, r3⟩ := r
  refine ⟨?_, fun k i d hd => ?_, fun i hi => ?_⟩
  · refine ⟨fun l h1 h2 => ?_, fun l hl => ?_⟩
    · rw [e 92 l (Or.inl rfl)]; exact r1.1 l h1 h2
    · rw [e 92 l (Or.inl rfl)]; exact r1.2 l hl
  · have := dof_k hd
    rw [e k i (by omega)]
    exact r2 k i d hd
  · rw [e 77 i (by omega), e 78 i (by omega), e 79 i (by omega)]
    exact r3 i hi
theorem RCd_put {h h' : Hp} {D : Nat → Int} {k i d : Nat} {x : Int32} {v dZ : Int} (r : RCd h D) (e : h' = pI h k i x) (hd : dof k i = some d) (hx : x.toInt = v) (hz : dZ = (d : Int)) : RCd h' (x_up D dZ v) := by
  intro k' i' d' hd'
  subst hz
  unfold x_up
  by_cases q : k' = k ∧ i' = i
  · obtain ⟨rfl, rfl⟩ := q
    rw [hd] at hd'
    cases hd'
    rw [if_pos rfl, kn_put e]
    exact hx
  · have hne : d' ≠ d := fun c => by
      subst c
      have a1 := dofi_of hd
      have a2 := dofi_of hd'
      rw [a1] at a2
      cases a2
      exact q ⟨rfl, rfl⟩
    rw [if_neg (by omega)]
    have hh : h'.1 k' i' = h.1 k' i' := by
      by_cases c : k' = k
      · subst c
        exact kn_nei e rfl (fun c2 => q ⟨rfl, c2⟩)
      · exact kn_ne e rfl c
    rw [hh]
    exact r k' i' d' hd'
theorem RCd_ne {h h' : Hp} {D : Nat → Int} {k i : Nat} {x : Int32} (r : RCd h D) (e : h' = pI h k i x) (hk : k < 68 ∨ 80 < k ∨ k = 77 ∨ k = 78 ∨ k = 79) : RCd h' D := by
  intro k' i' d' hd'
  have := dof_k hd'
  rw [kn_ne e rfl (show k' ≠ k by omega)]
  exact r k' i' d' hd'
theorem RCb_put {h h' : Hp} {D : Nat → Int} {k i : Nat} {x : Int32} {dZ v : Int} (r : RCb h D) (e : h' = pI h k i x) (hk : k ≠ 77 ∧ k ≠ 78 ∧ k ≠ 79) (hd : dZ < 86 ∨ 110 < dZ) (hm : ∀ j : Nat, (j : Int) < D 86 → j < 8) : RCb h' (x_up D dZ v) := by
  intro j hj
  unfold x_up at hj ⊢
  rw [if_neg (by omega)] at hj
  have := hm j hj
  rw [if_neg (by omega), if_neg (by omega), if_neg (by omega), kn_ne e rfl (Ne.symm hk.1), kn_ne e rfl (Ne.symm hk.2.1), kn_ne e rfl (Ne.symm hk.2.2)]
  exact r j hj
theorem RCb_ne {h h' : Hp} {D : Nat → Int} {k i : Nat} {x : Int32} (r : RCb h D) (e : h' = pI h k i x) (hk : k ≠ 77 ∧ k ≠ 78 ∧ k ≠ 79) : RCb h' D := by
  intro j hj
  rw [kn_ne e rfl (Ne.symm hk.1), kn_ne e rfl (Ne.symm hk.2.1), kn_ne e rfl (Ne.symm hk.2.2)]
  exact r j hj
theorem bt_sh : ∀ c : Nat, c < 16 → ((Int32.ofInt (c : Int) &&& 31).toBitVec.smod 32).toNat = c := by decide
theorem x_bt_get (z : Int32) {c : Nat} (hc : c < 16) : x_bt z (c : Int) = if z.toBitVec.getLsbD c = true then 1 else 0 := by
  have h1 : ((z >>> (Int32.ofInt (c : Int) &&& 31)) &&& 1).toBitVec = BitVec.setWidth 32 (BitVec.ofBool (z.toBitVec.getLsbD c)) := by
    rw [Int32.toBitVec_and, Int32.toBitVec_shiftRight]
    show BitVec.sshiftRight' z.toBitVec _ &&& 1#32 = _
    rw [BitVec.and_one_eq_setWidth_ofBool_getLsbD, BitVec.sshiftRight', bt_sh c hc, BitVec.getLsbD_sshiftRight, if_pos (show c + 0 < 32 by omega)]
    rfl
  unfold x_bt
  rw [← Int32.toInt_toBitVec, h1]
  cases z.toBitVec.getLsbD c <;> decide
theorem bt_one : ∀ v : Nat, v < 16 → ∀ c : Nat, c < 32 → ((1 : Int32) <<< (Int32.ofInt (v : Int) &&& 31)).toBitVec.getLsbD c = decide (c = v) := by decide +kernel
theorem x_TB_set {z z' v : Int32} {t : Int → Int} {V : Int} (tb : x_TB z t) (hV : 0 ≤ V ∧ V ≤ 15) (pv : v.toInt = V) (e : z' = z ||| ((1 : Int32) <<< (v &&& 31))) : x_TB z' (fun j => if j = V then 1 else t j) := by
  obtain ⟨m, rfl⟩ := Int.eq_ofNat_of_zero_le hV.1
  have hv : v = Int32.ofInt (m : Int) := by rw [← pv, Int32.ofInt_toInt]
  have hm : m < 16 := by omega
  refine ⟨fun c h0 h1 => ?_, fun i hi => ?_⟩
  · obtain ⟨n, rfl⟩ := Int.eq_ofNat_of_zero_le h0
    have hn : n < 16 := by omega
    have g := tb.1 n h0 h1
    rw [x_bt_get z hn] at g
    rw [x_bt_get z' hn, e, Int32.toBitVec_or, BitVec.getLsbD_or, hv, bt_one m hm n (by omega)]
    by_cases q : n = m
    · subst q
      simp
    · show _ = if ((n : Nat) : Int) = (m : Int) then (1 : Int) else t n
      rw [decide_eq_false q, Bool.or_false, if_neg (show ¬ ((n : Int) = (m : Int)) by omega)]
      exact g
  · rw [e, Int32.toBitVec_or, BitVec.getLsbD_or, tb.2 i hi, Bool.false_or]
    by_cases h32 : i < 32
    · rw [hv, bt_one m hm i h32]
      exact decide_eq_false (by omega)
    · exact BitVec.getLsbD_of_ge _ _ (by omega)
theorem or_one_ne (z : Int32) : (z ||| 1).toInt ≠ 0 := by
  intro h
  have h1 : z ||| 1 = 0 := Int32.toInt_inj.mp (h.trans rfl)
  have h2 : (z ||| 1).toBitVec.getLsbD 0 = false := by rw [h1]; rfl
  rw [Int32.toBitVec_or, BitVec.getLsbD_or] at h2
  have h3 : (1 : Int32).toBitVec.getLsbD 0 = true := rfl
  rw [h3, Bool.or_true] at h2
  cases h2
theorem RCt_ne {h h' : Hp} {T : Nat → Int → Int} {k i : Nat} {x : Int32} (r : RCt h T) (e : h' = pI h k i x) (hk : k ≠ 92) : RCt h' T :=
  ⟨fun l h1 h2 => by rw [kn_ne e rfl (Ne.symm hk)]; exact r.1 l h1 h2, fun l hl => by rw [kn_ne e rfl (Ne.symm hk)]; exact r.2 l hl⟩
theorem x_upT_ne {T : Nat → Int → Int} {l c : Int} {i : Nat} (h : (i : Int) ≠ l) (j : Int) : x_upT T l c i j = T i j := if_neg (fun q => h q.1)
theorem RCt_one {h h' : Hp} {T : Nat → Int → Int} {l : Nat} {x y z a : Int32} {A lZ : Int} (r : RCt h T) (hl : 1 ≤ l ∧ l ≤ 5) (e : h' = pI h 92 l x) (zK : h.1 92 l = z) (ha : 0 ≤ A ∧ A ≤ 15) (pa : a.toInt = A) (e2 : x = z ||| y) (e1 : y = (1 : Int32) <<< (a &&& 31)) (hz : lZ = (l : Int)) : RCt h' (x_upT T lZ A) := by
  subst hz
  refine ⟨fun m h1 h2 => ?_, fun m hm => ?_⟩
  · by_cases q : m = l
    · subst q
      rw [kn_put e]
      have g := r.1 m h1 h2
      rw [zK] at g
      have g2 := x_TB_set g ha pa (e2.trans (by rw [e1]))
      refine x_TB_cg (fun c => ?_) g2
      show _ = (if c = A then (1 : Int) else T m c)
      unfold x_upT
      by_cases qc : c = A
      · rw [if_pos qc, if_pos ⟨rfl, qc⟩]
      · rw [if_neg qc, if_neg (fun w => qc w.2)]
    · rw [kn_nei e rfl q]
      exact x_TB_cg (fun c => x_upT_ne (by omega) c) (r.1 m h1 h2)
  · rw [kn_nei e rfl (show m ≠ l by omega), x_upT_ne (by omega)]
    exact r.2 m hm
theorem RCt_once {h h' : Hp} {T : Nat → Int → Int} {l : Nat} {x z : Int32} {lZ : Int} (r : RCt h T) (hl : l = 0 ∨ l = 6 ∨ l = 7 ∨ l = 8) (e : h' = pI h 92 l x) (e2 : x = z ||| 1) (hz : lZ = (l : Int)) : RCt h' (x_upT T lZ 0) := by
  subst hz
  refine ⟨fun m h1 h2 => ?_, fun m hm => ?_⟩
  · rw [kn_nei e rfl (show m ≠ l by omega)]
    exact x_TB_cg (fun c => x_upT_ne (by omega) c) (r.1 m h1 h2)
  · by_cases q : m = l
    · subst q
      rw [kn_put e, e2]
      exact Or.inr ⟨or_one_ne z, if_pos ⟨rfl, rfl⟩⟩
    · rw [kn_nei e rfl q, x_upT_ne (by omega)]
      exact r.2 m hm
theorem RCt_nine {h h' : Hp} {T : Nat → Int → Int} {x : Int32} (r : RCt h T) (e : h' = pI h 92 9 x) : RCt h' (x_upT T 9 0) := by
  refine ⟨fun m h1 h2 => ?_, fun m hm => ?_⟩
  · rw [kn_nei e rfl (show m ≠ 9 by omega)]
    exact x_TB_cg (fun c => x_upT_ne (by omega) c) (r.1 m h1 h2)
  · rw [kn_nei e rfl (show m ≠ 9 by omega), x_upT_ne (by omega)]
    exact r.2 m hm
theorem RCd_debt {h : Hp} {D : Nat → Int} {T : Nat → Int → Int} (r : RC h T D) {d : Int32} {dZ : Int} (dK : h.1 75 4 = d) (dE : d.toInt = dZ) : dZ = D 86 := by
  have := r.2.1 75 4 86 rfl
  rw [dK, dE] at this
  exact this
theorem dof_row {k i n o : Nat} {A : Int} (hk : (k = 70 ∧ n = 16 ∧ o = 0) ∨ (k = 71 ∧ n = 16 ∧ o = 16) ∨ (k = 72 ∧ n = 16 ∧ o = 32) ∨ (k = 73 ∧ n = 16 ∧ o = 48) ∨ (k = 76 ∧ n = 4 ∧ o = 80)) (hA : 0 ≤ A ∧ A < (n : Int)) (hi : i = A.toNat) : dof k i = some (o + A.toNat) := by
  subst hi
  have h1 : A.toNat < n := by omega
  rcases hk with ⟨rfl, rfl, rfl⟩ | ⟨rfl, rfl, rfl⟩ | ⟨rfl, rfl, rfl⟩ | ⟨rfl, rfl, rfl⟩ | ⟨rfl, rfl, rfl⟩
  · unfold dof; rw [if_pos ⟨rfl, h1⟩, Nat.zero_add]
  · unfold dof; rw [if_neg (by omega), if_pos ⟨rfl, h1⟩]
  · unfold dof; rw [if_neg (by omega), if_neg (by omega), if_pos ⟨rfl, h1⟩]
  · unfold dof; rw [if_neg (by omega), if_neg (by omega), if_neg (by omega), if_pos ⟨rfl, h1⟩]
  · unfold dof; rw [if_neg (by omega), if_neg (by omega), if_neg (by omega), if_neg (by omega), if_neg (by omega), if_pos ⟨rfl, h1⟩]
theorem RC_owe {h h' : Hp} {D : Nat → Int} {T : Nat → Int → Int} {a b v u : Int32} {aZ bZ vZ uZ dZ : Int} (r : RC h T D) (hd : dZ = D 86) (h0 : 0 ≤ dZ ∧ dZ < 8) (ea : a.toInt = aZ) (eb : b.toInt = bZ) (ev : v.toInt = vZ) (eu : u.toInt = uZ) (hu : uZ = dZ + 1) (e : h' = pI (pI (pI (pI h 77 dZ.toNat a) 78 dZ.toNat b) 79 dZ.toNat v) 75 4 u) : RC h' T (x_up (x_up (x_up (x_up D (87 + 3 * D 86) aZ) (88 + 3 * D 86) bZ) (89 + 3 * D 86) vZ) 86 (D 86 + 1)) := by
  obtain ⟨r1, r2, r3⟩ := r
  have c1 : RCt h' T := RCt_ne (RCt_ne (RCt_ne (RCt_ne r1 rfl (by decide)) rfl (by decide)) rfl (by decide)) e (by decide)
  refine ⟨c1, fun k i d hk => ?_, fun i hi => ?_⟩
  · have hb := dof_k hk
    by_cases q : k = 75
    · subst q
      have hi : i = 4 ∧ d = 86 := by
        unfold dof at hk
        rw [if_neg (by omega), if_neg (by omega), if_neg (by omega), if_neg (by omega), if_neg (by omega), if_neg (by omega), if_neg (by omega), if_neg (by omega)] at hk
        split at hk
        · next w => cases hk; exact ⟨w.2, rfl⟩
        · rw [if_neg (by omega), if_neg (by omega)] at hk; cases hk
      obtain ⟨rfl, rfl⟩ := hi
      rw [kn_put e, eu, hu, hd]
      exact (if_pos rfl).symm
    · have hd86 : d ≠ 86 := fun w => by
        subst w
        have := dofi_of hk
        have h2 : dofi 86 = (75, 4) := rfl
        rw [h2] at this
        cases this
        exact q rfl
      rw [kn_ne e rfl q]
      rw [kn_ne (rfl : _ = pI (pI (pI h 77 dZ.toNat a) 78 dZ.toNat b) 79 dZ.toNat v) rfl (show k ≠ 79 by omega), kn_ne (rfl : _ = pI (pI h 77 dZ.toNat a) 78 dZ.toNat b) rfl (show k ≠ 78 by omega), kn_ne (rfl : _ = pI h 77 dZ.toNat a) rfl (show k ≠ 77 by omega)]
      rw [r2 k i d hk]
      unfold x_up
      rw [if_neg (by omega), if_neg (by omega), if_neg (by omega), if_neg (by omega)]
  · have h86 : x_up (x_up (x_up (x_up D (87 + 3 * D 86) aZ) (88 + 3 * D 86) bZ) (89 + 3 * D 86) vZ) 86 (D 86 + 1) 86 = D 86 + 1 := if_pos rfl
    rw [h86] at hi
    by_cases q : i = dZ.toNat
    · subst q
      have e3 : h'.1 79 dZ.toNat = v := by rw [kn_ne e rfl (by decide)]; exact kn_put rfl
      have e2 : h'.1 78 dZ.toNat = b := by rw [kn_ne e rfl (by decide), kn_ne (rfl : _ = pI (pI (pI h 77 dZ.toNat a) 78 dZ.toNat b) 79 dZ.toNat v) rfl (by decide)]; exact kn_put rfl
      have e1 : h'.1 77 dZ.toNat = a := by rw [kn_ne e rfl (by decide), kn_ne (rfl : _ = pI (pI (pI h 77 dZ.toNat a) 78 dZ.toNat b) 79 dZ.toNat v) rfl (by decide), kn_ne (rfl : _ = pI (pI h 77 dZ.toNat a) 78 dZ.toNat b) rfl (by decide)]; exact kn_put rfl
      rw [e1, e2, e3, ea, eb, ev]
      refine ⟨?_, ?_, ?_⟩
      · unfold x_up; rw [if_neg (by omega), if_neg (by omega), if_neg (by omega), if_pos (by omega)]
      · unfold x_up; rw [if_neg (by omega), if_neg (by omega), if_pos (by omega)]
      · unfold x_up; rw [if_neg (by omega), if_pos (by omega)]
    · have hi2 : (i : Int) < D 86 := by omega
      have g := r3 i hi2
      have e3 : h'.1 79 i = h.1 79 i := by rw [kn_ne e rfl (by decide), kn_nei (rfl : _ = pI (pI (pI h 77 dZ.toNat a) 78 dZ.toNat b) 79 dZ.toNat v) rfl q, kn_ne (rfl : _ = pI (pI h 77 dZ.toNat a) 78 dZ.toNat b) rfl (by decide)]; exact kn_ne rfl rfl (by decide)
      have e2 : h'.1 78 i = h.1 78 i := by rw [kn_ne e rfl (by decide), kn_ne (rfl : _ = pI (pI (pI h 77 dZ.toNat a) 78 dZ.toNat b) 79 dZ.toNat v) rfl (by decide), kn_nei (rfl : _ = pI (pI h 77 dZ.toNat a) 78 dZ.toNat b) rfl q]; exact kn_ne rfl rfl (by decide)
      have e1 : h'.1 77 i = h.1 77 i := by rw [kn_ne e rfl (by decide), kn_ne (rfl : _ = pI (pI (pI h 77 dZ.toNat a) 78 dZ.toNat b) 79 dZ.toNat v) rfl (by decide), kn_ne (rfl : _ = pI (pI h 77 dZ.toNat a) 78 dZ.toNat b) rfl (by decide)]; exact kn_nei rfl rfl q
      rw [e1, e2, e3, g.1, g.2.1, g.2.2]
      refine ⟨?_, ?_, ?_⟩ <;> (unfold x_up; rw [if_neg (by omega), if_neg (by omega), if_neg (by omega), if_neg (by omega)])
theorem TB_kn {h : Hp} {k l : Nat} {z : Int32} {t : Int → Int} (e : h.1 k l = z) (r : x_TB (h.1 k l) t) : x_TB z t := by rw [← e]; exact r
end
section
def S_Ledger_addDebtX_4 : List (Nat × Option Nat) := [(75, some 4), (77, none), (78, none), (79, none)]
abbrev q_Ledger_addDebtX_4 (h : Hp) (a : Int32) (aZ : Int) (b : Int32) (bZ : Int) (v : Int32) (vZ : Int) (d : Int32) (dZ : Int) : Option Value → Hp → Prop := pVd (fun h' => Inv h' ∧ fr S_Ledger_addDebtX_4 h h' ∧ ∃ (u : Int32) (uZ : Int), u.toInt = uZ ∧ h'.1 75 4 = u ∧ (h' = pI (pI (pI (pI h 77 dZ.toNat a) 78 dZ.toNat b) 79 dZ.toNat v) 75 4 u ∧ uZ = dZ + 1))
set_option maxRecDepth 100000 in
theorem c_Ledger_addDebtX_4 (h : Hp) (hI : Inv h) (a : Int32) (aZ : Int) (aE : a.toInt = aZ) (b : Int32) (bZ : Int) (bE : b.toInt = bZ) (v : Int32) (vZ : Int) (vE : v.toInt = vZ) (d : Int32) (dZ : Int) (dE : d.toInt = dZ) (dK : h.1 75 4 = d) (hy0 : dZ < 8) : Ct y_Ledger_addDebt b_Ledger_addDebt 4 none 0 0 [.ref 75, .int a, .int b, .int v] h (q_Ledger_addDebtX_4 h a aZ b bZ v vZ d dZ) := by
  refine ct_ow R_Ledger [some (.ref 75), some (.int a), some (.int b), some (.int v)] rfl (by decide) rfl (Nat.le_of_ble_eq_true rfl) ?_
  have f0 : fr S_Ledger_addDebtX_4 h h := fr_rf
  have g1 : 0 ≤ dZ ∧ dZ ≤ 8 := inv_at hI dE dK.symm rfl
  refine V_aload_n 0 d_Ledger_addDebt_0 rfl rfl ?_
  refine N_getK fa_Ledger_30 sk_75 rfl d_Ledger_addDebt_1 dK ?_
  refine V_bipush 8 d_Ledger_addDebt_4 (by decide) ?_
  refine V_icmp_ge 49 dE tc_8 d_Ledger_addDebt_6 (by decide) (fun c2 => ?_) (fun c2 => ?_)
  ·
    exact V_vret rfl d_Ledger_addDebt_49 ⟨rfl, ⟨hI, f0, d, dZ, dE, dK, (by exfalso; omega)⟩⟩
  ·
    refine V_aload_n 0 d_Ledger_addDebt_9 rfl rfl ?_
    refine V_getR fa_Ledger_15 sk_75 rfl d_Ledger_addDebt_10 ?_
    refine V_aload_n 0 d_Ledger_addDebt_13 rfl rfl ?_
    refine N_getK fa_Ledger_30 sk_75 rfl d_Ledger_addDebt_14 dK ?_
    refine V_iload_n 1 d_Ledger_addDebt_17 rfl rfl ?_
    refine N_iast sk_77 dE (by omega) d_Ledger_addDebt_18 (fun h3 eh3 => ?_)
    have hI4 : Inv h3 := inv_full hI eh3 rfl
    have f5 : fr S_Ledger_addDebtX_4 h h3 := fr_put f0 eh3 rfl
    refine V_aload_n 0 d_Ledger_addDebt_19 rfl rfl ?_
    refine V_getR fa_Ledger_18 sk_75 rfl d_Ledger_addDebt_20 ?_
    refine V_aload_n 0 d_Ledger_addDebt_23 rfl rfl ?_
    refine N_getK fa_Ledger_30 sk_75 rfl d_Ledger_addDebt_24 (kn_ne eh3 dK (by decide)) ?_
    refine V_iload_n 2 d_Ledger_addDebt_27 rfl rfl ?_
    refine N_iast sk_78 dE (by omega) d_Ledger_addDebt_28 (fun h6 eh6 => ?_)
    have hI7 : Inv h6 := inv_full hI4 eh6 rfl
    have f8 : fr S_Ledger_addDebtX_4 h h6 := fr_put f5 eh6 rfl
    refine V_aload_n 0 d_Ledger_addDebt_29 rfl rfl ?_
    refine V_getR fa_Ledger_21 sk_75 rfl d_Ledger_addDebt_30 ?_
    refine V_aload_n 0 d_Ledger_addDebt_33 rfl rfl ?_
    refine N_getK fa_Ledger_30 sk_75 rfl d_Ledger_addDebt_34 (kn_ne eh6 (kn_ne eh3 dK (by decide)) (by decide)) ?_
    refine V_iload_n 3 d_Ledger_addDebt_37 rfl rfl ?_
    refine N_iast sk_79 dE (by omega) d_Ledger_addDebt_38 (fun h9 eh9 => ?_)
    have hI10 : Inv h9 := inv_full hI7 eh9 rfl
    have f11 : fr S_Ledger_addDebtX_4 h h9 := fr_put f8 eh9 rfl
    refine V_aload_n 0 d_Ledger_addDebt_39 rfl rfl ?_
    refine V_dup d_Ledger_addDebt_40 rfl ?_
    refine N_getK fa_Ledger_30 sk_75 rfl d_Ledger_addDebt_41 (kn_ne eh9 (kn_ne eh6 (kn_ne eh3 dK (by decide)) (by decide)) (by decide)) ?_
    refine V_iconst 1 d_Ledger_addDebt_44 (by decide) ?_
    refine V_iadd dE tc_1 (by omega) d_Ledger_addDebt_45 (fun z12 z12e z12E => ?_)
    refine N_putI fp_Ledger_30 sk_75 rfl d_Ledger_addDebt_46 (fun h13 eh13 => ?_)
    have hI14 : Inv h13 := inv_put (lo := 0) (hi := 8) hI10 eh13 rfl z12E (by omega)
    have f15 : fr S_Ledger_addDebtX_4 h h13 := fr_put f11 eh13 rfl
    exact V_vret rfl d_Ledger_addDebt_49 ⟨rfl, ⟨hI14, f15, z12, (dZ + 1), z12E, (kn_put eh13), ⟨by rw [eh13, eh9, eh6, eh3], by omega⟩⟩⟩
def S_Reader_tellLineX_0 : List (Nat × Option Nat) := [(92, none), (69, none), (70, none), (71, none), (72, none), (73, none), (74, none), (76, none), (68, some 3), (68, some 4), (75, some 4), (77, none), (78, none), (79, none)]
abbrev q_Reader_tellLineX_0 (h : Hp) (T : Nat → Int → Int) (D : Nat → Int) (a : Int32) (aZ : Int) (b : Int32) (bZ : Int) (z : Int32) (zZ : Int) (d : Int32) (dZ : Int) : Option Value → Hp → Prop := pVd (fun h' => Inv h' ∧ fr S_Reader_tellLineX_0 h h' ∧ RC h' (x_upT T 0 0) (x_up (x_up D 144 aZ) 145 bZ))
set_option maxRecDepth 100000 in
theorem c_Reader_tellLineX_0 (h : Hp) (T : Nat → Int → Int) (D : Nat → Int) (hI : Inv h) (a : Int32) (aZ : Int) (aE : a.toInt = aZ) (aK : h.1 91 0 = a) (b : Int32) (bZ : Int) (bE : b.toInt = bZ) (bK : h.1 91 1 = b) (z : Int32) (zZ : Int) (zE : z.toInt = zZ) (zK : h.1 92 0 = z) (d : Int32) (dZ : Int) (dE : d.toInt = dZ) (dK : h.1 75 4 = d) (hy0 : RC h T D) (hy1 : 2 ≤ aZ ∧ aZ ≤ 4) (hy2 : 2 ≤ bZ ∧ bZ ≤ 4) : Ct y_Reader_tellLine b_Reader_tellLine 5 none 1 20 [.ref 88, .int 0] h (q_Reader_tellLineX_0 h T D a aZ b bZ z zZ d dZ) := by
  refine ct_ow R_Reader [some (.ref 88), some (.int 0), none, none, none] rfl (by decide) rfl (Nat.le_of_ble_eq_true rfl) ?_
  have f0 : fr S_Reader_tellLineX_0 h h := fr_rf
  have g1 : 0 ≤ dZ ∧ dZ ≤ 8 := inv_at hI dE dK.symm rfl
  refine V_aload_n 0 d_Reader_tellLine_0 rfl rfl ?_
  refine V_getR fa_Reader_21 sk_88 rfl d_Reader_tellLine_1 ?_
  refine V_getR fa_Reader_71 sk_68 rfl d_Reader_tellLine_4 ?_
  refine V_astore_n 2 [some (.ref 88), some (.int 0), some (.ref 69), none, none] d_Reader_tellLine_7 rfl (by decide) rfl rfl ?_
  refine V_aload_n 0 d_Reader_tellLine_8 rfl rfl ?_
  refine V_getR fa_Reader_25 sk_88 rfl d_Reader_tellLine_9 ?_
  refine V_iconst 0 d_Reader_tellLine_12 (by decide) ?_
  refine N_ialdK sk_91 tc_0 (by omega) d_Reader_tellLine_13 aK ?_
  refine V_istore_n 3 [some (.ref 88), some (.int 0), some (.ref 69), some (.int a), none] d_Reader_tellLine_14 rfl (by decide) rfl rfl ?_
  refine V_aload_n 0 d_Reader_tellLine_15 rfl rfl ?_
  refine V_getR fa_Reader_25 sk_88 rfl d_Reader_tellLine_16 ?_
  refine V_iconst 1 d_Reader_tellLine_19 (by decide) ?_
  refine N_ialdK sk_91 tc_1 (by omega) d_Reader_tellLine_20 bK ?_
  refine V_istore 4 [some (.ref 88), some (.int 0), some (.ref 69), some (.int a), some (.int b)] d_Reader_tellLine_21 (by decide) rfl rfl ?_
  refine V_aload_n 0 d_Reader_tellLine_23 rfl rfl ?_
  refine V_getR fa_Reader_29 sk_88 rfl d_Reader_tellLine_24 ?_
  refine V_iload_n 1 d_Reader_tellLine_27 rfl rfl ?_
  refine V_dup2 d_Reader_tellLine_28 rfl rfl ?_
  refine N_ialdK sk_92 tc_0 (by omega) d_Reader_tellLine_29 zK ?_
  refine V_iload_n 1 d_Reader_tellLine_30 rfl rfl ?_
  refine N_callSI [.int 0] [.int z, .int 0, .ref 92] cs_Reader_131 d_Reader_tellLine_31 rfl (Nat.le_of_ble_eq_true rfl) (by decide) (by decide) (c_Reader_isOfOneX_0 h) (fun z5 h6 z5Z z5E p7 => ?_)
  obtain ⟨eh6, p7⟩ := p7
  subst eh6
  refine V_if_eq 43 z5E d_Reader_tellLine_34 (by decide) (fun c8 => ?_) (fun c8 => ?_)
  ·
    refine V_iconst 1 d_Reader_tellLine_43 (by decide) ?_
    refine N_ior d_Reader_tellLine_44 (fun z9 z9Z z9E z9e => ?_)
    refine N_iast sk_92 tc_0 (by omega) d_Reader_tellLine_45 (fun h10 eh10 => ?_)
    have hI11 : Inv h10 := inv_full hI eh10 rfl
    have f12 : fr S_Reader_tellLineX_0 h h10 := fr_put f0 eh10 rfl
    refine V_iload_n 1 d_Reader_tellLine_46 rfl rfl ?_
    refine V_tabIn 96 tc_0 d_Reader_tellLine_47 (by decide) (by decide) rfl (by decide) ?_
    refine V_aload_n 2 d_Reader_tellLine_96 rfl rfl ?_
    refine V_iload_n 3 d_Reader_tellLine_97 rfl rfl ?_
    refine N_putI fp_Reader_134 sk_69 rfl d_Reader_tellLine_98 (fun h13 eh13 => ?_)
    have hI14 : Inv h13 := inv_put (lo := 2) (hi := 4) hI11 eh13 rfl aE (by omega)
    have f15 : fr S_Reader_tellLineX_0 h h13 := fr_put f12 eh13 rfl
    refine V_aload_n 2 d_Reader_tellLine_101 rfl rfl ?_
    refine V_iload d_Reader_tellLine_102 rfl ?_
    refine N_putI fp_Reader_137 sk_69 rfl d_Reader_tellLine_104 (fun h16 eh16 => ?_)
    have hI17 : Inv h16 := inv_put (lo := 2) (hi := 4) hI14 eh16 rfl bE (by omega)
    have f18 : fr S_Reader_tellLineX_0 h h16 := fr_put f15 eh16 rfl
    refine V_goto 227 d_Reader_tellLine_107 (by decide) ?_
    exact V_vret rfl d_Reader_tellLine_227 ⟨rfl, ⟨hI17, f18, ⟨RCt_ne (RCt_ne (RCt_once hy0.1 (by decide) eh10 (by assumption) rfl) eh13 (by decide)) eh16 (by decide), RCd_put (RCd_put (RCd_ne hy0.2.1 eh10 (by decide)) eh13 (show dof 69 0 = some 144 from rfl) aE (by omega)) eh16 (show dof 69 1 = some 145 from rfl) bE (by omega), RCb_put (RCb_put (RCb_ne hy0.2.2 eh10 ⟨by decide, by decide, by decide⟩) eh13 ⟨by decide, by decide, by decide⟩ (by omega) (fun j hj => by have q0 := RCd_debt hy0 dK dE; omega)) eh16 ⟨by decide, by decide, by decide⟩ (by omega) (fun j hj => by have q0 := RCd_debt hy0 dK dE; have q1 := x_up86 (D := D) (k := 144) (v := aZ) (by decide); omega)⟩⟩⟩
  ·
    exact absurd c8 (by omega)
def S_Reader_tellLineX_1 : List (Nat × Option Nat) := [(92, none), (69, none), (70, none), (71, none), (72, none), (73, none), (74, none), (76, none), (68, some 3), (68, some 4), (75, some 4), (77, none), (78, none), (79, none)]
abbrev q_Reader_tellLineX_1 (h : Hp) (T : Nat → Int → Int) (D : Nat → Int) (a : Int32) (aZ : Int) (b : Int32) (bZ : Int) (z : Int32) (zZ : Int) (d : Int32) (dZ : Int) : Option Value → Hp → Prop := pVd (fun h' => Inv h' ∧ fr S_Reader_tellLineX_1 h h' ∧ RC h' (x_upT T 1 aZ) (x_up D aZ bZ))
set_option maxRecDepth 100000 in
theorem c_Reader_tellLineX_1 (h : Hp) (T : Nat → Int → Int) (D : Nat → Int) (hI : Inv h) (a : Int32) (aZ : Int) (aE : a.toInt = aZ) (aK : h.1 91 0 = a) (b : Int32) (bZ : Int) (bE : b.toInt = bZ) (bK : h.1 91 1 = b) (z : Int32) (zZ : Int) (zE : z.toInt = zZ) (zK : h.1 92 1 = z) (d : Int32) (dZ : Int) (dE : d.toInt = dZ) (dK : h.1 75 4 = d) (hy0 : RC h T D) (hy1 : 0 ≤ aZ ∧ aZ ≤ 15) (hy2 : 1 ≤ bZ ∧ bZ ≤ 9) : Ct y_Reader_tellLine b_Reader_tellLine 5 none 1 20 [.ref 88, .int 1] h (q_Reader_tellLineX_1 h T D a aZ b bZ z zZ d dZ) := by
  refine ct_ow R_Reader [some (.ref 88), some (.int 1), none, none, none] rfl (by decide) rfl (Nat.le_of_ble_eq_true rfl) ?_
  have f0 : fr S_Reader_tellLineX_1 h h := fr_rf
  have g1 : 0 ≤ dZ ∧ dZ ≤ 8 := inv_at hI dE dK.symm rfl
  refine V_aload_n 0 d_Reader_tellLine_0 rfl rfl ?_
  refine V_getR fa_Reader_21 sk_88 rfl d_Reader_tellLine_1 ?_
  refine V_getR fa_Reader_71 sk_68 rfl d_Reader_tellLine_4 ?_
  refine V_astore_n 2 [some (.ref 88), some (.int 1), some (.ref 69), none, none] d_Reader_tellLine_7 rfl (by decide) rfl rfl ?_
  refine V_aload_n 0 d_Reader_tellLine_8 rfl rfl ?_
  refine V_getR fa_Reader_25 sk_88 rfl d_Reader_tellLine_9 ?_
  refine V_iconst 0 d_Reader_tellLine_12 (by decide) ?_
  refine N_ialdK sk_91 tc_0 (by omega) d_Reader_tellLine_13 aK ?_
  refine V_istore_n 3 [some (.ref 88), some (.int 1), some (.ref 69), some (.int a), none] d_Reader_tellLine_14 rfl (by decide) rfl rfl ?_
  refine V_aload_n 0 d_Reader_tellLine_15 rfl rfl ?_
  refine V_getR fa_Reader_25 sk_88 rfl d_Reader_tellLine_16 ?_
  refine V_iconst 1 d_Reader_tellLine_19 (by decide) ?_
  refine N_ialdK sk_91 tc_1 (by omega) d_Reader_tellLine_20 bK ?_
  refine V_istore 4 [some (.ref 88), some (.int 1), some (.ref 69), some (.int a), some (.int b)] d_Reader_tellLine_21 (by decide) rfl rfl ?_
  refine V_aload_n 0 d_Reader_tellLine_23 rfl rfl ?_
  refine V_getR fa_Reader_29 sk_88 rfl d_Reader_tellLine_24 ?_
  refine V_iload_n 1 d_Reader_tellLine_27 rfl rfl ?_
  refine V_dup2 d_Reader_tellLine_28 rfl rfl ?_
  refine N_ialdK sk_92 tc_1 (by omega) d_Reader_tellLine_29 zK ?_
  refine V_iload_n 1 d_Reader_tellLine_30 rfl rfl ?_
  refine N_callSI [.int 1] [.int z, .int 1, .ref 92] cs_Reader_131 d_Reader_tellLine_31 rfl (Nat.le_of_ble_eq_true rfl) (by decide) (by decide) (c_Reader_isOfOneX_1 h) (fun z5 h6 z5Z z5E p7 => ?_)
  obtain ⟨eh6, p7⟩ := p7
  subst eh6
  refine V_if_eq 43 z5E d_Reader_tellLine_34 (by decide) (fun c8 => ?_) (fun c8 => ?_)
  ·
    exact absurd c8 (by omega)
  ·
    refine V_iconst 1 d_Reader_tellLine_37 (by decide) ?_
    refine V_iload_n 3 d_Reader_tellLine_38 rfl rfl ?_
    refine N_ishl d_Reader_tellLine_39 (fun z9 z9Z z9E z9e => ?_)
    refine V_goto 44 d_Reader_tellLine_40 (by decide) ?_
    refine N_ior d_Reader_tellLine_44 (fun z10 z10Z z10E z10e => ?_)
    refine N_iast sk_92 tc_1 (by omega) d_Reader_tellLine_45 (fun h11 eh11 => ?_)
    have hI12 : Inv h11 := inv_full hI eh11 rfl
    have f13 : fr S_Reader_tellLineX_1 h h11 := fr_put f0 eh11 rfl
    refine V_iload_n 1 d_Reader_tellLine_46 rfl rfl ?_
    refine V_tabIn 110 tc_1 d_Reader_tellLine_47 (by decide) (by decide) rfl (by decide) ?_
    refine V_aload_n 2 d_Reader_tellLine_110 rfl rfl ?_
    refine V_getR fa_Reader_140 sk_69 rfl d_Reader_tellLine_111 ?_
    refine V_iload_n 3 d_Reader_tellLine_114 rfl rfl ?_
    refine V_iload d_Reader_tellLine_115 rfl ?_
    refine N_iast sk_70 aE (by omega) d_Reader_tellLine_117 (fun h14 eh14 => ?_)
    have hI15 : Inv h14 := inv_full hI12 eh14 rfl
    have f16 : fr S_Reader_tellLineX_1 h h14 := fr_put f13 eh14 rfl
    refine V_goto 227 d_Reader_tellLine_118 (by decide) ?_
    exact V_vret rfl d_Reader_tellLine_227 ⟨rfl, ⟨hI15, f16, ⟨RCt_ne (RCt_one hy0.1 ⟨by decide, by decide⟩ eh11 zK (by omega) aE (by assumption) (by assumption) rfl) eh14 (by decide), RCd_put (RCd_ne hy0.2.1 eh11 (by decide)) eh14 (dof_row (k := 70) (n := 16) (o := 0) (A := aZ) (by decide) (by omega) rfl) bE (by omega), RCb_put (RCb_ne hy0.2.2 eh11 ⟨by decide, by decide, by decide⟩) eh14 ⟨by decide, by decide, by decide⟩ (by omega) (fun j hj => by have q0 := RCd_debt hy0 dK dE; omega)⟩⟩⟩
def S_Reader_tellLineX_2 : List (Nat × Option Nat) := [(92, none), (69, none), (70, none), (71, none), (72, none), (73, none), (74, none), (76, none), (68, some 3), (68, some 4), (75, some 4), (77, none), (78, none), (79, none)]
abbrev q_Reader_tellLineX_2 (h : Hp) (T : Nat → Int → Int) (D : Nat → Int) (a : Int32) (aZ : Int) (z : Int32) (zZ : Int) (d : Int32) (dZ : Int) : Option Value → Hp → Prop := pVd (fun h' => Inv h' ∧ fr S_Reader_tellLineX_2 h h' ∧ RC h' (x_upT T 2 aZ) (x_up D (16 + aZ) 1))
set_option maxRecDepth 100000 in
theorem c_Reader_tellLineX_2 (h : Hp) (T : Nat → Int → Int) (D : Nat → Int) (hI : Inv h) (a : Int32) (aZ : Int) (aE : a.toInt = aZ) (aK : h.1 91 0 = a) (z : Int32) (zZ : Int) (zE : z.toInt = zZ) (zK : h.1 92 2 = z) (d : Int32) (dZ : Int) (dE : d.toInt = dZ) (dK : h.1 75 4 = d) (hy0 : RC h T D) (hy1 : 0 ≤ aZ ∧ aZ ≤ 15) : Ct y_Reader_tellLine b_Reader_tellLine 5 none 1 20 [.ref 88, .int 2] h (q_Reader_tellLineX_2 h T D a aZ z zZ d dZ) := by
  refine ct_ow R_Reader [some (.ref 88), some (.int 2), none, none, none] rfl (by decide) rfl (Nat.le_of_ble_eq_true rfl) ?_
  have f0 : fr S_Reader_tellLineX_2 h h := fr_rf
  have g1 : 0 ≤ dZ ∧ dZ ≤ 8 := inv_at hI dE dK.symm rfl
  refine V_aload_n 0 d_Reader_tellLine_0 rfl rfl ?_
  refine V_getR fa_Reader_21 sk_88 rfl d_Reader_tellLine_1 ?_
  refine V_getR fa_Reader_71 sk_68 rfl d_Reader_tellLine_4 ?_
  refine V_astore_n 2 [some (.ref 88), some (.int 2), some (.ref 69), none, none] d_Reader_tellLine_7 rfl (by decide) rfl rfl ?_
  refine V_aload_n 0 d_Reader_tellLine_8 rfl rfl ?_
  refine V_getR fa_Reader_25 sk_88 rfl d_Reader_tellLine_9 ?_
  refine V_iconst 0 d_Reader_tellLine_12 (by decide) ?_
  refine N_ialdK sk_91 tc_0 (by omega) d_Reader_tellLine_13 aK ?_
  refine V_istore_n 3 [some (.ref 88), some (.int 2), some (.ref 69), some (.int a), none] d_Reader_tellLine_14 rfl (by decide) rfl rfl ?_
  refine V_aload_n 0 d_Reader_tellLine_15 rfl rfl ?_
  refine V_getR fa_Reader_25 sk_88 rfl d_Reader_tellLine_16 ?_
  refine V_iconst 1 d_Reader_tellLine_19 (by decide) ?_
  refine N_iald sk_91 tc_1 (by omega) d_Reader_tellLine_20 (fun z3 z3Z z3E z3e => ?_)
  refine V_istore 4 [some (.ref 88), some (.int 2), some (.ref 69), some (.int a), some (.int z3)] d_Reader_tellLine_21 (by decide) rfl rfl ?_
  refine V_aload_n 0 d_Reader_tellLine_23 rfl rfl ?_
  refine V_getR fa_Reader_29 sk_88 rfl d_Reader_tellLine_24 ?_
  refine V_iload_n 1 d_Reader_tellLine_27 rfl rfl ?_
  refine V_dup2 d_Reader_tellLine_28 rfl rfl ?_
  refine N_ialdK sk_92 tc_2 (by omega) d_Reader_tellLine_29 zK ?_
  refine V_iload_n 1 d_Reader_tellLine_30 rfl rfl ?_
  refine N_callSI [.int 2] [.int z, .int 2, .ref 92] cs_Reader_131 d_Reader_tellLine_31 rfl (Nat.le_of_ble_eq_true rfl) (by decide) (by decide) (c_Reader_isOfOneX_2 h) (fun z5 h6 z5Z z5E p7 => ?_)
  obtain ⟨eh6, p7⟩ := p7
  subst eh6
  refine V_if_eq 43 z5E d_Reader_tellLine_34 (by decide) (fun c8 => ?_) (fun c8 => ?_)
  ·
    exact absurd c8 (by omega)
  ·
    refine V_iconst 1 d_Reader_tellLine_37 (by decide) ?_
    refine V_iload_n 3 d_Reader_tellLine_38 rfl rfl ?_
    refine N_ishl d_Reader_tellLine_39 (fun z9 z9Z z9E z9e => ?_)
    refine V_goto 44 d_Reader_tellLine_40 (by decide) ?_
    refine N_ior d_Reader_tellLine_44 (fun z10 z10Z z10E z10e => ?_)
    refine N_iast sk_92 tc_2 (by omega) d_Reader_tellLine_45 (fun h11 eh11 => ?_)
    have hI12 : Inv h11 := inv_full hI eh11 rfl
    have f13 : fr S_Reader_tellLineX_2 h h11 := fr_put f0 eh11 rfl
    refine V_iload_n 1 d_Reader_tellLine_46 rfl rfl ?_
    refine V_tabIn 121 tc_2 d_Reader_tellLine_47 (by decide) (by decide) rfl (by decide) ?_
    refine V_aload_n 2 d_Reader_tellLine_121 rfl rfl ?_
    refine V_getR fa_Reader_143 sk_69 rfl d_Reader_tellLine_122 ?_
    refine V_iload_n 3 d_Reader_tellLine_125 rfl rfl ?_
    refine V_iconst 1 d_Reader_tellLine_126 (by decide) ?_
    refine N_iast sk_71 aE (by omega) d_Reader_tellLine_127 (fun h14 eh14 => ?_)
    have hI15 : Inv h14 := inv_full hI12 eh14 rfl
    have f16 : fr S_Reader_tellLineX_2 h h14 := fr_put f13 eh14 rfl
    refine V_goto 227 d_Reader_tellLine_128 (by decide) ?_
    exact V_vret rfl d_Reader_tellLine_227 ⟨rfl, ⟨hI15, f16, ⟨RCt_ne (RCt_one hy0.1 ⟨by decide, by decide⟩ eh11 zK (by omega) aE (by assumption) (by assumption) rfl) eh14 (by decide), RCd_put (RCd_ne hy0.2.1 eh11 (by decide)) eh14 (dof_row (k := 71) (n := 16) (o := 16) (A := aZ) (by decide) (by omega) rfl) rfl (by omega), RCb_put (RCb_ne hy0.2.2 eh11 ⟨by decide, by decide, by decide⟩) eh14 ⟨by decide, by decide, by decide⟩ (by omega) (fun j hj => by have q0 := RCd_debt hy0 dK dE; omega)⟩⟩⟩
def S_Reader_tellLineX_3 : List (Nat × Option Nat) := [(92, none), (69, none), (70, none), (71, none), (72, none), (73, none), (74, none), (76, none), (68, some 3), (68, some 4), (75, some 4), (77, none), (78, none), (79, none)]
abbrev q_Reader_tellLineX_3 (h : Hp) (T : Nat → Int → Int) (D : Nat → Int) (a : Int32) (aZ : Int) (b : Int32) (bZ : Int) (z : Int32) (zZ : Int) (d : Int32) (dZ : Int) : Option Value → Hp → Prop := pVd (fun h' => Inv h' ∧ fr S_Reader_tellLineX_3 h h' ∧ RC h' (x_upT T 3 aZ) (x_up D (32 + aZ) bZ))
set_option maxRecDepth 100000 in
theorem c_Reader_tellLineX_3 (h : Hp) (T : Nat → Int → Int) (D : Nat → Int) (hI : Inv h) (a : Int32) (aZ : Int) (aE : a.toInt = aZ) (aK : h.1 91 0 = a) (b : Int32) (bZ : Int) (bE : b.toInt = bZ) (bK : h.1 91 1 = b) (z : Int32) (zZ : Int) (zE : z.toInt = zZ) (zK : h.1 92 3 = z) (d : Int32) (dZ : Int) (dE : d.toInt = dZ) (dK : h.1 75 4 = d) (hy0 : RC h T D) (hy1 : 0 ≤ aZ ∧ aZ ≤ 15) (hy2 : 0 ≤ bZ ∧ bZ ≤ 10) : Ct y_Reader_tellLine b_Reader_tellLine 5 none 1 20 [.ref 88, .int 3] h (q_Reader_tellLineX_3 h T D a aZ b bZ z zZ d dZ) := by
  refine ct_ow R_Reader [some (.ref 88), some (.int 3), none, none, none] rfl (by decide) rfl (Nat.le_of_ble_eq_true rfl) ?_
  have f0 : fr S_Reader_tellLineX_3 h h := fr_rf
  have g1 : 0 ≤ dZ ∧ dZ ≤ 8 := inv_at hI dE dK.symm rfl
  refine V_aload_n 0 d_Reader_tellLine_0 rfl rfl ?_
  refine V_getR fa_Reader_21 sk_88 rfl d_Reader_tellLine_1 ?_
  refine V_getR fa_Reader_71 sk_68 rfl d_Reader_tellLine_4 ?_
  refine V_astore_n 2 [some (.ref 88), some (.int 3), some (.ref 69), none, none] d_Reader_tellLine_7 rfl (by decide) rfl rfl ?_
  refine V_aload_n 0 d_Reader_tellLine_8 rfl rfl ?_
  refine V_getR fa_Reader_25 sk_88 rfl d_Reader_tellLine_9 ?_
  refine V_iconst 0 d_Reader_tellLine_12 (by decide) ?_
  refine N_ialdK sk_91 tc_0 (by omega) d_Reader_tellLine_13 aK ?_
  refine V_istore_n 3 [some (.ref 88), some (.int 3), some (.ref 69), some (.int a), none] d_Reader_tellLine_14 rfl (by decide) rfl rfl ?_
  refine V_aload_n 0 d_Reader_tellLine_15 rfl rfl ?_
  refine V_getR fa_Reader_25 sk_88 rfl d_Reader_tellLine_16 ?_
  refine V_iconst 1 d_Reader_tellLine_19 (by decide) ?_
  refine N_ialdK sk_91 tc_1 (by omega) d_Reader_tellLine_20 bK ?_
  refine V_istore 4 [some (.ref 88), some (.int 3), some (.ref 69), some (.int a), some (.int b)] d_Reader_tellLine_21 (by decide) rfl rfl ?_
  refine V_aload_n 0 d_Reader_tellLine_23 rfl rfl ?_
  refine V_getR fa_Reader_29 sk_88 rfl d_Reader_tellLine_24 ?_
  refine V_iload_n 1 d_Reader_tellLine_27 rfl rfl ?_
  refine V_dup2 d_Reader_tellLine_28 rfl rfl ?_
  refine N_ialdK sk_92 tc_3 (by omega) d_Reader_tellLine_29 zK ?_
  refine V_iload_n 1 d_Reader_tellLine_30 rfl rfl ?_
  refine N_callSI [.int 3] [.int z, .int 3, .ref 92] cs_Reader_131 d_Reader_tellLine_31 rfl (Nat.le_of_ble_eq_true rfl) (by decide) (by decide) (c_Reader_isOfOneX_3 h) (fun z5 h6 z5Z z5E p7 => ?_)
  obtain ⟨eh6, p7⟩ := p7
  subst eh6
  refine V_if_eq 43 z5E d_Reader_tellLine_34 (by decide) (fun c8 => ?_) (fun c8 => ?_)
  ·
    exact absurd c8 (by omega)
  ·
    refine V_iconst 1 d_Reader_tellLine_37 (by decide) ?_
    refine V_iload_n 3 d_Reader_tellLine_38 rfl rfl ?_
    refine N_ishl d_Reader_tellLine_39 (fun z9 z9Z z9E z9e => ?_)
    refine V_goto 44 d_Reader_tellLine_40 (by decide) ?_
    refine N_ior d_Reader_tellLine_44 (fun z10 z10Z z10E z10e => ?_)
    refine N_iast sk_92 tc_3 (by omega) d_Reader_tellLine_45 (fun h11 eh11 => ?_)
    have hI12 : Inv h11 := inv_full hI eh11 rfl
    have f13 : fr S_Reader_tellLineX_3 h h11 := fr_put f0 eh11 rfl
    refine V_iload_n 1 d_Reader_tellLine_46 rfl rfl ?_
    refine V_tabIn 131 tc_3 d_Reader_tellLine_47 (by decide) (by decide) rfl (by decide) ?_
    refine V_aload_n 2 d_Reader_tellLine_131 rfl rfl ?_
    refine V_getR fa_Reader_146 sk_69 rfl d_Reader_tellLine_132 ?_
    refine V_iload_n 3 d_Reader_tellLine_135 rfl rfl ?_
    refine V_iload d_Reader_tellLine_136 rfl ?_
    refine N_iast sk_72 aE (by omega) d_Reader_tellLine_138 (fun h14 eh14 => ?_)
    have hI15 : Inv h14 := inv_full hI12 eh14 rfl
    have f16 : fr S_Reader_tellLineX_3 h h14 := fr_put f13 eh14 rfl
    refine V_goto 227 d_Reader_tellLine_139 (by decide) ?_
    exact V_vret rfl d_Reader_tellLine_227 ⟨rfl, ⟨hI15, f16, ⟨RCt_ne (RCt_one hy0.1 ⟨by decide, by decide⟩ eh11 zK (by omega) aE (by assumption) (by assumption) rfl) eh14 (by decide), RCd_put (RCd_ne hy0.2.1 eh11 (by decide)) eh14 (dof_row (k := 72) (n := 16) (o := 32) (A := aZ) (by decide) (by omega) rfl) bE (by omega), RCb_put (RCb_ne hy0.2.2 eh11 ⟨by decide, by decide, by decide⟩) eh14 ⟨by decide, by decide, by decide⟩ (by omega) (fun j hj => by have q0 := RCd_debt hy0 dK dE; omega)⟩⟩⟩
def S_Reader_tellLineX_4 : List (Nat × Option Nat) := [(92, none), (69, none), (70, none), (71, none), (72, none), (73, none), (74, none), (76, none), (68, some 3), (68, some 4), (75, some 4), (77, none), (78, none), (79, none)]
abbrev q_Reader_tellLineX_4 (h : Hp) (T : Nat → Int → Int) (D : Nat → Int) (a : Int32) (aZ : Int) (b : Int32) (bZ : Int) (z : Int32) (zZ : Int) (d : Int32) (dZ : Int) : Option Value → Hp → Prop := pVd (fun h' => Inv h' ∧ fr S_Reader_tellLineX_4 h h' ∧ RC h' (x_upT T 4 aZ) (x_up D (48 + aZ) bZ))
set_option maxRecDepth 100000 in
theorem c_Reader_tellLineX_4 (h : Hp) (T : Nat → Int → Int) (D : Nat → Int) (hI : Inv h) (a : Int32) (aZ : Int) (aE : a.toInt = aZ) (aK : h.1 91 0 = a) (b : Int32) (bZ : Int) (bE : b.toInt = bZ) (bK : h.1 91 1 = b) (z : Int32) (zZ : Int) (zE : z.toInt = zZ) (zK : h.1 92 4 = z) (d : Int32) (dZ : Int) (dE : d.toInt = dZ) (dK : h.1 75 4 = d) (hy0 : RC h T D) (hy1 : 0 ≤ aZ ∧ aZ ≤ 15) (hy2 : 0 ≤ bZ ∧ bZ ≤ 3) : Ct y_Reader_tellLine b_Reader_tellLine 5 none 1 20 [.ref 88, .int 4] h (q_Reader_tellLineX_4 h T D a aZ b bZ z zZ d dZ) := by
  refine ct_ow R_Reader [some (.ref 88), some (.int 4), none, none, none] rfl (by decide) rfl (Nat.le_of_ble_eq_true rfl) ?_
  have f0 : fr S_Reader_tellLineX_4 h h := fr_rf
  have g1 : 0 ≤ dZ ∧ dZ ≤ 8 := inv_at hI dE dK.symm rfl
  refine V_aload_n 0 d_Reader_tellLine_0 rfl rfl ?_
  refine V_getR fa_Reader_21 sk_88 rfl d_Reader_tellLine_1 ?_
  refine V_getR fa_Reader_71 sk_68 rfl d_Reader_tellLine_4 ?_
  refine V_astore_n 2 [some (.ref 88), some (.int 4), some (.ref 69), none, none] d_Reader_tellLine_7 rfl (by decide) rfl rfl ?_
  refine V_aload_n 0 d_Reader_tellLine_8 rfl rfl ?_
  refine V_getR fa_Reader_25 sk_88 rfl d_Reader_tellLine_9 ?_
  refine V_iconst 0 d_Reader_tellLine_12 (by decide) ?_
  refine N_ialdK sk_91 tc_0 (by omega) d_Reader_tellLine_13 aK ?_
  refine V_istore_n 3 [some (.ref 88), some (.int 4), some (.ref 69), some (.int a), none] d_Reader_tellLine_14 rfl (by decide) rfl rfl ?_
  refine V_aload_n 0 d_Reader_tellLine_15 rfl rfl ?_
  refine V_getR fa_Reader_25 sk_88 rfl d_Reader_tellLine_16 ?_
  refine V_iconst 1 d_Reader_tellLine_19 (by decide) ?_
  refine N_ialdK sk_91 tc_1 (by omega) d_Reader_tellLine_20 bK ?_
  refine V_istore 4 [some (.ref 88), some (.int 4), some (.ref 69), some (.int a), some (.int b)] d_Reader_tellLine_21 (by decide) rfl rfl ?_
  refine V_aload_n 0 d_Reader_tellLine_23 rfl rfl ?_
  refine V_getR fa_Reader_29 sk_88 rfl d_Reader_tellLine_24 ?_
  refine V_iload_n 1 d_Reader_tellLine_27 rfl rfl ?_
  refine V_dup2 d_Reader_tellLine_28 rfl rfl ?_
  refine N_ialdK sk_92 tc_4 (by omega) d_Reader_tellLine_29 zK ?_
  refine V_iload_n 1 d_Reader_tellLine_30 rfl rfl ?_
  refine N_callSI [.int 4] [.int z, .int 4, .ref 92] cs_Reader_131 d_Reader_tellLine_31 rfl (Nat.le_of_ble_eq_true rfl) (by decide) (by decide) (c_Reader_isOfOneX_4 h) (fun z5 h6 z5Z z5E p7 => ?_)
  obtain ⟨eh6, p7⟩ := p7
  subst eh6
  refine V_if_eq 43 z5E d_Reader_tellLine_34 (by decide) (fun c8 => ?_) (fun c8 => ?_)
  ·
    exact absurd c8 (by omega)
  ·
    refine V_iconst 1 d_Reader_tellLine_37 (by decide) ?_
    refine V_iload_n 3 d_Reader_tellLine_38 rfl rfl ?_
    refine N_ishl d_Reader_tellLine_39 (fun z9 z9Z z9E z9e => ?_)
    refine V_goto 44 d_Reader_tellLine_40 (by decide) ?_
    refine N_ior d_Reader_tellLine_44 (fun z10 z10Z z10E z10e => ?_)
    refine N_iast sk_92 tc_4 (by omega) d_Reader_tellLine_45 (fun h11 eh11 => ?_)
    have hI12 : Inv h11 := inv_full hI eh11 rfl
    have f13 : fr S_Reader_tellLineX_4 h h11 := fr_put f0 eh11 rfl
    refine V_iload_n 1 d_Reader_tellLine_46 rfl rfl ?_
    refine V_tabIn 142 tc_4 d_Reader_tellLine_47 (by decide) (by decide) rfl (by decide) ?_
    refine V_aload_n 2 d_Reader_tellLine_142 rfl rfl ?_
    refine V_getR fa_Reader_149 sk_69 rfl d_Reader_tellLine_143 ?_
    refine V_iload_n 3 d_Reader_tellLine_146 rfl rfl ?_
    refine V_iload d_Reader_tellLine_147 rfl ?_
    refine N_iast sk_73 aE (by omega) d_Reader_tellLine_149 (fun h14 eh14 => ?_)
    have hI15 : Inv h14 := inv_full hI12 eh14 rfl
    have f16 : fr S_Reader_tellLineX_4 h h14 := fr_put f13 eh14 rfl
    refine V_goto 227 d_Reader_tellLine_150 (by decide) ?_
    exact V_vret rfl d_Reader_tellLine_227 ⟨rfl, ⟨hI15, f16, ⟨RCt_ne (RCt_one hy0.1 ⟨by decide, by decide⟩ eh11 zK (by omega) aE (by assumption) (by assumption) rfl) eh14 (by decide), RCd_put (RCd_ne hy0.2.1 eh11 (by decide)) eh14 (dof_row (k := 73) (n := 16) (o := 48) (A := aZ) (by decide) (by omega) rfl) bE (by omega), RCb_put (RCb_ne hy0.2.2 eh11 ⟨by decide, by decide, by decide⟩) eh14 ⟨by decide, by decide, by decide⟩ (by omega) (fun j hj => by have q0 := RCd_debt hy0 dK dE; omega)⟩⟩⟩
def S_Reader_tellLineX_5 : List (Nat × Option Nat) := [(92, none), (69, none), (70, none), (71, none), (72, none), (73, none), (74, none), (76, none), (68, some 3), (68, some 4), (75, some 4), (77, none), (78, none), (79, none)]
abbrev q_Reader_tellLineX_5 (h : Hp) (T : Nat → Int → Int) (D : Nat → Int) (a : Int32) (aZ : Int) (b : Int32) (bZ : Int) (z : Int32) (zZ : Int) (d : Int32) (dZ : Int) : Option Value → Hp → Prop := pVd (fun h' => Inv h' ∧ fr S_Reader_tellLineX_5 h h' ∧ RC h' (x_upT T 5 aZ) (x_up D (80 + aZ) bZ))
set_option maxRecDepth 100000 in
theorem c_Reader_tellLineX_5 (h : Hp) (T : Nat → Int → Int) (D : Nat → Int) (hI : Inv h) (a : Int32) (aZ : Int) (aE : a.toInt = aZ) (aK : h.1 91 0 = a) (b : Int32) (bZ : Int) (bE : b.toInt = bZ) (bK : h.1 91 1 = b) (z : Int32) (zZ : Int) (zE : z.toInt = zZ) (zK : h.1 92 5 = z) (d : Int32) (dZ : Int) (dE : d.toInt = dZ) (dK : h.1 75 4 = d) (hy0 : RC h T D) (hy1 : 0 ≤ aZ ∧ aZ ≤ 3) (hy2 : 0 ≤ bZ ∧ bZ ≤ 99) : Ct y_Reader_tellLine b_Reader_tellLine 5 none 1 20 [.ref 88, .int 5] h (q_Reader_tellLineX_5 h T D a aZ b bZ z zZ d dZ) := by
  refine ct_ow R_Reader [some (.ref 88), some (.int 5), none, none, none] rfl (by decide) rfl (Nat.le_of_ble_eq_true rfl) ?_
  have f0 : fr S_Reader_tellLineX_5 h h := fr_rf
  have g1 : 0 ≤ dZ ∧ dZ ≤ 8 := inv_at hI dE dK.symm rfl
  refine V_aload_n 0 d_Reader_tellLine_0 rfl rfl ?_
  refine V_getR fa_Reader_21 sk_88 rfl d_Reader_tellLine_1 ?_
  refine V_getR fa_Reader_71 sk_68 rfl d_Reader_tellLine_4 ?_
  refine V_astore_n 2 [some (.ref 88), some (.int 5), some (.ref 69), none, none] d_Reader_tellLine_7 rfl (by decide) rfl rfl ?_
  refine V_aload_n 0 d_Reader_tellLine_8 rfl rfl ?_
  refine V_getR fa_Reader_25 sk_88 rfl d_Reader_tellLine_9 ?_
  refine V_iconst 0 d_Reader_tellLine_12 (by decide) ?_
  refine N_ialdK sk_91 tc_0 (by omega) d_Reader_tellLine_13 aK ?_
  refine V_istore_n 3 [some (.ref 88), some (.int 5), some (.ref 69), some (.int a), none] d_Reader_tellLine_14 rfl (by decide) rfl rfl ?_
  refine V_aload_n 0 d_Reader_tellLine_15 rfl rfl ?_
  refine V_getR fa_Reader_25 sk_88 rfl d_Reader_tellLine_16 ?_
  refine V_iconst 1 d_Reader_tellLine_19 (by decide) ?_
  refine N_ialdK sk_91 tc_1 (by omega) d_Reader_tellLine_20 bK ?_
  refine V_istore 4 [some (.ref 88), some (.int 5), some (.ref 69), some (.int a), some (.int b)] d_Reader_tellLine_21 (by decide) rfl rfl ?_
  refine V_aload_n 0 d_Reader_tellLine_23 rfl rfl ?_
  refine V_getR fa_Reader_29 sk_88 rfl d_Reader_tellLine_24 ?_
  refine V_iload_n 1 d_Reader_tellLine_27 rfl rfl ?_
  refine V_dup2 d_Reader_tellLine_28 rfl rfl ?_
  refine N_ialdK sk_92 tc_5 (by omega) d_Reader_tellLine_29 zK ?_
  refine V_iload_n 1 d_Reader_tellLine_30 rfl rfl ?_
  refine N_callSI [.int 5] [.int z, .int 5, .ref 92] cs_Reader_131 d_Reader_tellLine_31 rfl (Nat.le_of_ble_eq_true rfl) (by decide) (by decide) (c_Reader_isOfOneX_5 h) (fun z5 h6 z5Z z5E p7 => ?_)
  obtain ⟨eh6, p7⟩ := p7
  subst eh6
  refine V_if_eq 43 z5E d_Reader_tellLine_34 (by decide) (fun c8 => ?_) (fun c8 => ?_)
  ·
    exact absurd c8 (by omega)
  ·
    refine V_iconst 1 d_Reader_tellLine_37 (by decide) ?_
    refine V_iload_n 3 d_Reader_tellLine_38 rfl rfl ?_
    refine N_ishl d_Reader_tellLine_39 (fun z9 z9Z z9E z9e => ?_)
    refine V_goto 44 d_Reader_tellLine_40 (by decide) ?_
    refine N_ior d_Reader_tellLine_44 (fun z10 z10Z z10E z10e => ?_)
    refine N_iast sk_92 tc_5 (by omega) d_Reader_tellLine_45 (fun h11 eh11 => ?_)
    have hI12 : Inv h11 := inv_full hI eh11 rfl
    have f13 : fr S_Reader_tellLineX_5 h h11 := fr_put f0 eh11 rfl
    refine V_iload_n 1 d_Reader_tellLine_46 rfl rfl ?_
    refine V_tabIn 153 tc_5 d_Reader_tellLine_47 (by decide) (by decide) rfl (by decide) ?_
    refine V_aload_n 0 d_Reader_tellLine_153 rfl rfl ?_
    refine V_getR fa_Reader_21 sk_88 rfl d_Reader_tellLine_154 ?_
    refine V_getR fa_Reader_94 sk_68 rfl d_Reader_tellLine_157 ?_
    refine V_getR fa_Reader_152 sk_75 rfl d_Reader_tellLine_160 ?_
    refine V_iload_n 3 d_Reader_tellLine_163 rfl rfl ?_
    refine V_iload d_Reader_tellLine_164 rfl ?_
    refine N_iast sk_76 aE (by omega) d_Reader_tellLine_166 (fun h14 eh14 => ?_)
    have hI15 : Inv h14 := inv_full hI12 eh14 rfl
    have f16 : fr S_Reader_tellLineX_5 h h14 := fr_put f13 eh14 rfl
    refine V_goto 227 d_Reader_tellLine_167 (by decide) ?_
    exact V_vret rfl d_Reader_tellLine_227 ⟨rfl, ⟨hI15, f16, ⟨RCt_ne (RCt_one hy0.1 ⟨by decide, by decide⟩ eh11 zK (by omega) aE (by assumption) (by assumption) rfl) eh14 (by decide), RCd_put (RCd_ne hy0.2.1 eh11 (by decide)) eh14 (dof_row (k := 76) (n := 4) (o := 80) (A := aZ) (by decide) (by omega) rfl) bE (by omega), RCb_put (RCb_ne hy0.2.2 eh11 ⟨by decide, by decide, by decide⟩) eh14 ⟨by decide, by decide, by decide⟩ (by omega) (fun j hj => by have q0 := RCd_debt hy0 dK dE; omega)⟩⟩⟩
def S_Reader_tellLineX_6 : List (Nat × Option Nat) := [(92, none), (69, none), (70, none), (71, none), (72, none), (73, none), (74, none), (76, none), (68, some 3), (68, some 4), (75, some 4), (77, none), (78, none), (79, none)]
abbrev q_Reader_tellLineX_6 (h : Hp) (T : Nat → Int → Int) (D : Nat → Int) (a : Int32) (aZ : Int) (z : Int32) (zZ : Int) (d : Int32) (dZ : Int) : Option Value → Hp → Prop := pVd (fun h' => Inv h' ∧ fr S_Reader_tellLineX_6 h h' ∧ RC h' (x_upT T 6 0) (x_up D 146 aZ))
set_option maxRecDepth 100000 in
theorem c_Reader_tellLineX_6 (h : Hp) (T : Nat → Int → Int) (D : Nat → Int) (hI : Inv h) (a : Int32) (aZ : Int) (aE : a.toInt = aZ) (aK : h.1 91 0 = a) (z : Int32) (zZ : Int) (zE : z.toInt = zZ) (zK : h.1 92 6 = z) (d : Int32) (dZ : Int) (dE : d.toInt = dZ) (dK : h.1 75 4 = d) (hy0 : RC h T D) (hy1 : 1 ≤ aZ ∧ aZ ≤ 9) : Ct y_Reader_tellLine b_Reader_tellLine 5 none 1 20 [.ref 88, .int 6] h (q_Reader_tellLineX_6 h T D a aZ z zZ d dZ) := by
  refine ct_ow R_Reader [some (.ref 88), some (.int 6), none, none, none] rfl (by decide) rfl (Nat.le_of_ble_eq_true rfl) ?_
  have f0 : fr S_Reader_tellLineX_6 h h := fr_rf
  have g1 : 0 ≤ dZ ∧ dZ ≤ 8 := inv_at hI dE dK.symm rfl
  refine V_aload_n 0 d_Reader_tellLine_0 rfl rfl ?_
  refine V_getR fa_Reader_21 sk_88 rfl d_Reader_tellLine_1 ?_
  refine V_getR fa_Reader_71 sk_68 rfl d_Reader_tellLine_4 ?_
  refine V_astore_n 2 [some (.ref 88), some (.int 6), some (.ref 69), none, none] d_Reader_tellLine_7 rfl (by decide) rfl rfl ?_
  refine V_aload_n 0 d_Reader_tellLine_8 rfl rfl ?_
  refine V_getR fa_Reader_25 sk_88 rfl d_Reader_tellLine_9 ?_
  refine V_iconst 0 d_Reader_tellLine_12 (by decide) ?_
  refine N_ialdK sk_91 tc_0 (by omega) d_Reader_tellLine_13 aK ?_
  refine V_istore_n 3 [some (.ref 88), some (.int 6), some (.ref 69), some (.int a), none] d_Reader_tellLine_14 rfl (by decide) rfl rfl ?_
  refine V_aload_n 0 d_Reader_tellLine_15 rfl rfl ?_
  refine V_getR fa_Reader_25 sk_88 rfl d_Reader_tellLine_16 ?_
  refine V_iconst 1 d_Reader_tellLine_19 (by decide) ?_
  refine N_iald sk_91 tc_1 (by omega) d_Reader_tellLine_20 (fun z3 z3Z z3E z3e => ?_)
  refine V_istore 4 [some (.ref 88), some (.int 6), some (.ref 69), some (.int a), some (.int z3)] d_Reader_tellLine_21 (by decide) rfl rfl ?_
  refine V_aload_n 0 d_Reader_tellLine_23 rfl rfl ?_
  refine V_getR fa_Reader_29 sk_88 rfl d_Reader_tellLine_24 ?_
  refine V_iload_n 1 d_Reader_tellLine_27 rfl rfl ?_
  refine V_dup2 d_Reader_tellLine_28 rfl rfl ?_
  refine N_ialdK sk_92 tc_6 (by omega) d_Reader_tellLine_29 zK ?_
  refine V_iload_n 1 d_Reader_tellLine_30 rfl rfl ?_
  refine N_callSI [.int 6] [.int z, .int 6, .ref 92] cs_Reader_131 d_Reader_tellLine_31 rfl (Nat.le_of_ble_eq_true rfl) (by decide) (by decide) (c_Reader_isOfOneX_6 h) (fun z5 h6 z5Z z5E p7 => ?_)
  obtain ⟨eh6, p7⟩ := p7
  subst eh6
  refine V_if_eq 43 z5E d_Reader_tellLine_34 (by decide) (fun c8 => ?_) (fun c8 => ?_)
  ·
    refine V_iconst 1 d_Reader_tellLine_43 (by decide) ?_
    refine N_ior d_Reader_tellLine_44 (fun z9 z9Z z9E z9e => ?_)
    refine N_iast sk_92 tc_6 (by omega) d_Reader_tellLine_45 (fun h10 eh10 => ?_)
    have hI11 : Inv h10 := inv_full hI eh10 rfl
    have f12 : fr S_Reader_tellLineX_6 h h10 := fr_put f0 eh10 rfl
    refine V_iload_n 1 d_Reader_tellLine_46 rfl rfl ?_
    refine V_tabIn 170 tc_6 d_Reader_tellLine_47 (by decide) (by decide) rfl (by decide) ?_
    refine V_aload_n 2 d_Reader_tellLine_170 rfl rfl ?_
    refine V_iload_n 3 d_Reader_tellLine_171 rfl rfl ?_
    refine N_putI fp_Reader_155 sk_69 rfl d_Reader_tellLine_172 (fun h13 eh13 => ?_)
    have hI14 : Inv h13 := inv_full hI11 eh13 rfl
    have f15 : fr S_Reader_tellLineX_6 h h13 := fr_put f12 eh13 rfl
    refine V_goto 227 d_Reader_tellLine_175 (by decide) ?_
    exact V_vret rfl d_Reader_tellLine_227 ⟨rfl, ⟨hI14, f15, ⟨RCt_ne (RCt_once hy0.1 (by decide) eh10 (by assumption) rfl) eh13 (by decide), RCd_put (RCd_ne hy0.2.1 eh10 (by decide)) eh13 (show dof 69 2 = some 146 from rfl) aE (by omega), RCb_put (RCb_ne hy0.2.2 eh10 ⟨by decide, by decide, by decide⟩) eh13 ⟨by decide, by decide, by decide⟩ (by omega) (fun j hj => by have q0 := RCd_debt hy0 dK dE; omega)⟩⟩⟩
  ·
    exact absurd c8 (by omega)
def S_Reader_tellLineX_7 : List (Nat × Option Nat) := [(92, none), (69, none), (70, none), (71, none), (72, none), (73, none), (74, none), (76, none), (68, some 3), (68, some 4), (75, some 4), (77, none), (78, none), (79, none)]
abbrev q_Reader_tellLineX_7 (h : Hp) (T : Nat → Int → Int) (D : Nat → Int) (a : Int32) (aZ : Int) (z : Int32) (zZ : Int) (d : Int32) (dZ : Int) : Option Value → Hp → Prop := pVd (fun h' => Inv h' ∧ fr S_Reader_tellLineX_7 h h' ∧ RC h' (x_upT T 7 0) (x_up D 147 aZ))
set_option maxRecDepth 100000 in
theorem c_Reader_tellLineX_7 (h : Hp) (T : Nat → Int → Int) (D : Nat → Int) (hI : Inv h) (a : Int32) (aZ : Int) (aE : a.toInt = aZ) (aK : h.1 91 0 = a) (z : Int32) (zZ : Int) (zE : z.toInt = zZ) (zK : h.1 92 7 = z) (d : Int32) (dZ : Int) (dE : d.toInt = dZ) (dK : h.1 75 4 = d) (hy0 : RC h T D) (hy1 : 1 ≤ aZ ∧ aZ ≤ 99) : Ct y_Reader_tellLine b_Reader_tellLine 5 none 1 20 [.ref 88, .int 7] h (q_Reader_tellLineX_7 h T D a aZ z zZ d dZ) := by
  refine ct_ow R_Reader [some (.ref 88), some (.int 7), none, none, none] rfl (by decide) rfl (Nat.le_of_ble_eq_true rfl) ?_
  have f0 : fr S_Reader_tellLineX_7 h h := fr_rf
  have g1 : 0 ≤ dZ ∧ dZ ≤ 8 := inv_at hI dE dK.symm rfl
  refine V_aload_n 0 d_Reader_tellLine_0 rfl rfl ?_
  refine V_getR fa_Reader_21 sk_88 rfl d_Reader_tellLine_1 ?_
  refine V_getR fa_Reader_71 sk_68 rfl d_Reader_tellLine_4 ?_
  refine V_astore_n 2 [some (.ref 88), some (.int 7), some (.ref 69), none, none] d_Reader_tellLine_7 rfl (by decide) rfl rfl ?_
  refine V_aload_n 0 d_Reader_tellLine_8 rfl rfl ?_
  refine V_getR fa_Reader_25 sk_88 rfl d_Reader_tellLine_9 ?_
  refine V_iconst 0 d_Reader_tellLine_12 (by decide) ?_
  refine N_ialdK sk_91 tc_0 (by omega) d_Reader_tellLine_13 aK ?_
  refine V_istore_n 3 [some (.ref 88), some (.int 7), some (.ref 69), some (.int a), none] d_Reader_tellLine_14 rfl (by decide) rfl rfl ?_
  refine V_aload_n 0 d_Reader_tellLine_15 rfl rfl ?_
  refine V_getR fa_Reader_25 sk_88 rfl d_Reader_tellLine_16 ?_
  refine V_iconst 1 d_Reader_tellLine_19 (by decide) ?_
  refine N_iald sk_91 tc_1 (by omega) d_Reader_tellLine_20 (fun z3 z3Z z3E z3e => ?_)
  refine V_istore 4 [some (.ref 88), some (.int 7), some (.ref 69), some (.int a), some (.int z3)] d_Reader_tellLine_21 (by decide) rfl rfl ?_
  refine V_aload_n 0 d_Reader_tellLine_23 rfl rfl ?_
  refine V_getR fa_Reader_29 sk_88 rfl d_Reader_tellLine_24 ?_
  refine V_iload_n 1 d_Reader_tellLine_27 rfl rfl ?_
  refine V_dup2 d_Reader_tellLine_28 rfl rfl ?_
  refine N_ialdK sk_92 tc_7 (by omega) d_Reader_tellLine_29 zK ?_
  refine V_iload_n 1 d_Reader_tellLine_30 rfl rfl ?_
  refine N_callSI [.int 7] [.int z, .int 7, .ref 92] cs_Reader_131 d_Reader_tellLine_31 rfl (Nat.le_of_ble_eq_true rfl) (by decide) (by decide) (c_Reader_isOfOneX_7 h) (fun z5 h6 z5Z z5E p7 => ?_)
  obtain ⟨eh6, p7⟩ := p7
  subst eh6
  refine V_if_eq 43 z5E d_Reader_tellLine_34 (by decide) (fun c8 => ?_) (fun c8 => ?_)
  ·
    refine V_iconst 1 d_Reader_tellLine_43 (by decide) ?_
    refine N_ior d_Reader_tellLine_44 (fun z9 z9Z z9E z9e => ?_)
    refine N_iast sk_92 tc_7 (by omega) d_Reader_tellLine_45 (fun h10 eh10 => ?_)
    have hI11 : Inv h10 := inv_full hI eh10 rfl
    have f12 : fr S_Reader_tellLineX_7 h h10 := fr_put f0 eh10 rfl
    refine V_iload_n 1 d_Reader_tellLine_46 rfl rfl ?_
    refine V_tabIn 178 tc_7 d_Reader_tellLine_47 (by decide) (by decide) rfl (by decide) ?_
    refine V_aload_n 2 d_Reader_tellLine_178 rfl rfl ?_
    refine V_iload_n 3 d_Reader_tellLine_179 rfl rfl ?_
    refine N_putI fp_Reader_158 sk_69 rfl d_Reader_tellLine_180 (fun h13 eh13 => ?_)
    have hI14 : Inv h13 := inv_full hI11 eh13 rfl
    have f15 : fr S_Reader_tellLineX_7 h h13 := fr_put f12 eh13 rfl
    refine V_goto 227 d_Reader_tellLine_183 (by decide) ?_
    exact V_vret rfl d_Reader_tellLine_227 ⟨rfl, ⟨hI14, f15, ⟨RCt_ne (RCt_once hy0.1 (by decide) eh10 (by assumption) rfl) eh13 (by decide), RCd_put (RCd_ne hy0.2.1 eh10 (by decide)) eh13 (show dof 69 3 = some 147 from rfl) aE (by omega), RCb_put (RCb_ne hy0.2.2 eh10 ⟨by decide, by decide, by decide⟩) eh13 ⟨by decide, by decide, by decide⟩ (by omega) (fun j hj => by have q0 := RCd_debt hy0 dK dE; omega)⟩⟩⟩
  ·
    exact absurd c8 (by omega)
def S_Reader_tellLineX_8 : List (Nat × Option Nat) := [(92, none), (69, none), (70, none), (71, none), (72, none), (73, none), (74, none), (76, none), (68, some 3), (68, some 4), (75, some 4), (77, none), (78, none), (79, none)]
abbrev q_Reader_tellLineX_8 (h : Hp) (T : Nat → Int → Int) (D : Nat → Int) (a : Int32) (aZ : Int) (z : Int32) (zZ : Int) (d : Int32) (dZ : Int) (n : Int32) (nZ : Int) : Option Value → Hp → Prop := pVd (fun h' => Inv h' ∧ fr S_Reader_tellLineX_8 h h' ∧ RC h' (x_upT T 8 0) (x_up (x_up D 84 nZ) 85 aZ))
set_option maxRecDepth 100000 in
theorem c_Reader_tellLineX_8 (h : Hp) (T : Nat → Int → Int) (D : Nat → Int) (hI : Inv h) (a : Int32) (aZ : Int) (aE : a.toInt = aZ) (aK : h.1 91 0 = a) (z : Int32) (zZ : Int) (zE : z.toInt = zZ) (zK : h.1 92 8 = z) (d : Int32) (dZ : Int) (dE : d.toInt = dZ) (dK : h.1 75 4 = d) (n : Int32) (nZ : Int) (nE : n.toInt = nZ) (nK : h.1 88 4 = n) (hy0 : RC h T D) (hy1 : 1 ≤ aZ ∧ aZ ≤ 9) : Ct y_Reader_tellLine b_Reader_tellLine 5 none 1 20 [.ref 88, .int 8] h (q_Reader_tellLineX_8 h T D a aZ z zZ d dZ n nZ) := by
  refine ct_ow R_Reader [some (.ref 88), some (.int 8), none, none, none] rfl (by decide) rfl (Nat.le_of_ble_eq_true rfl) ?_
  have f0 : fr S_Reader_tellLineX_8 h h := fr_rf
  have g1 : 0 ≤ dZ ∧ dZ ≤ 8 := inv_at hI dE dK.symm rfl
  refine V_aload_n 0 d_Reader_tellLine_0 rfl rfl ?_
  refine V_getR fa_Reader_21 sk_88 rfl d_Reader_tellLine_1 ?_
  refine V_getR fa_Reader_71 sk_68 rfl d_Reader_tellLine_4 ?_
  refine V_astore_n 2 [some (.ref 88), some (.int 8), some (.ref 69), none, none] d_Reader_tellLine_7 rfl (by decide) rfl rfl ?_
  refine V_aload_n 0 d_Reader_tellLine_8 rfl rfl ?_
  refine V_getR fa_Reader_25 sk_88 rfl d_Reader_tellLine_9 ?_
  refine V_iconst 0 d_Reader_tellLine_12 (by decide) ?_
  refine N_ialdK sk_91 tc_0 (by omega) d_Reader_tellLine_13 aK ?_
  refine V_istore_n 3 [some (.ref 88), some (.int 8), some (.ref 69), some (.int a), none] d_Reader_tellLine_14 rfl (by decide) rfl rfl ?_
  refine V_aload_n 0 d_Reader_tellLine_15 rfl rfl ?_
  refine V_getR fa_Reader_25 sk_88 rfl d_Reader_tellLine_16 ?_
  refine V_iconst 1 d_Reader_tellLine_19 (by decide) ?_
  refine N_iald sk_91 tc_1 (by omega) d_Reader_tellLine_20 (fun z3 z3Z z3E z3e => ?_)
  refine V_istore 4 [some (.ref 88), some (.int 8), some (.ref 69), some (.int a), some (.int z3)] d_Reader_tellLine_21 (by decide) rfl rfl ?_
  refine V_aload_n 0 d_Reader_tellLine_23 rfl rfl ?_
  refine V_getR fa_Reader_29 sk_88 rfl d_Reader_tellLine_24 ?_
  refine V_iload_n 1 d_Reader_tellLine_27 rfl rfl ?_
  refine V_dup2 d_Reader_tellLine_28 rfl rfl ?_
  refine N_ialdK sk_92 tc_8 (by omega) d_Reader_tellLine_29 zK ?_
  refine V_iload_n 1 d_Reader_tellLine_30 rfl rfl ?_
  refine N_callSI [.int 8] [.int z, .int 8, .ref 92] cs_Reader_131 d_Reader_tellLine_31 rfl (Nat.le_of_ble_eq_true rfl) (by decide) (by decide) (c_Reader_isOfOneX_8 h) (fun z5 h6 z5Z z5E p7 => ?_)
  obtain ⟨eh6, p7⟩ := p7
  subst eh6
  refine V_if_eq 43 z5E d_Reader_tellLine_34 (by decide) (fun c8 => ?_) (fun c8 => ?_)
  ·
    refine V_iconst 1 d_Reader_tellLine_43 (by decide) ?_
    refine N_ior d_Reader_tellLine_44 (fun z9 z9Z z9E z9e => ?_)
    refine N_iast sk_92 tc_8 (by omega) d_Reader_tellLine_45 (fun h10 eh10 => ?_)
    have hI11 : Inv h10 := inv_full hI eh10 rfl
    have f12 : fr S_Reader_tellLineX_8 h h10 := fr_put f0 eh10 rfl
    refine V_iload_n 1 d_Reader_tellLine_46 rfl rfl ?_
    refine V_tabIn 186 tc_8 d_Reader_tellLine_47 (by decide) (by decide) rfl (by decide) ?_
    refine V_aload_n 0 d_Reader_tellLine_186 rfl rfl ?_
    refine V_getR fa_Reader_21 sk_88 rfl d_Reader_tellLine_187 ?_
    refine V_aload_n 0 d_Reader_tellLine_190 rfl rfl ?_
    refine N_getK fa_Reader_119 sk_88 rfl d_Reader_tellLine_191 (kn_ne eh10 nK (by decide)) ?_
    refine N_putI fp_Reader_161 sk_68 rfl d_Reader_tellLine_194 (fun h13 eh13 => ?_)
    have hI14 : Inv h13 := inv_full hI11 eh13 rfl
    have f15 : fr S_Reader_tellLineX_8 h h13 := fr_put f12 eh13 rfl
    refine V_aload_n 0 d_Reader_tellLine_197 rfl rfl ?_
    refine V_getR fa_Reader_21 sk_88 rfl d_Reader_tellLine_198 ?_
    refine V_iload_n 3 d_Reader_tellLine_201 rfl rfl ?_
    refine N_putI fp_Reader_164 sk_68 rfl d_Reader_tellLine_202 (fun h16 eh16 => ?_)
    have hI17 : Inv h16 := inv_full hI14 eh16 rfl
    have f18 : fr S_Reader_tellLineX_8 h h16 := fr_put f15 eh16 rfl
    refine V_goto 227 d_Reader_tellLine_205 (by decide) ?_
    exact V_vret rfl d_Reader_tellLine_227 ⟨rfl, ⟨hI17, f18, ⟨RCt_ne (RCt_ne (RCt_once hy0.1 (by decide) eh10 (by assumption) rfl) eh13 (by decide)) eh16 (by decide), RCd_put (RCd_put (RCd_ne hy0.2.1 eh10 (by decide)) eh13 (show dof 68 3 = some 84 from rfl) nE (by omega)) eh16 (show dof 68 4 = some 85 from rfl) aE (by omega), RCb_put (RCb_put (RCb_ne hy0.2.2 eh10 ⟨by decide, by decide, by decide⟩) eh13 ⟨by decide, by decide, by decide⟩ (by omega) (fun j hj => by have q0 := RCd_debt hy0 dK dE; omega)) eh16 ⟨by decide, by decide, by decide⟩ (by omega) (fun j hj => by have q0 := RCd_debt hy0 dK dE; have q1 := x_up86 (D := D) (k := 84) (v := nZ) (by decide); omega)⟩⟩⟩
  ·
    exact absurd c8 (by omega)
def S_Reader_tellLineX_9 : List (Nat × Option Nat) := [(92, none), (69, none), (70, none), (71, none), (72, none), (73, none), (74, none), (76, none), (68, some 3), (68, some 4), (75, some 4), (77, none), (78, none), (79, none)]
abbrev q_Reader_tellLineX_9 (h : Hp) (T : Nat → Int → Int) (D : Nat → Int) (a : Int32) (aZ : Int) (b : Int32) (bZ : Int) (c : Int32) (cZ : Int) (z : Int32) (zZ : Int) (d : Int32) (dZ : Int) : Option Value → Hp → Prop := pVd (fun h' => Inv h' ∧ fr S_Reader_tellLineX_9 h h' ∧ RC h' (x_upT T 9 0) (x_up (x_up (x_up (x_up D (87 + 3 * D 86) aZ) (88 + 3 * D 86) bZ) (89 + 3 * D 86) cZ) 86 (D 86 + 1)))
set_option maxRecDepth 100000 in
theorem c_Reader_tellLineX_9 (h : Hp) (T : Nat → Int → Int) (D : Nat → Int) (hI : Inv h) (a : Int32) (aZ : Int) (aE : a.toInt = aZ) (aK : h.1 91 0 = a) (b : Int32) (bZ : Int) (bE : b.toInt = bZ) (bK : h.1 91 1 = b) (c : Int32) (cZ : Int) (cE : c.toInt = cZ) (cK : h.1 91 2 = c) (z : Int32) (zZ : Int) (zE : z.toInt = zZ) (zK : h.1 92 9 = z) (d : Int32) (dZ : Int) (dE : d.toInt = dZ) (dK : h.1 75 4 = d) (hy0 : RC h T D) (hy1 : 0 ≤ aZ ∧ aZ ≤ 3) (hy2 : 0 ≤ bZ ∧ bZ ≤ 3) (hy3 : 1 ≤ cZ ∧ cZ ≤ 99) (hy4 : dZ < 8) : Ct y_Reader_tellLine b_Reader_tellLine 5 none 1 23 [.ref 88, .int 9] h (q_Reader_tellLineX_9 h T D a aZ b bZ c cZ z zZ d dZ) := by
  refine ct_ow R_Reader [some (.ref 88), some (.int 9), none, none, none] rfl (by decide) rfl (Nat.le_of_ble_eq_true rfl) ?_
  have f0 : fr S_Reader_tellLineX_9 h h := fr_rf
  have g1 : 0 ≤ dZ ∧ dZ ≤ 8 := inv_at hI dE dK.symm rfl
  refine V_aload_n 0 d_Reader_tellLine_0 rfl rfl ?_
  refine V_getR fa_Reader_21 sk_88 rfl d_Reader_tellLine_1 ?_
  refine V_getR fa_Reader_71 sk_68 rfl d_Reader_tellLine_4 ?_
  refine V_astore_n 2 [some (.ref 88), some (.int 9), some (.ref 69), none, none] d_Reader_tellLine_7 rfl (by decide) rfl rfl ?_
  refine V_aload_n 0 d_Reader_tellLine_8 rfl rfl ?_
  refine V_getR fa_Reader_25 sk_88 rfl d_Reader_tellLine_9 ?_
  refine V_iconst 0 d_Reader_tellLine_12 (by decide) ?_
  refine N_ialdK sk_91 tc_0 (by omega) d_Reader_tellLine_13 aK ?_
  refine V_istore_n 3 [some (.ref 88), some (.int 9), some (.ref 69), some (.int a), none] d_Reader_tellLine_14 rfl (by decide) rfl rfl ?_
  refine V_aload_n 0 d_Reader_tellLine_15 rfl rfl ?_
  refine V_getR fa_Reader_25 sk_88 rfl d_Reader_tellLine_16 ?_
  refine V_iconst 1 d_Reader_tellLine_19 (by decide) ?_
  refine N_ialdK sk_91 tc_1 (by omega) d_Reader_tellLine_20 bK ?_
  refine V_istore 4 [some (.ref 88), some (.int 9), some (.ref 69), some (.int a), some (.int b)] d_Reader_tellLine_21 (by decide) rfl rfl ?_
  refine V_aload_n 0 d_Reader_tellLine_23 rfl rfl ?_
  refine V_getR fa_Reader_29 sk_88 rfl d_Reader_tellLine_24 ?_
  refine V_iload_n 1 d_Reader_tellLine_27 rfl rfl ?_
  refine V_dup2 d_Reader_tellLine_28 rfl rfl ?_
  refine N_ialdK sk_92 tc_9 (by omega) d_Reader_tellLine_29 zK ?_
  refine V_iload_n 1 d_Reader_tellLine_30 rfl rfl ?_
  refine N_callSI [.int 9] [.int z, .int 9, .ref 92] cs_Reader_131 d_Reader_tellLine_31 rfl (Nat.le_of_ble_eq_true rfl) (by decide) (by decide) (c_Reader_isOfOneX_9 h) (fun z5 h6 z5Z z5E p7 => ?_)
  obtain ⟨eh6, p7⟩ := p7
  subst eh6
  refine V_if_eq 43 z5E d_Reader_tellLine_34 (by decide) (fun c8 => ?_) (fun c8 => ?_)
  ·
    refine V_iconst 1 d_Reader_tellLine_43 (by decide) ?_
    refine N_ior d_Reader_tellLine_44 (fun z9 z9Z z9E z9e => ?_)
    refine N_iast sk_92 tc_9 (by omega) d_Reader_tellLine_45 (fun h10 eh10 => ?_)
    have hI11 : Inv h10 := inv_full hI eh10 rfl
    have f12 : fr S_Reader_tellLineX_9 h h10 := fr_put f0 eh10 rfl
    refine V_iload_n 1 d_Reader_tellLine_46 rfl rfl ?_
    refine V_tabOut 208 tc_9 d_Reader_tellLine_47 (by decide) (by decide) ?_
    refine V_aload_n 0 d_Reader_tellLine_208 rfl rfl ?_
    refine V_getR fa_Reader_21 sk_88 rfl d_Reader_tellLine_209 ?_
    refine V_getR fa_Reader_94 sk_68 rfl d_Reader_tellLine_212 ?_
    refine V_iload_n 3 d_Reader_tellLine_215 rfl rfl ?_
    refine V_iload d_Reader_tellLine_216 rfl ?_
    refine V_aload_n 0 d_Reader_tellLine_218 rfl rfl ?_
    refine V_getR fa_Reader_25 sk_88 rfl d_Reader_tellLine_219 ?_
    refine V_iconst 2 d_Reader_tellLine_222 (by decide) ?_
    refine N_ialdK sk_91 tc_2 (by omega) d_Reader_tellLine_223 (kn_ne eh10 cK (by decide)) ?_
    refine N_callVV [.int a, .int b, .int c] [] cv_Reader_167 sk_75 rfl d_Reader_tellLine_224 rfl (Nat.le_of_ble_eq_true rfl) (by decide) (by decide) (c_Ledger_addDebtX_4 h10 hI11 a aZ aE b bZ bE c cZ cE d dZ dE (kn_ne eh10 dK (by decide)) (by omega)) (fun h15 p16 => ?_)
    obtain ⟨hI17, fh15, o19, o19Z, o19E, o19K, p16⟩ := p16
    have f18 : fr S_Reader_tellLineX_9 h h15 := fr_call f12 fh15 rfl
    have g20 : 0 ≤ o19Z ∧ o19Z ≤ 8 := inv_at hI17 o19E o19K.symm rfl
    have qD := p16
    exact V_vret rfl d_Reader_tellLine_227 ⟨rfl, ⟨hI17, f18, (RC_owe ⟨RCt_nine hy0.1 eh10, RCd_ne hy0.2.1 eh10 (by decide), RCb_ne hy0.2.2 eh10 ⟨by decide, by decide, by decide⟩⟩ (RCd_debt hy0 dK dE) ⟨by omega, by omega⟩ aE bE cE o19E qD.2 qD.1)⟩⟩
  ·
    exact absurd c8 (by omega)
end
