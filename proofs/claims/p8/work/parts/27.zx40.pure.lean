/-- a tape at a place of the heap: its bytes are b -/
def TP (h : Hp) (k : Nat) (s : Int) (b : Int → Int) : Prop := ∀ j : Int, 0 ≤ j → (j < s ∧ (h.1 k j.toNat).toInt = b j ∧ 0 ≤ b j ∧ b j ≤ 127 ∨ s ≤ j ∧ b j = -1)
theorem TP_fr {S : List (Nat × Option Nat)} {h h' : Hp} {k : Nat} {s : Int} {b : Int → Int} (f : fr S h h') (hk : ∀ i : Nat, inS S k i = false) (t : TP h k s b) : TP h' k s b := fun j hj => by
  have := t j hj
  rw [f.1 k j.toNat (hk _)]
  exact this
theorem TP_rd {h : Hp} {k : Nat} {s : Int} {b : Int → Int} (t : TP h k s b) {j : Int} (hj : 0 ≤ j ∧ j < s) {y : Int32} {Y : Int} (p : y.toInt = Y) (e : y = h.1 k j.toNat) : Y = b j := by
  rcases t j hj.1 with q | q
  · rw [← p, e]; exact q.2.1
  · omega
theorem TP_b {h : Hp} {k : Nat} {s : Int} {b : Int → Int} (t : TP h k s b) (j : Int) (hj : 0 ≤ j) : j < s ∧ 0 ≤ b j ∧ b j ≤ 127 ∨ s ≤ j ∧ b j = -1 := by
  rcases t j hj with q | q
  · exact Or.inl ⟨q.1, q.2.2⟩
  · exact Or.inr q
def blB (x : Int) : Bool := decide (x = 32)
def leB (x : Int) : Bool := decide (97 ≤ x ∧ x ≤ 122)
def fiB (x : Int) : Bool := decide (48 ≤ x ∧ x ≤ 57)
theorem blB_y {x : Int} (h : x = 32) : blB x = true := decide_eq_true h
theorem blB_n {x : Int} (h : x ≠ 32) : blB x = false := decide_eq_false h
theorem leB_y {x : Int} (h : 97 ≤ x ∧ x ≤ 122) : leB x = true := decide_eq_true h
theorem leB_n {x : Int} (h : ¬ (97 ≤ x ∧ x ≤ 122)) : leB x = false := decide_eq_false h
theorem fiB_y {x : Int} (h : 48 ≤ x ∧ x ≤ 57) : fiB x = true := decide_eq_true h
theorem fiB_n {x : Int} (h : ¬ (48 ≤ x ∧ x ≤ 57)) : fiB x = false := decide_eq_false h
/-- the first place from p on whose byte is not so -/
def rnF (P : Int → Bool) (b : Int → Int) : Nat → Int → Int
  | 0, p => p
  | k + 1, p => if P (b p) = true then rnF P b k (p + 1) else p
def rn (P : Int → Bool) (b : Int → Int) (p : Int) : Int := rnF P b (161 - p).toNat p
theorem rn_stop {P : Int → Bool} {b : Int → Int} {p : Int} (h : P (b p) = false) : rn P b p = p := by
  unfold rn
  generalize (161 - p).toNat = k
  cases k with
  | zero => rfl
  | succ k => show (if P (b p) = true then _ else p) = p; rw [h]; rfl
theorem rn_step {P : Int → Bool} {b : Int → Int} {p : Int} (h : P (b p) = true) (hp : p ≤ 160) : rn P b p = rn P b (p + 1) := by
  unfold rn
  have e : (161 - p).toNat = (161 - (p + 1)).toNat + 1 := by (first | decide +kernel | omega)
  rw [e]
  show (if P (b p) = true then _ else p) = _
  rw [if_pos h]
/-- the TOKEN behind p: where it begins, its kind, where it ends, its number -/
def x_fr (b : Int → Int) (p : Int) : Int := rn blB b p
def x_en (b : Int → Int) (p : Int) : Int := if leB (b (x_fr b p)) = true then rn leB b (x_fr b p) else if fiB (b (x_fr b p)) = true then rn fiB b (x_fr b p) else if b (x_fr b p) = 59 then x_fr b p + 1 else x_fr b p
def x_kd (b : Int → Int) (p : Int) : Int := if b (x_fr b p) < 0 then 0 else if leB (b (x_fr b p)) = true then 1 else if fiB (b (x_fr b p)) = true then (if x_en b p - x_fr b p ≤ 2 then 2 else 4) else if b (x_fr b p) = 59 then 3 else 4
def x_vl (b : Int → Int) (p : Int) : Int := if x_en b p - x_fr b p = 1 then b (x_fr b p) - 48 else 10 * (b (x_fr b p) - 48) + (b (x_fr b p + 1) - 48)
theorem tok_0 {b : Int → Int} {p f : Int} (hf : f = x_fr b p) (h : b f < 0) : x_kd b p = 0 ∧ x_en b p = f := by
  subst hf
  unfold x_kd x_en
  rw [if_pos h, leB_n (by (first | decide +kernel | omega)), fiB_n (by (first | decide +kernel | omega)), if_neg (by decide), if_neg (by decide), if_neg (by (first | decide +kernel | omega))]
  exact ⟨rfl, rfl⟩
theorem tok_1 {b : Int → Int} {p f u : Int} (hf : f = x_fr b p) (h : 97 ≤ b f ∧ b f ≤ 122) (hu : u = rn leB b f) : x_kd b p = 1 ∧ x_en b p = u := by
  subst hf
  unfold x_kd x_en
  rw [if_neg (by (first | decide +kernel | omega)), leB_y h, if_pos rfl, if_pos rfl, hu]
  exact ⟨rfl, rfl⟩
theorem tok_2 {b : Int → Int} {p f u : Int} (hf : f = x_fr b p) (h : 48 ≤ b f ∧ b f ≤ 57) (hu : u = rn fiB b f) : x_en b p = u ∧ (u - f ≤ 2 ∧ x_kd b p = 2 ∨ 2 < u - f ∧ x_kd b p = 4) := by
  subst hf
  have e : x_en b p = u := by
    unfold x_en
    rw [leB_n (by (first | decide +kernel | omega)), if_neg (by decide), fiB_y h, if_pos rfl, hu]
  refine ⟨e, ?_⟩
  unfold x_kd
  rw [if_neg (by (first | decide +kernel | omega)), leB_n (by (first | decide +kernel | omega)), if_neg (by decide), fiB_y h, if_pos rfl, e]
  by_cases q : u - x_fr b p ≤ 2
  · rw [if_pos q]; exact Or.inl ⟨q, rfl⟩
  · rw [if_neg q]; exact Or.inr ⟨by (first | decide +kernel | omega), rfl⟩
theorem tok_3 {b : Int → Int} {p f : Int} (hf : f = x_fr b p) (h : b f = 59) : x_kd b p = 3 ∧ x_en b p = f + 1 := by
  subst hf
  have h1 : leB (b (x_fr b p)) = false := leB_n (by (first | decide +kernel | omega))
  have h2 : fiB (b (x_fr b p)) = false := fiB_n (by (first | decide +kernel | omega))
  unfold x_kd x_en
  rw [h1, h2, h]
  exact ⟨rfl, rfl⟩
theorem tok_4 {b : Int → Int} {p f : Int} (hf : f = x_fr b p) (h : 0 ≤ b f ∧ ¬ (97 ≤ b f ∧ b f ≤ 122) ∧ ¬ (48 ≤ b f ∧ b f ≤ 57) ∧ b f ≠ 59) : x_kd b p = 4 := by
  subst hf
  unfold x_kd
  rw [if_neg (by (first | decide +kernel | omega)), leB_n h.2.1, fiB_n h.2.2.1, if_neg (by decide), if_neg (by decide), if_neg h.2.2.2]
theorem tok_v {b : Int → Int} {p f u v : Int} (hf : f = x_fr b p) (hu : u = x_en b p) (h : u - f = 1 ∧ v = b f - 48 ∨ u - f = 2 ∧ v = 10 * (b f - 48) + (b (f + 1) - 48)) : v = x_vl b p := by
  subst hf hu
  unfold x_vl
  rcases h with h | h
  · rw [if_pos h.1]; exact h.2
  · rw [if_neg (by (first | decide +kernel | omega))]; exact h.2
def x_nm0 (b : Int → Int) (f e : Int) : Int := if e - f = 6 ∧ b (f + 0) = 99 ∧ b (f + 1) = 111 ∧ b (f + 2) = 117 ∧ b (f + 3) = 110 ∧ b (f + 4) = 116 ∧ b (f + 5) = 121 then 1 else 0
theorem x_nmy0 {b : Int → Int} {f e : Int} (h : e - f = 6 ∧ b (f + 0) = 99 ∧ b (f + 1) = 111 ∧ b (f + 2) = 117 ∧ b (f + 3) = 110 ∧ b (f + 4) = 116 ∧ b (f + 5) = 121) : x_nm0 b f e = 1 := if_pos h
theorem x_nmn0 {b : Int → Int} {f e : Int} (h : ¬ (e - f = 6 ∧ b (f + 0) = 99 ∧ b (f + 1) = 111 ∧ b (f + 2) = 117 ∧ b (f + 3) = 110 ∧ b (f + 4) = 116 ∧ b (f + 5) = 121)) : x_nm0 b f e = 0 := if_neg h
theorem x_nmb0 (b : Int → Int) (f e : Int) : x_nm0 b f e = 0 ∨ x_nm0 b f e = 1 := by
  unfold x_nm0
  split
  · exact Or.inr rfl
  · exact Or.inl rfl
theorem x_nmc0 {b : Int → Int} {f e : Int} (h : x_nm0 b f e = 1) : e - f = 6 ∧ b (f + 0) = 99 ∧ b (f + 1) = 111 ∧ b (f + 2) = 117 ∧ b (f + 3) = 110 ∧ b (f + 4) = 116 ∧ b (f + 5) = 121 := by
  unfold x_nm0 at h
  split at h
  · next q => exact q
  · omega
def x_nm1 (b : Int → Int) (f e : Int) : Int := if e - f = 3 ∧ b (f + 0) = 119 ∧ b (f + 1) = 101 ∧ b (f + 2) = 116 then 1 else 0
theorem x_nmy1 {b : Int → Int} {f e : Int} (h : e - f = 3 ∧ b (f + 0) = 119 ∧ b (f + 1) = 101 ∧ b (f + 2) = 116) : x_nm1 b f e = 1 := if_pos h
theorem x_nmn1 {b : Int → Int} {f e : Int} (h : ¬ (e - f = 3 ∧ b (f + 0) = 119 ∧ b (f + 1) = 101 ∧ b (f + 2) = 116)) : x_nm1 b f e = 0 := if_neg h
theorem x_nmb1 (b : Int → Int) (f e : Int) : x_nm1 b f e = 0 ∨ x_nm1 b f e = 1 := by
  unfold x_nm1
  split
  · exact Or.inr rfl
  · exact Or.inl rfl
theorem x_nmc1 {b : Int → Int} {f e : Int} (h : x_nm1 b f e = 1) : e - f = 3 ∧ b (f + 0) = 119 ∧ b (f + 1) = 101 ∧ b (f + 2) = 116 := by
  unfold x_nm1 at h
  split at h
  · next q => exact q
  · omega
def x_nm2 (b : Int → Int) (f e : Int) : Int := if e - f = 4 ∧ b (f + 0) = 105 ∧ b (f + 1) = 114 ∧ b (f + 2) = 111 ∧ b (f + 3) = 110 then 1 else 0
theorem x_nmy2 {b : Int → Int} {f e : Int} (h : e - f = 4 ∧ b (f + 0) = 105 ∧ b (f + 1) = 114 ∧ b (f + 2) = 111 ∧ b (f + 3) = 110) : x_nm2 b f e = 1 := if_pos h
theorem x_nmn2 {b : Int → Int} {f e : Int} (h : ¬ (e - f = 4 ∧ b (f + 0) = 105 ∧ b (f + 1) = 114 ∧ b (f + 2) = 111 ∧ b (f + 3) = 110)) : x_nm2 b f e = 0 := if_neg h
theorem x_nmb2 (b : Int → Int) (f e : Int) : x_nm2 b f e = 0 ∨ x_nm2 b f e = 1 := by
  unfold x_nm2
  split
  · exact Or.inr rfl
  · exact Or.inl rfl
theorem x_nmc2 {b : Int → Int} {f e : Int} (h : x_nm2 b f e = 1) : e - f = 4 ∧ b (f + 0) = 105 ∧ b (f + 1) = 114 ∧ b (f + 2) = 111 ∧ b (f + 3) = 110 := by
  unfold x_nm2 at h
  split at h
  · next q => exact q
  · omega
def x_nm3 (b : Int → Int) (f e : Int) : Int := if e - f = 4 ∧ b (f + 0) = 111 ∧ b (f + 1) = 100 ∧ b (f + 2) = 100 ∧ b (f + 3) = 115 then 1 else 0
theorem x_nmy3 {b : Int → Int} {f e : Int} (h : e - f = 4 ∧ b (f + 0) = 111 ∧ b (f + 1) = 100 ∧ b (f + 2) = 100 ∧ b (f + 3) = 115) : x_nm3 b f e = 1 := if_pos h
theorem x_nmn3 {b : Int → Int} {f e : Int} (h : ¬ (e - f = 4 ∧ b (f + 0) = 111 ∧ b (f + 1) = 100 ∧ b (f + 2) = 100 ∧ b (f + 3) = 115)) : x_nm3 b f e = 0 := if_neg h
theorem x_nmb3 (b : Int → Int) (f e : Int) : x_nm3 b f e = 0 ∨ x_nm3 b f e = 1 := by
  unfold x_nm3
  split
  · exact Or.inr rfl
  · exact Or.inl rfl
theorem x_nmc3 {b : Int → Int} {f e : Int} (h : x_nm3 b f e = 1) : e - f = 4 ∧ b (f + 0) = 111 ∧ b (f + 1) = 100 ∧ b (f + 2) = 100 ∧ b (f + 3) = 115 := by
  unfold x_nm3 at h
  split at h
  · next q => exact q
  · omega
def x_nm4 (b : Int → Int) (f e : Int) : Int := if e - f = 5 ∧ b (f + 0) = 99 ∧ b (f + 1) = 108 ∧ b (f + 2) = 97 ∧ b (f + 3) = 105 ∧ b (f + 4) = 109 then 1 else 0
theorem x_nmy4 {b : Int → Int} {f e : Int} (h : e - f = 5 ∧ b (f + 0) = 99 ∧ b (f + 1) = 108 ∧ b (f + 2) = 97 ∧ b (f + 3) = 105 ∧ b (f + 4) = 109) : x_nm4 b f e = 1 := if_pos h
theorem x_nmn4 {b : Int → Int} {f e : Int} (h : ¬ (e - f = 5 ∧ b (f + 0) = 99 ∧ b (f + 1) = 108 ∧ b (f + 2) = 97 ∧ b (f + 3) = 105 ∧ b (f + 4) = 109)) : x_nm4 b f e = 0 := if_neg h
theorem x_nmb4 (b : Int → Int) (f e : Int) : x_nm4 b f e = 0 ∨ x_nm4 b f e = 1 := by
  unfold x_nm4
  split
  · exact Or.inr rfl
  · exact Or.inl rfl
theorem x_nmc4 {b : Int → Int} {f e : Int} (h : x_nm4 b f e = 1) : e - f = 5 ∧ b (f + 0) = 99 ∧ b (f + 1) = 108 ∧ b (f + 2) = 97 ∧ b (f + 3) = 105 ∧ b (f + 4) = 109 := by
  unfold x_nm4 at h
  split at h
  · next q => exact q
  · omega
def x_nm5 (b : Int → Int) (f e : Int) : Int := if e - f = 5 ∧ b (f + 0) = 112 ∧ b (f + 1) = 117 ∧ b (f + 2) = 114 ∧ b (f + 3) = 115 ∧ b (f + 4) = 101 then 1 else 0
theorem x_nmy5 {b : Int → Int} {f e : Int} (h : e - f = 5 ∧ b (f + 0) = 112 ∧ b (f + 1) = 117 ∧ b (f + 2) = 114 ∧ b (f + 3) = 115 ∧ b (f + 4) = 101) : x_nm5 b f e = 1 := if_pos h
theorem x_nmn5 {b : Int → Int} {f e : Int} (h : ¬ (e - f = 5 ∧ b (f + 0) = 112 ∧ b (f + 1) = 117 ∧ b (f + 2) = 114 ∧ b (f + 3) = 115 ∧ b (f + 4) = 101)) : x_nm5 b f e = 0 := if_neg h
theorem x_nmb5 (b : Int → Int) (f e : Int) : x_nm5 b f e = 0 ∨ x_nm5 b f e = 1 := by
  unfold x_nm5
  split
  · exact Or.inr rfl
  · exact Or.inl rfl
theorem x_nmc5 {b : Int → Int} {f e : Int} (h : x_nm5 b f e = 1) : e - f = 5 ∧ b (f + 0) = 112 ∧ b (f + 1) = 117 ∧ b (f + 2) = 114 ∧ b (f + 3) = 115 ∧ b (f + 4) = 101 := by
  unfold x_nm5 at h
  split at h
  · next q => exact q
  · omega
def x_nm6 (b : Int → Int) (f e : Int) : Int := if e - f = 4 ∧ b (f + 0) = 99 ∧ b (f + 1) = 111 ∧ b (f + 2) = 115 ∧ b (f + 3) = 116 then 1 else 0
theorem x_nmy6 {b : Int → Int} {f e : Int} (h : e - f = 4 ∧ b (f + 0) = 99 ∧ b (f + 1) = 111 ∧ b (f + 2) = 115 ∧ b (f + 3) = 116) : x_nm6 b f e = 1 := if_pos h
theorem x_nmn6 {b : Int → Int} {f e : Int} (h : ¬ (e - f = 4 ∧ b (f + 0) = 99 ∧ b (f + 1) = 111 ∧ b (f + 2) = 115 ∧ b (f + 3) = 116)) : x_nm6 b f e = 0 := if_neg h
theorem x_nmb6 (b : Int → Int) (f e : Int) : x_nm6 b f e = 0 ∨ x_nm6 b f e = 1 := by
  unfold x_nm6
  split
  · exact Or.inr rfl
  · exact Or.inl rfl
theorem x_nmc6 {b : Int → Int} {f e : Int} (h : x_nm6 b f e = 1) : e - f = 4 ∧ b (f + 0) = 99 ∧ b (f + 1) = 111 ∧ b (f + 2) = 115 ∧ b (f + 3) = 116 := by
  unfold x_nm6 at h
  split at h
  · next q => exact q
  · omega
def x_nm7 (b : Int → Int) (f e : Int) : Int := if e - f = 5 ∧ b (f + 0) = 112 ∧ b (f + 1) = 114 ∧ b (f + 2) = 105 ∧ b (f + 3) = 99 ∧ b (f + 4) = 101 then 1 else 0
theorem x_nmy7 {b : Int → Int} {f e : Int} (h : e - f = 5 ∧ b (f + 0) = 112 ∧ b (f + 1) = 114 ∧ b (f + 2) = 105 ∧ b (f + 3) = 99 ∧ b (f + 4) = 101) : x_nm7 b f e = 1 := if_pos h
theorem x_nmn7 {b : Int → Int} {f e : Int} (h : ¬ (e - f = 5 ∧ b (f + 0) = 112 ∧ b (f + 1) = 114 ∧ b (f + 2) = 105 ∧ b (f + 3) = 99 ∧ b (f + 4) = 101)) : x_nm7 b f e = 0 := if_neg h
theorem x_nmb7 (b : Int → Int) (f e : Int) : x_nm7 b f e = 0 ∨ x_nm7 b f e = 1 := by
  unfold x_nm7
  split
  · exact Or.inr rfl
  · exact Or.inl rfl
theorem x_nmc7 {b : Int → Int} {f e : Int} (h : x_nm7 b f e = 1) : e - f = 5 ∧ b (f + 0) = 112 ∧ b (f + 1) = 114 ∧ b (f + 2) = 105 ∧ b (f + 3) = 99 ∧ b (f + 4) = 101 := by
  unfold x_nm7 at h
  split at h
  · next q => exact q
  · omega
def x_nm8 (b : Int → Int) (f e : Int) : Int := if e - f = 3 ∧ b (f + 0) = 114 ∧ b (f + 1) = 111 ∧ b (f + 2) = 100 then 1 else 0
theorem x_nmy8 {b : Int → Int} {f e : Int} (h : e - f = 3 ∧ b (f + 0) = 114 ∧ b (f + 1) = 111 ∧ b (f + 2) = 100) : x_nm8 b f e = 1 := if_pos h
theorem x_nmn8 {b : Int → Int} {f e : Int} (h : ¬ (e - f = 3 ∧ b (f + 0) = 114 ∧ b (f + 1) = 111 ∧ b (f + 2) = 100)) : x_nm8 b f e = 0 := if_neg h
theorem x_nmb8 (b : Int → Int) (f e : Int) : x_nm8 b f e = 0 ∨ x_nm8 b f e = 1 := by
  unfold x_nm8
  split
  · exact Or.inr rfl
  · exact Or.inl rfl
theorem x_nmc8 {b : Int → Int} {f e : Int} (h : x_nm8 b f e = 1) : e - f = 3 ∧ b (f + 0) = 114 ∧ b (f + 1) = 111 ∧ b (f + 2) = 100 := by
  unfold x_nm8 at h
  split at h
  · next q => exact q
  · omega
def x_nm9 (b : Int → Int) (f e : Int) : Int := if e - f = 3 ∧ b (f + 0) = 111 ∧ b (f + 1) = 119 ∧ b (f + 2) = 101 then 1 else 0
theorem x_nmy9 {b : Int → Int} {f e : Int} (h : e - f = 3 ∧ b (f + 0) = 111 ∧ b (f + 1) = 119 ∧ b (f + 2) = 101) : x_nm9 b f e = 1 := if_pos h
theorem x_nmn9 {b : Int → Int} {f e : Int} (h : ¬ (e - f = 3 ∧ b (f + 0) = 111 ∧ b (f + 1) = 119 ∧ b (f + 2) = 101)) : x_nm9 b f e = 0 := if_neg h
theorem x_nmb9 (b : Int → Int) (f e : Int) : x_nm9 b f e = 0 ∨ x_nm9 b f e = 1 := by
  unfold x_nm9
  split
  · exact Or.inr rfl
  · exact Or.inl rfl
theorem x_nmc9 {b : Int → Int} {f e : Int} (h : x_nm9 b f e = 1) : e - f = 3 ∧ b (f + 0) = 111 ∧ b (f + 1) = 119 ∧ b (f + 2) = 101 := by
  unfold x_nm9 at h
  split at h
  · next q => exact q
  · omega
def x_nm10 (b : Int → Int) (f e : Int) : Int := if e - f = 5 ∧ b (f + 0) = 119 ∧ b (f + 1) = 97 ∧ b (f + 2) = 116 ∧ b (f + 3) = 101 ∧ b (f + 4) = 114 then 1 else 0
theorem x_nmy10 {b : Int → Int} {f e : Int} (h : e - f = 5 ∧ b (f + 0) = 119 ∧ b (f + 1) = 97 ∧ b (f + 2) = 116 ∧ b (f + 3) = 101 ∧ b (f + 4) = 114) : x_nm10 b f e = 1 := if_pos h
theorem x_nmn10 {b : Int → Int} {f e : Int} (h : ¬ (e - f = 5 ∧ b (f + 0) = 119 ∧ b (f + 1) = 97 ∧ b (f + 2) = 116 ∧ b (f + 3) = 101 ∧ b (f + 4) = 114)) : x_nm10 b f e = 0 := if_neg h
theorem x_nmb10 (b : Int → Int) (f e : Int) : x_nm10 b f e = 0 ∨ x_nm10 b f e = 1 := by
  unfold x_nm10
  split
  · exact Or.inr rfl
  · exact Or.inl rfl
theorem x_nmc10 {b : Int → Int} {f e : Int} (h : x_nm10 b f e = 1) : e - f = 5 ∧ b (f + 0) = 119 ∧ b (f + 1) = 97 ∧ b (f + 2) = 116 ∧ b (f + 3) = 101 ∧ b (f + 4) = 114 := by
  unfold x_nm10 at h
  split at h
  · next q => exact q
  · omega
def x_nm11 (b : Int → Int) (f e : Int) : Int := if e - f = 5 ∧ b (f + 0) = 115 ∧ b (f + 1) = 116 ∧ b (f + 2) = 101 ∧ b (f + 3) = 112 ∧ b (f + 4) = 115 then 1 else 0
theorem x_nmy11 {b : Int → Int} {f e : Int} (h : e - f = 5 ∧ b (f + 0) = 115 ∧ b (f + 1) = 116 ∧ b (f + 2) = 101 ∧ b (f + 3) = 112 ∧ b (f + 4) = 115) : x_nm11 b f e = 1 := if_pos h
theorem x_nmn11 {b : Int → Int} {f e : Int} (h : ¬ (e - f = 5 ∧ b (f + 0) = 115 ∧ b (f + 1) = 116 ∧ b (f + 2) = 101 ∧ b (f + 3) = 112 ∧ b (f + 4) = 115)) : x_nm11 b f e = 0 := if_neg h
theorem x_nmb11 (b : Int → Int) (f e : Int) : x_nm11 b f e = 0 ∨ x_nm11 b f e = 1 := by
  unfold x_nm11
  split
  · exact Or.inr rfl
  · exact Or.inl rfl
theorem x_nmc11 {b : Int → Int} {f e : Int} (h : x_nm11 b f e = 1) : e - f = 5 ∧ b (f + 0) = 115 ∧ b (f + 1) = 116 ∧ b (f + 2) = 101 ∧ b (f + 3) = 112 ∧ b (f + 4) = 115 := by
  unfold x_nm11 at h
  split at h
  · next q => exact q
  · omega
def x_nm12 (b : Int → Int) (f e : Int) : Int := if e - f = 6 ∧ b (f + 0) = 119 ∧ b (f + 1) = 105 ∧ b (f + 2) = 115 ∧ b (f + 3) = 104 ∧ b (f + 4) = 101 ∧ b (f + 5) = 115 then 1 else 0
theorem x_nmy12 {b : Int → Int} {f e : Int} (h : e - f = 6 ∧ b (f + 0) = 119 ∧ b (f + 1) = 105 ∧ b (f + 2) = 115 ∧ b (f + 3) = 104 ∧ b (f + 4) = 101 ∧ b (f + 5) = 115) : x_nm12 b f e = 1 := if_pos h
theorem x_nmn12 {b : Int → Int} {f e : Int} (h : ¬ (e - f = 6 ∧ b (f + 0) = 119 ∧ b (f + 1) = 105 ∧ b (f + 2) = 115 ∧ b (f + 3) = 104 ∧ b (f + 4) = 101 ∧ b (f + 5) = 115)) : x_nm12 b f e = 0 := if_neg h
theorem x_nmb12 (b : Int → Int) (f e : Int) : x_nm12 b f e = 0 ∨ x_nm12 b f e = 1 := by
  unfold x_nm12
  split
  · exact Or.inr rfl
  · exact Or.inl rfl
theorem x_nmc12 {b : Int → Int} {f e : Int} (h : x_nm12 b f e = 1) : e - f = 6 ∧ b (f + 0) = 119 ∧ b (f + 1) = 105 ∧ b (f + 2) = 115 ∧ b (f + 3) = 104 ∧ b (f + 4) = 101 ∧ b (f + 5) = 115 := by
  unfold x_nm12 at h
  split at h
  · next q => exact q
  · omega
def x_nm13 (b : Int → Int) (f e : Int) : Int := if e - f = 4 ∧ b (f + 0) = 98 ∧ b (f + 1) = 111 ∧ b (f + 2) = 116 ∧ b (f + 3) = 104 then 1 else 0
theorem x_nmy13 {b : Int → Int} {f e : Int} (h : e - f = 4 ∧ b (f + 0) = 98 ∧ b (f + 1) = 111 ∧ b (f + 2) = 116 ∧ b (f + 3) = 104) : x_nm13 b f e = 1 := if_pos h
theorem x_nmn13 {b : Int → Int} {f e : Int} (h : ¬ (e - f = 4 ∧ b (f + 0) = 98 ∧ b (f + 1) = 111 ∧ b (f + 2) = 116 ∧ b (f + 3) = 104)) : x_nm13 b f e = 0 := if_neg h
theorem x_nmb13 (b : Int → Int) (f e : Int) : x_nm13 b f e = 0 ∨ x_nm13 b f e = 1 := by
  unfold x_nm13
  split
  · exact Or.inr rfl
  · exact Or.inl rfl
theorem x_nmc13 {b : Int → Int} {f e : Int} (h : x_nm13 b f e = 1) : e - f = 4 ∧ b (f + 0) = 98 ∧ b (f + 1) = 111 ∧ b (f + 2) = 116 ∧ b (f + 3) = 104 := by
  unfold x_nm13 at h
  split at h
  · next q => exact q
  · omega
def x_is (b : Int → Int) (f e n a c d : Int) : Int := if e - f = n ∧ b (f + 0) = a ∧ b (f + 1) = c ∧ b (f + 2) = d then 1 else 0
def x_ens (b : Int → Int) (f a c d : Int) : Int := if b (f + 3) = a ∧ (c = 0 ∨ b (f + 4) = c) ∧ (d = 0 ∨ b (f + 5) = d) then 1 else 0
theorem x_is1 {b : Int → Int} {f e n a c d : Int} (h : e - f = n ∧ b (f + 0) = a ∧ b (f + 1) = c ∧ b (f + 2) = d) : x_is b f e n a c d = 1 := if_pos h
theorem x_is0 {b : Int → Int} {f e n a c d : Int} (h : ¬ (e - f = n ∧ b (f + 0) = a ∧ b (f + 1) = c ∧ b (f + 2) = d)) : x_is b f e n a c d = 0 := if_neg h
theorem x_ens1 {b : Int → Int} {f a c d : Int} (h : b (f + 3) = a ∧ (c = 0 ∨ b (f + 4) = c) ∧ (d = 0 ∨ b (f + 5) = d)) : x_ens b f a c d = 1 := if_pos h
theorem x_ens0 {b : Int → Int} {f a c d : Int} (h : ¬ (b (f + 3) = a ∧ (c = 0 ∨ b (f + 4) = c) ∧ (d = 0 ∨ b (f + 5) = d))) : x_ens b f a c d = 0 := if_neg h
theorem x_nmr0 (b : Int → Int) (f e : Int) : x_is b f e 6 99 111 117 = 1 ∧ x_ens b f 110 116 121 = 1 ∧ x_nm0 b f e = 1 ∨ (x_is b f e 6 99 111 117 = 0 ∨ x_ens b f 110 116 121 = 0) ∧ x_nm0 b f e = 0 := by
  by_cases h : e - f = 6 ∧ b (f + 0) = 99 ∧ b (f + 1) = 111 ∧ b (f + 2) = 117 ∧ b (f + 3) = 110 ∧ b (f + 4) = 116 ∧ b (f + 5) = 121
  · left
    refine ⟨if_pos ⟨h.1, h.2.1, h.2.2.1, h.2.2.2.1⟩, if_pos ?_, if_pos h⟩
    refine ⟨by (first | decide +kernel | omega), ?_, ?_⟩ <;> omega
  · right
    refine ⟨?_, if_neg h⟩
    by_cases g : e - f = 6 ∧ b (f + 0) = 99 ∧ b (f + 1) = 111 ∧ b (f + 2) = 117
    · right
      refine if_neg (fun q => h ?_)
      obtain ⟨q1, q2, q3⟩ := q
      omega
    · exact Or.inl (if_neg g)
theorem x_nmr1 (b : Int → Int) (f e : Int) : x_nm1 b f e = x_is b f e 3 119 101 116 := rfl
theorem x_nmr2 (b : Int → Int) (f e : Int) : x_is b f e 4 105 114 111 = 1 ∧ x_ens b f 110 0 0 = 1 ∧ x_nm2 b f e = 1 ∨ (x_is b f e 4 105 114 111 = 0 ∨ x_ens b f 110 0 0 = 0) ∧ x_nm2 b f e = 0 := by
  by_cases h : e - f = 4 ∧ b (f + 0) = 105 ∧ b (f + 1) = 114 ∧ b (f + 2) = 111 ∧ b (f + 3) = 110
  · left
    refine ⟨if_pos ⟨h.1, h.2.1, h.2.2.1, h.2.2.2.1⟩, if_pos ?_, if_pos h⟩
    refine ⟨by (first | decide +kernel | omega), ?_, ?_⟩ <;> omega
  · right
    refine ⟨?_, if_neg h⟩
    by_cases g : e - f = 4 ∧ b (f + 0) = 105 ∧ b (f + 1) = 114 ∧ b (f + 2) = 111
    · right
      refine if_neg (fun q => h ?_)
      obtain ⟨q1, q2, q3⟩ := q
      omega
    · exact Or.inl (if_neg g)
theorem x_nmr3 (b : Int → Int) (f e : Int) : x_is b f e 4 111 100 100 = 1 ∧ x_ens b f 115 0 0 = 1 ∧ x_nm3 b f e = 1 ∨ (x_is b f e 4 111 100 100 = 0 ∨ x_ens b f 115 0 0 = 0) ∧ x_nm3 b f e = 0 := by
  by_cases h : e - f = 4 ∧ b (f + 0) = 111 ∧ b (f + 1) = 100 ∧ b (f + 2) = 100 ∧ b (f + 3) = 115
  · left
    refine ⟨if_pos ⟨h.1, h.2.1, h.2.2.1, h.2.2.2.1⟩, if_pos ?_, if_pos h⟩
    refine ⟨by (first | decide +kernel | omega), ?_, ?_⟩ <;> omega
  · right
    refine ⟨?_, if_neg h⟩
    by_cases g : e - f = 4 ∧ b (f + 0) = 111 ∧ b (f + 1) = 100 ∧ b (f + 2) = 100
    · right
      refine if_neg (fun q => h ?_)
      obtain ⟨q1, q2, q3⟩ := q
      omega
    · exact Or.inl (if_neg g)
theorem x_nmr4 (b : Int → Int) (f e : Int) : x_is b f e 5 99 108 97 = 1 ∧ x_ens b f 105 109 0 = 1 ∧ x_nm4 b f e = 1 ∨ (x_is b f e 5 99 108 97 = 0 ∨ x_ens b f 105 109 0 = 0) ∧ x_nm4 b f e = 0 := by
  by_cases h : e - f = 5 ∧ b (f + 0) = 99 ∧ b (f + 1) = 108 ∧ b (f + 2) = 97 ∧ b (f + 3) = 105 ∧ b (f + 4) = 109
  · left
    refine ⟨if_pos ⟨h.1, h.2.1, h.2.2.1, h.2.2.2.1⟩, if_pos ?_, if_pos h⟩
    refine ⟨by (first | decide +kernel | omega), ?_, ?_⟩ <;> omega
  · right
    refine ⟨?_, if_neg h⟩
    by_cases g : e - f = 5 ∧ b (f + 0) = 99 ∧ b (f + 1) = 108 ∧ b (f + 2) = 97
    · right
      refine if_neg (fun q => h ?_)
      obtain ⟨q1, q2, q3⟩ := q
      omega
    · exact Or.inl (if_neg g)
theorem x_nmr5 (b : Int → Int) (f e : Int) : x_is b f e 5 112 117 114 = 1 ∧ x_ens b f 115 101 0 = 1 ∧ x_nm5 b f e = 1 ∨ (x_is b f e 5 112 117 114 = 0 ∨ x_ens b f 115 101 0 = 0) ∧ x_nm5 b f e = 0 := by
  by_cases h : e - f = 5 ∧ b (f + 0) = 112 ∧ b (f + 1) = 117 ∧ b (f + 2) = 114 ∧ b (f + 3) = 115 ∧ b (f + 4) = 101
  · left
    refine ⟨if_pos ⟨h.1, h.2.1, h.2.2.1, h.2.2.2.1⟩, if_pos ?_, if_pos h⟩
    refine ⟨by (first | decide +kernel | omega), ?_, ?_⟩ <;> omega
  · right
    refine ⟨?_, if_neg h⟩
    by_cases g : e - f = 5 ∧ b (f + 0) = 112 ∧ b (f + 1) = 117 ∧ b (f + 2) = 114
    · right
      refine if_neg (fun q => h ?_)
      obtain ⟨q1, q2, q3⟩ := q
      omega
    · exact Or.inl (if_neg g)
theorem x_nmr6 (b : Int → Int) (f e : Int) : x_is b f e 4 99 111 115 = 1 ∧ x_ens b f 116 0 0 = 1 ∧ x_nm6 b f e = 1 ∨ (x_is b f e 4 99 111 115 = 0 ∨ x_ens b f 116 0 0 = 0) ∧ x_nm6 b f e = 0 := by
  by_cases h : e - f = 4 ∧ b (f + 0) = 99 ∧ b (f + 1) = 111 ∧ b (f + 2) = 115 ∧ b (f + 3) = 116
  · left
    refine ⟨if_pos ⟨h.1, h.2.1, h.2.2.1, h.2.2.2.1⟩, if_pos ?_, if_pos h⟩
    refine ⟨by (first | decide +kernel | omega), ?_, ?_⟩ <;> omega
  · right
    refine ⟨?_, if_neg h⟩
    by_cases g : e - f = 4 ∧ b (f + 0) = 99 ∧ b (f + 1) = 111 ∧ b (f + 2) = 115
    · right
      refine if_neg (fun q => h ?_)
      obtain ⟨q1, q2, q3⟩ := q
      omega
    · exact Or.inl (if_neg g)
theorem x_nmr7 (b : Int → Int) (f e : Int) : x_is b f e 5 112 114 105 = 1 ∧ x_ens b f 99 101 0 = 1 ∧ x_nm7 b f e = 1 ∨ (x_is b f e 5 112 114 105 = 0 ∨ x_ens b f 99 101 0 = 0) ∧ x_nm7 b f e = 0 := by
  by_cases h : e - f = 5 ∧ b (f + 0) = 112 ∧ b (f + 1) = 114 ∧ b (f + 2) = 105 ∧ b (f + 3) = 99 ∧ b (f + 4) = 101
  · left
    refine ⟨if_pos ⟨h.1, h.2.1, h.2.2.1, h.2.2.2.1⟩, if_pos ?_, if_pos h⟩
    refine ⟨by (first | decide +kernel | omega), ?_, ?_⟩ <;> omega
  · right
    refine ⟨?_, if_neg h⟩
    by_cases g : e - f = 5 ∧ b (f + 0) = 112 ∧ b (f + 1) = 114 ∧ b (f + 2) = 105
    · right
      refine if_neg (fun q => h ?_)
      obtain ⟨q1, q2, q3⟩ := q
      omega
    · exact Or.inl (if_neg g)
theorem x_nmr8 (b : Int → Int) (f e : Int) : x_nm8 b f e = x_is b f e 3 114 111 100 := rfl
theorem x_nmr9 (b : Int → Int) (f e : Int) : x_nm9 b f e = x_is b f e 3 111 119 101 := rfl
theorem x_nmr10 (b : Int → Int) (f e : Int) : x_is b f e 5 119 97 116 = 1 ∧ x_ens b f 101 114 0 = 1 ∧ x_nm10 b f e = 1 ∨ (x_is b f e 5 119 97 116 = 0 ∨ x_ens b f 101 114 0 = 0) ∧ x_nm10 b f e = 0 := by
  by_cases h : e - f = 5 ∧ b (f + 0) = 119 ∧ b (f + 1) = 97 ∧ b (f + 2) = 116 ∧ b (f + 3) = 101 ∧ b (f + 4) = 114
  · left
    refine ⟨if_pos ⟨h.1, h.2.1, h.2.2.1, h.2.2.2.1⟩, if_pos ?_, if_pos h⟩
    refine ⟨by (first | decide +kernel | omega), ?_, ?_⟩ <;> omega
  · right
    refine ⟨?_, if_neg h⟩
    by_cases g : e - f = 5 ∧ b (f + 0) = 119 ∧ b (f + 1) = 97 ∧ b (f + 2) = 116
    · right
      refine if_neg (fun q => h ?_)
      obtain ⟨q1, q2, q3⟩ := q
      omega
    · exact Or.inl (if_neg g)
theorem x_nmr11 (b : Int → Int) (f e : Int) : x_is b f e 5 115 116 101 = 1 ∧ x_ens b f 112 115 0 = 1 ∧ x_nm11 b f e = 1 ∨ (x_is b f e 5 115 116 101 = 0 ∨ x_ens b f 112 115 0 = 0) ∧ x_nm11 b f e = 0 := by
  by_cases h : e - f = 5 ∧ b (f + 0) = 115 ∧ b (f + 1) = 116 ∧ b (f + 2) = 101 ∧ b (f + 3) = 112 ∧ b (f + 4) = 115
  · left
    refine ⟨if_pos ⟨h.1, h.2.1, h.2.2.1, h.2.2.2.1⟩, if_pos ?_, if_pos h⟩
    refine ⟨by (first | decide +kernel | omega), ?_, ?_⟩ <;> omega
  · right
    refine ⟨?_, if_neg h⟩
    by_cases g : e - f = 5 ∧ b (f + 0) = 115 ∧ b (f + 1) = 116 ∧ b (f + 2) = 101
    · right
      refine if_neg (fun q => h ?_)
      obtain ⟨q1, q2, q3⟩ := q
      omega
    · exact Or.inl (if_neg g)
theorem x_nmr12 (b : Int → Int) (f e : Int) : x_is b f e 6 119 105 115 = 1 ∧ x_ens b f 104 101 115 = 1 ∧ x_nm12 b f e = 1 ∨ (x_is b f e 6 119 105 115 = 0 ∨ x_ens b f 104 101 115 = 0) ∧ x_nm12 b f e = 0 := by
  by_cases h : e - f = 6 ∧ b (f + 0) = 119 ∧ b (f + 1) = 105 ∧ b (f + 2) = 115 ∧ b (f + 3) = 104 ∧ b (f + 4) = 101 ∧ b (f + 5) = 115
  · left
    refine ⟨if_pos ⟨h.1, h.2.1, h.2.2.1, h.2.2.2.1⟩, if_pos ?_, if_pos h⟩
    refine ⟨by (first | decide +kernel | omega), ?_, ?_⟩ <;> omega
  · right
    refine ⟨?_, if_neg h⟩
    by_cases g : e - f = 6 ∧ b (f + 0) = 119 ∧ b (f + 1) = 105 ∧ b (f + 2) = 115
    · right
      refine if_neg (fun q => h ?_)
      obtain ⟨q1, q2, q3⟩ := q
      omega
    · exact Or.inl (if_neg g)
theorem x_nmr13 (b : Int → Int) (f e : Int) : x_is b f e 4 98 111 116 = 1 ∧ x_ens b f 104 0 0 = 1 ∧ x_nm13 b f e = 1 ∨ (x_is b f e 4 98 111 116 = 0 ∨ x_ens b f 104 0 0 = 0) ∧ x_nm13 b f e = 0 := by
  by_cases h : e - f = 4 ∧ b (f + 0) = 98 ∧ b (f + 1) = 111 ∧ b (f + 2) = 116 ∧ b (f + 3) = 104
  · left
    refine ⟨if_pos ⟨h.1, h.2.1, h.2.2.1, h.2.2.2.1⟩, if_pos ?_, if_pos h⟩
    refine ⟨by (first | decide +kernel | omega), ?_, ?_⟩ <;> omega
  · right
    refine ⟨?_, if_neg h⟩
    by_cases g : e - f = 4 ∧ b (f + 0) = 98 ∧ b (f + 1) = 111 ∧ b (f + 2) = 116
    · right
      refine if_neg (fun q => h ?_)
      obtain ⟨q1, q2, q3⟩ := q
      omega
    · exact Or.inl (if_neg g)
def x_ln (b : Int → Int) (f e : Int) : Int := if x_nm0 b f e = 1 then 0 else if x_nm1 b f e = 1 then 1 else if x_nm2 b f e = 1 then 2 else if x_nm3 b f e = 1 then 3 else if x_nm4 b f e = 1 then 4 else if x_nm5 b f e = 1 then 5 else if x_nm6 b f e = 1 then 6 else if x_nm7 b f e = 1 then 7 else if x_nm8 b f e = 1 then 8 else if x_nm9 b f e = 1 then 9 else -1
theorem x_ln_of0 {b : Int → Int} {f e : Int} (h : x_nm0 b f e = 1) : x_ln b f e = 0 := by
  have g := x_nmc0 h
  unfold x_ln
  rw [if_pos h]
theorem x_ln_of1 {b : Int → Int} {f e : Int} (h : x_nm1 b f e = 1) : x_ln b f e = 1 := by
  have g := x_nmc1 h
  have n0 : ¬ x_nm0 b f e = 1 := fun q => by have := x_nmc0 q; omega
  unfold x_ln
  rw [if_neg n0, if_pos h]
theorem x_ln_of2 {b : Int → Int} {f e : Int} (h : x_nm2 b f e = 1) : x_ln b f e = 2 := by
  have g := x_nmc2 h
  have n0 : ¬ x_nm0 b f e = 1 := fun q => by have := x_nmc0 q; omega
  have n1 : ¬ x_nm1 b f e = 1 := fun q => by have := x_nmc1 q; omega
  unfold x_ln
  rw [if_neg n0, if_neg n1, if_pos h]
theorem x_ln_of3 {b : Int → Int} {f e : Int} (h : x_nm3 b f e = 1) : x_ln b f e = 3 := by
  have g := x_nmc3 h
  have n0 : ¬ x_nm0 b f e = 1 := fun q => by have := x_nmc0 q; omega
  have n1 : ¬ x_nm1 b f e = 1 := fun q => by have := x_nmc1 q; omega
  have n2 : ¬ x_nm2 b f e = 1 := fun q => by have := x_nmc2 q; omega
  unfold x_ln
  rw [if_neg n0, if_neg n1, if_neg n2, if_pos h]
theorem x_ln_of4 {b : Int → Int} {f e : Int} (h : x_nm4 b f e = 1) : x_ln b f e = 4 := by
  have g := x_nmc4 h
  have n0 : ¬ x_nm0 b f e = 1 := fun q => by have := x_nmc0 q; omega
  have n1 : ¬ x_nm1 b f e = 1 := fun q => by have := x_nmc1 q; omega
  have n2 : ¬ x_nm2 b f e = 1 := fun q => by have := x_nmc2 q; omega
  have n3 : ¬ x_nm3 b f e = 1 := fun q => by have := x_nmc3 q; omega
  unfold x_ln
  rw [if_neg n0, if_neg n1, if_neg n2, if_neg n3, if_pos h]
theorem x_ln_of5 {b : Int → Int} {f e : Int} (h : x_nm5 b f e = 1) : x_ln b f e = 5 := by
  have g := x_nmc5 h
  have n0 : ¬ x_nm0 b f e = 1 := fun q => by have := x_nmc0 q; omega
  have n1 : ¬ x_nm1 b f e = 1 := fun q => by have := x_nmc1 q; omega
  have n2 : ¬ x_nm2 b f e = 1 := fun q => by have := x_nmc2 q; omega
  have n3 : ¬ x_nm3 b f e = 1 := fun q => by have := x_nmc3 q; omega
  have n4 : ¬ x_nm4 b f e = 1 := fun q => by have := x_nmc4 q; omega
  unfold x_ln
  rw [if_neg n0, if_neg n1, if_neg n2, if_neg n3, if_neg n4, if_pos h]
theorem x_ln_of6 {b : Int → Int} {f e : Int} (h : x_nm6 b f e = 1) : x_ln b f e = 6 := by
  have g := x_nmc6 h
  have n0 : ¬ x_nm0 b f e = 1 := fun q => by have := x_nmc0 q; omega
  have n1 : ¬ x_nm1 b f e = 1 := fun q => by have := x_nmc1 q; omega
  have n2 : ¬ x_nm2 b f e = 1 := fun q => by have := x_nmc2 q; omega
  have n3 : ¬ x_nm3 b f e = 1 := fun q => by have := x_nmc3 q; omega
  have n4 : ¬ x_nm4 b f e = 1 := fun q => by have := x_nmc4 q; omega
  have n5 : ¬ x_nm5 b f e = 1 := fun q => by have := x_nmc5 q; omega
  unfold x_ln
  rw [if_neg n0, if_neg n1, if_neg n2, if_neg n3, if_neg n4, if_neg n5, if_pos h]
theorem x_ln_of7 {b : Int → Int} {f e : Int} (h : x_nm7 b f e = 1) : x_ln b f e = 7 := by
  have g := x_nmc7 h
  have n0 : ¬ x_nm0 b f e = 1 := fun q => by have := x_nmc0 q; omega
  have n1 : ¬ x_nm1 b f e = 1 := fun q => by have := x_nmc1 q; omega
  have n2 : ¬ x_nm2 b f e = 1 := fun q => by have := x_nmc2 q; omega
  have n3 : ¬ x_nm3 b f e = 1 := fun q => by have := x_nmc3 q; omega
  have n4 : ¬ x_nm4 b f e = 1 := fun q => by have := x_nmc4 q; omega
  have n5 : ¬ x_nm5 b f e = 1 := fun q => by have := x_nmc5 q; omega
  have n6 : ¬ x_nm6 b f e = 1 := fun q => by have := x_nmc6 q; omega
  unfold x_ln
  rw [if_neg n0, if_neg n1, if_neg n2, if_neg n3, if_neg n4, if_neg n5, if_neg n6, if_pos h]
theorem x_ln_of8 {b : Int → Int} {f e : Int} (h : x_nm8 b f e = 1) : x_ln b f e = 8 := by
  have g := x_nmc8 h
  have n0 : ¬ x_nm0 b f e = 1 := fun q => by have := x_nmc0 q; omega
  have n1 : ¬ x_nm1 b f e = 1 := fun q => by have := x_nmc1 q; omega
  have n2 : ¬ x_nm2 b f e = 1 := fun q => by have := x_nmc2 q; omega
  have n3 : ¬ x_nm3 b f e = 1 := fun q => by have := x_nmc3 q; omega
  have n4 : ¬ x_nm4 b f e = 1 := fun q => by have := x_nmc4 q; omega
  have n5 : ¬ x_nm5 b f e = 1 := fun q => by have := x_nmc5 q; omega
  have n6 : ¬ x_nm6 b f e = 1 := fun q => by have := x_nmc6 q; omega
  have n7 : ¬ x_nm7 b f e = 1 := fun q => by have := x_nmc7 q; omega
  unfold x_ln
  rw [if_neg n0, if_neg n1, if_neg n2, if_neg n3, if_neg n4, if_neg n5, if_neg n6, if_neg n7, if_pos h]
theorem x_ln_of9 {b : Int → Int} {f e : Int} (h : x_nm9 b f e = 1) : x_ln b f e = 9 := by
  have g := x_nmc9 h
  have n0 : ¬ x_nm0 b f e = 1 := fun q => by have := x_nmc0 q; omega
  have n1 : ¬ x_nm1 b f e = 1 := fun q => by have := x_nmc1 q; omega
  have n2 : ¬ x_nm2 b f e = 1 := fun q => by have := x_nmc2 q; omega
  have n3 : ¬ x_nm3 b f e = 1 := fun q => by have := x_nmc3 q; omega
  have n4 : ¬ x_nm4 b f e = 1 := fun q => by have := x_nmc4 q; omega
  have n5 : ¬ x_nm5 b f e = 1 := fun q => by have := x_nmc5 q; omega
  have n6 : ¬ x_nm6 b f e = 1 := fun q => by have := x_nmc6 q; omega
  have n7 : ¬ x_nm7 b f e = 1 := fun q => by have := x_nmc7 q; omega
  have n8 : ¬ x_nm8 b f e = 1 := fun q => by have := x_nmc8 q; omega
  unfold x_ln
  rw [if_neg n0, if_neg n1, if_neg n2, if_neg n3, if_neg n4, if_neg n5, if_neg n6, if_neg n7, if_neg n8, if_pos h]
theorem x_ln_no {b : Int → Int} {f e : Int} (h0 : x_nm0 b f e = 0) (h1 : x_nm1 b f e = 0) (h2 : x_nm2 b f e = 0) (h3 : x_nm3 b f e = 0) (h4 : x_nm4 b f e = 0) (h5 : x_nm5 b f e = 0) (h6 : x_nm6 b f e = 0) (h7 : x_nm7 b f e = 0) (h8 : x_nm8 b f e = 0) (h9 : x_nm9 b f e = 0) : x_ln b f e = -1 := by
  unfold x_ln
  rw [if_neg (by (first | decide +kernel | omega)), if_neg (by (first | decide +kernel | omega)), if_neg (by (first | decide +kernel | omega)), if_neg (by (first | decide +kernel | omega)), if_neg (by (first | decide +kernel | omega)), if_neg (by (first | decide +kernel | omega)), if_neg (by (first | decide +kernel | omega)), if_neg (by (first | decide +kernel | omega)), if_neg (by (first | decide +kernel | omega)), if_neg (by (first | decide +kernel | omega))]
def x_nt (b : Int → Int) (f e : Int) : Int := if x_nm10 b f e = 1 then 0 else if x_nm2 b f e = 1 then 1 else if x_nm11 b f e = 1 then 2 else if x_nm12 b f e = 1 then 3 else if x_nm13 b f e = 1 then 4 else -1
theorem x_nt_of0 {b : Int → Int} {f e : Int} (h : x_nm10 b f e = 1) : x_nt b f e = 0 := by
  have g := x_nmc10 h
  unfold x_nt
  rw [if_pos h]
theorem x_nt_of1 {b : Int → Int} {f e : Int} (h : x_nm2 b f e = 1) : x_nt b f e = 1 := by
  have g := x_nmc2 h
  have n0 : ¬ x_nm10 b f e = 1 := fun q => by have := x_nmc10 q; omega
  unfold x_nt
  rw [if_neg n0, if_pos h]
theorem x_nt_of2 {b : Int → Int} {f e : Int} (h : x_nm11 b f e = 1) : x_nt b f e = 2 := by
  have g := x_nmc11 h
  have n0 : ¬ x_nm10 b f e = 1 := fun q => by have := x_nmc10 q; omega
  have n1 : ¬ x_nm2 b f e = 1 := fun q => by have := x_nmc2 q; omega
  unfold x_nt
  rw [if_neg n0, if_neg n1, if_pos h]
theorem x_nt_of3 {b : Int → Int} {f e : Int} (h : x_nm12 b f e = 1) : x_nt b f e = 3 := by
  have g := x_nmc12 h
  have n0 : ¬ x_nm10 b f e = 1 := fun q => by have := x_nmc10 q; omega
  have n1 : ¬ x_nm2 b f e = 1 := fun q => by have := x_nmc2 q; omega
  have n2 : ¬ x_nm11 b f e = 1 := fun q => by have := x_nmc11 q; omega
  unfold x_nt
  rw [if_neg n0, if_neg n1, if_neg n2, if_pos h]
theorem x_nt_of4 {b : Int → Int} {f e : Int} (h : x_nm13 b f e = 1) : x_nt b f e = 4 := by
  have g := x_nmc13 h
  have n0 : ¬ x_nm10 b f e = 1 := fun q => by have := x_nmc10 q; omega
  have n1 : ¬ x_nm2 b f e = 1 := fun q => by have := x_nmc2 q; omega
  have n2 : ¬ x_nm11 b f e = 1 := fun q => by have := x_nmc11 q; omega
  have n3 : ¬ x_nm12 b f e = 1 := fun q => by have := x_nmc12 q; omega
  unfold x_nt
  rw [if_neg n0, if_neg n1, if_neg n2, if_neg n3, if_pos h]
theorem x_nt_no {b : Int → Int} {f e : Int} (h10 : x_nm10 b f e = 0) (h2 : x_nm2 b f e = 0) (h11 : x_nm11 b f e = 0) (h12 : x_nm12 b f e = 0) (h13 : x_nm13 b f e = 0) : x_nt b f e = -1 := by
  unfold x_nt
  rw [if_neg (by (first | decide +kernel | omega)), if_neg (by (first | decide +kernel | omega)), if_neg (by (first | decide +kernel | omega)), if_neg (by (first | decide +kernel | omega)), if_neg (by (first | decide +kernel | omega))]
theorem x_lnR {b : Int → Int} {f e r : Int} (h : r = 0 ∧ x_nm0 b f e = 1 ∨ r = 1 ∧ x_nm6 b f e = 1 ∨ r = 2 ∧ x_nm7 b f e = 1 ∨ r = 3 ∧ x_nm8 b f e = 1 ∨ r = -4 ∧ x_nm0 b f e = 0 ∧ x_nm6 b f e = 0 ∧ x_nm7 b f e = 0 ∧ x_nm8 b f e = 0) (h1 : x_nm1 b f e = 0) (h2 : x_nm2 b f e = 0) (h3 : x_nm3 b f e = 0) (h4 : x_nm4 b f e = 0) (h5 : x_nm5 b f e = 0) (h9 : x_nm9 b f e = 0) : r = 0 ∧ x_ln b f e = 0 ∨ r = 1 ∧ x_ln b f e = 6 ∨ r = 2 ∧ x_ln b f e = 7 ∨ r = 3 ∧ x_ln b f e = 8 ∨ r = -4 ∧ x_ln b f e = -1 := by
  rcases h with h | h | h | h | h
  · have := x_ln_of0 h.2; omega
  · have := x_ln_of6 h.2; omega
  · have := x_ln_of7 h.2; omega
  · have := x_ln_of8 h.2; omega
  · have := x_ln_no (b := b) (f := f) (e := e) (by (first | decide +kernel | omega)) h1 h2 h3 h4 h5 (by (first | decide +kernel | omega)) (by (first | decide +kernel | omega)) (by (first | decide +kernel | omega)) h9; omega
theorem rn_ge {P : Int → Bool} {b : Int → Int} (p : Int) : p ≤ rn P b p := by
  unfold rn
  generalize (161 - p).toNat = k
  induction k generalizing p with
  | zero => exact Int.le_refl p
  | succ k ih =>
    show p ≤ (if P (b p) = true then rnF P b k (p + 1) else p)
    split
    · have := ih (p + 1); omega
    · exact Int.le_refl p
theorem wr_mul {a b z : Int32} {A B Z : Int} (pa : a.toInt = A) (pb : b.toInt = B) (e : z = a * b) (p : z.toInt = Z) : Z = A * B ∨ A * B < -2147483648 ∨ 2147483648 ≤ A * B := by
  by_cases h : -2147483648 ≤ A * B ∧ A * B < 2147483648
  · left; rw [← p, e]; exact ti_mul pa pb (by (first | decide +kernel | omega))
  · omega
theorem wr_add {a b z : Int32} {A B Z : Int} (pa : a.toInt = A) (pb : b.toInt = B) (e : z = a + b) (p : z.toInt = Z) : Z = A + B ∨ A + B < -2147483648 ∨ 2147483648 ≤ A + B := by
  by_cases h : -2147483648 ≤ A + B ∧ A + B < 2147483648
  · left; rw [← p, e]; exact ti_add pa pb (by (first | decide +kernel | omega))
  · omega
theorem wr_sub {a b z : Int32} {A B Z : Int} (pa : a.toInt = A) (pb : b.toInt = B) (e : z = a - b) (p : z.toInt = Z) : Z = A - B ∨ A - B < -2147483648 ∨ 2147483648 ≤ A - B := by
  by_cases h : -2147483648 ≤ A - B ∧ A - B < 2147483648
  · left; rw [← p, e]; exact ti_sub pa pb (by (first | decide +kernel | omega))
  · omega
