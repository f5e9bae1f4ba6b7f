def VFp (b : Int → Int) (t u v : Int) : Prop := u = t ∧ v = 0 ∨ u = t + 1 ∧ v = b t - 48 ∨ u = t + 2 ∧ v = 10 * (b t - 48) + (b (t + 1) - 48) ∨ t + 3 ≤ u
def DFp (b : Int → Int) (t u : Int) : Prop := (u = t ∨ 48 ≤ b t ∧ b t ≤ 57) ∧ (u ≤ t + 1 ∨ 48 ≤ b (t + 1) ∧ b (t + 1) ≤ 57)
theorem VFp_0 {b : Int → Int} {t : Int} : VFp b t t 0 := Or.inl ⟨rfl, rfl⟩
theorem DFp_0 {b : Int → Int} {t : Int} : DFp b t t := ⟨Or.inl rfl, Or.inl (by (first | decide +kernel | omega))⟩
theorem DFp_s {b : Int → Int} {t u : Int} (d : DFp b t u) (hu : t ≤ u) (f : 48 ≤ b u ∧ b u ≤ 57) : DFp b t (u + 1) := by
  obtain ⟨d1, d2⟩ := d
  constructor
  · by_cases q : u = t
    · rw [q] at f; exact Or.inr f
    · exact Or.inr (d1.resolve_left q)
  · by_cases q : u ≤ t
    · exact Or.inl (by (first | decide +kernel | omega))
    · by_cases q2 : u = t + 1
      · rw [q2] at f; exact Or.inr f
      · exact Or.inr (d2.resolve_left (by (first | decide +kernel | omega)))
theorem VFp_s {b : Int → Int} {t u v A B C X : Int} (k : VFp b t u v) (d : DFp b t u) (f : 48 ≤ b u ∧ b u ≤ 57) (hx : X = b u) (m : A = 10 * v ∨ 10 * v < -2147483648 ∨ 2147483648 ≤ 10 * v) (a : B = A + X ∨ A + X < -2147483648 ∨ 2147483648 ≤ A + X) (s : C = B - 48 ∨ B - 48 < -2147483648 ∨ 2147483648 ≤ B - 48) : VFp b t (u + 1) C := by
  subst hx
  rcases k with ⟨k1, k2⟩ | ⟨k1, k2⟩ | ⟨k1, k2⟩ | k1
  · have m1 := m.resolve_right (by (first | decide +kernel | omega))
    have a1 := a.resolve_right (by (first | decide +kernel | omega))
    have s1 := s.resolve_right (by (first | decide +kernel | omega))
    rw [k1] at a1
    exact Or.inr (Or.inl ⟨by (first | decide +kernel | omega), by (first | decide +kernel | omega)⟩)
  · have d1 := d.1.resolve_left (by (first | decide +kernel | omega))
    have m1 := m.resolve_right (by (first | decide +kernel | omega))
    have a1 := a.resolve_right (by (first | decide +kernel | omega))
    have s1 := s.resolve_right (by (first | decide +kernel | omega))
    rw [k1] at a1
    exact Or.inr (Or.inr (Or.inl ⟨by (first | decide +kernel | omega), by (first | decide +kernel | omega)⟩))
  · exact Or.inr (Or.inr (Or.inr (by (first | decide +kernel | omega))))
  · exact Or.inr (Or.inr (Or.inr (by (first | decide +kernel | omega))))
theorem VFp_e {b : Int → Int} {t u v : Int} (k : VFp b t u v) (d : DFp b t u) : u - t = 0 ∨ u - t = 1 ∧ v = b t - 48 ∧ 0 ≤ v ∧ v ≤ 9 ∨ u - t = 2 ∧ v = 10 * (b t - 48) + (b (t + 1) - 48) ∧ 0 ≤ v ∧ v ≤ 99 ∨ 2 < u - t := by
  rcases k with ⟨k1, k2⟩ | ⟨k1, k2⟩ | ⟨k1, k2⟩ | k1
  · exact Or.inl (by (first | decide +kernel | omega))
  · have d1 := d.1.resolve_left (by (first | decide +kernel | omega))
    exact Or.inr (Or.inl ⟨by (first | decide +kernel | omega), k2, by (first | decide +kernel | omega), by (first | decide +kernel | omega)⟩)
  · have d1 := d.1.resolve_left (by (first | decide +kernel | omega))
    have d2 := d.2.resolve_left (by (first | decide +kernel | omega))
    exact Or.inr (Or.inr (Or.inl ⟨by (first | decide +kernel | omega), k2, by (first | decide +kernel | omega), by (first | decide +kernel | omega)⟩))
  · exact Or.inr (Or.inr (Or.inr (by (first | decide +kernel | omega))))
theorem adv_2 {b : Int → Int} {t s f k u v : Int} (p : f = x_fr b t ∧ k = x_kd b t ∧ (k = 4 ∨ u = x_en b t) ∧ (k ≠ 2 ∨ v = x_vl b t ∧ 0 ≤ v ∧ v ≤ 99) ∧ t ≤ f ∧ f ≤ u ∧ u ≤ s ∧ (k = 0 ∧ f = s ∨ k ≠ 0 ∧ f < s) ∧ 0 ≤ k ∧ k ≤ 4 ∧ (k = 0 ∨ k = 4 ∨ f < u)) (hk : k = 2) : k = 2 ∧ f = x_fr b t ∧ x_kd b t = 2 ∧ u = x_en b t ∧ v = x_vl b t ∧ 0 ≤ v ∧ v ≤ 99 ∧ t ≤ f ∧ f < u ∧ u ≤ s ∧ f < s := by
  obtain ⟨p1, p2, p3, p4, p5, p6, p7, p8, p9, p10, p11⟩ := p
  have q3 := p3.resolve_left (by (first | decide +kernel | omega))
  have q4 := p4.resolve_left (by (first | decide +kernel | omega))
  have q11 := (p11.resolve_left (by (first | decide +kernel | omega))).resolve_left (by (first | decide +kernel | omega))
  exact ⟨hk, p1, by (first | decide +kernel | omega), q3, q4.1, q4.2.1, q4.2.2, p5, q11, p7, by (first | decide +kernel | omega)⟩
theorem adv_m {b : Int → Int} {t s f k u v : Int} (m : Int) (p : f = x_fr b t ∧ k = x_kd b t ∧ (k = 4 ∨ u = x_en b t) ∧ (k ≠ 2 ∨ v = x_vl b t ∧ 0 ≤ v ∧ v ≤ 99) ∧ t ≤ f ∧ f ≤ u ∧ u ≤ s ∧ (k = 0 ∧ f = s ∨ k ≠ 0 ∧ f < s) ∧ 0 ≤ k ∧ k ≤ 4 ∧ (k = 0 ∨ k = 4 ∨ f < u)) (hk : k = m) (h0 : m ≠ 0 ∧ m ≠ 4) : k = m ∧ f = x_fr b t ∧ x_kd b t = m ∧ u = x_en b t ∧ t ≤ f ∧ f < u ∧ u ≤ s ∧ f < s := by
  obtain ⟨p1, p2, p3, p4, p5, p6, p7, p8, p9, p10, p11⟩ := p
  have q3 := p3.resolve_left (by (first | decide +kernel | omega))
  have q11 := (p11.resolve_left (by (first | decide +kernel | omega))).resolve_left (by (first | decide +kernel | omega))
  exact ⟨hk, p1, by (first | decide +kernel | omega), q3, p5, q11, p7, by (first | decide +kernel | omega)⟩
theorem adv_0 {b : Int → Int} {t s f k u v : Int} (p : f = x_fr b t ∧ k = x_kd b t ∧ (k = 4 ∨ u = x_en b t) ∧ (k ≠ 2 ∨ v = x_vl b t ∧ 0 ≤ v ∧ v ≤ 99) ∧ t ≤ f ∧ f ≤ u ∧ u ≤ s ∧ (k = 0 ∧ f = s ∨ k ≠ 0 ∧ f < s) ∧ 0 ≤ k ∧ k ≤ 4 ∧ (k = 0 ∨ k = 4 ∨ f < u)) : f = x_fr b t ∧ k = x_kd b t ∧ t ≤ f ∧ f ≤ u ∧ u ≤ s ∧ 0 ≤ k ∧ k ≤ 4 := ⟨p.1, p.2.1, p.2.2.2.2.1, p.2.2.2.2.2.1, p.2.2.2.2.2.2.1, p.2.2.2.2.2.2.2.2.1, p.2.2.2.2.2.2.2.2.2.1⟩
theorem kd_y {k m r e w y a f : Int} (p : k = 4 ∧ r = 0 ∧ e = 1 ∧ y = f ∨ k ≠ 4 ∧ k = m ∧ r = 1 ∧ e = w ∧ y = a ∨ k ≠ 4 ∧ k ≠ m ∧ r = 0 ∧ e = 2 ∧ y = f) (hr : r ≠ 0) : k ≠ 4 ∧ k = m ∧ r = 1 ∧ e = w ∧ y = a := by
  rcases p with ⟨_, p, _⟩ | p | ⟨_, _, p, _⟩
  · exact absurd p hr
  · exact p
  · exact absurd p hr
theorem kd_n {k m r e w y a f : Int} (p : k = 4 ∧ r = 0 ∧ e = 1 ∧ y = f ∨ k ≠ 4 ∧ k = m ∧ r = 1 ∧ e = w ∧ y = a ∨ k ≠ 4 ∧ k ≠ m ∧ r = 0 ∧ e = 2 ∧ y = f) (hr : r = 0) : k = 4 ∧ e = 1 ∧ y = f ∨ k ≠ 4 ∧ k ≠ m ∧ e = 2 ∧ y = f := by
  rcases p with ⟨p1, _, p2, p3⟩ | ⟨_, _, p, _⟩ | ⟨p1, p2, _, p3, p4⟩
  · exact Or.inl ⟨p1, p2, p3⟩
  · omega
  · exact Or.inr ⟨p1, p2, p3, p4⟩
def VQp (b : Int → Int) (f u v : Int) : Prop := u = f ∧ v = 0 ∨ u = f + 1 ∧ v = b f - 48 ∨ f + 2 ≤ u ∧ v = 10 * (b f - 48) + (b (f + 1) - 48)
theorem VQp_0 {b : Int → Int} {f : Int} : VQp b f f 0 := Or.inl ⟨rfl, rfl⟩
theorem VQp_k {b : Int → Int} {f u v : Int} (k : VQp b f u v) (h : f + 2 ≤ u) : VQp b f (u + 1) v := by
  rcases k with ⟨k1, k2⟩ | ⟨k1, k2⟩ | ⟨k1, k2⟩
  · omega
  · omega
  · exact Or.inr (Or.inr ⟨by (first | decide +kernel | omega), k2⟩)
theorem VQp_b {b : Int → Int} {f u v : Int} (k : VQp b f u v) (d : DFp b f u) (h : u < f + 2) : 0 ≤ v ∧ v ≤ 9 := by
  rcases k with ⟨k1, k2⟩ | ⟨k1, k2⟩ | ⟨k1, k2⟩
  · omega
  · have d1 := d.1.resolve_left (by (first | decide +kernel | omega))
    omega
  · omega
theorem VQp_s {b : Int → Int} {f u v X : Int} (k : VQp b f u v) (hx : X = b u) (h : u < f + 2) : VQp b f (u + 1) (10 * v + X - 48) := by
  subst hx
  rcases k with ⟨k1, k2⟩ | ⟨k1, k2⟩ | ⟨k1, k2⟩
  · rw [k1, k2]
    exact Or.inr (Or.inl ⟨rfl, by (first | decide +kernel | omega)⟩)
  · rw [k1, k2]
    exact Or.inr (Or.inr ⟨by (first | decide +kernel | omega), by (first | decide +kernel | omega)⟩)
  · omega
theorem VQp_e {b : Int → Int} {f u v : Int} (k : VQp b f u v) (h : u - f = 1 ∨ u - f = 2) : u - f = 1 ∧ v = b f - 48 ∨ u - f = 2 ∧ v = 10 * (b f - 48) + (b (f + 1) - 48) := by
  rcases k with ⟨k1, k2⟩ | ⟨k1, k2⟩ | ⟨k1, k2⟩
  · omega
  · exact Or.inl ⟨by (first | decide +kernel | omega), k2⟩
  · exact Or.inr ⟨by (first | decide +kernel | omega), k2⟩
theorem VQp_r {b : Int → Int} {f u v : Int} (k : VQp b f u v) (d : DFp b f u) (h : u - f = 1 ∨ u - f = 2) : 0 ≤ v ∧ v ≤ 99 := by
  rcases k with ⟨k1, k2⟩ | ⟨k1, k2⟩ | ⟨k1, k2⟩
  · omega
  · have d1 := d.1.resolve_left (by (first | decide +kernel | omega))
    omega
  · have d1 := d.1.resolve_left (by (first | decide +kernel | omega))
    have d2 := d.2.resolve_left (by (first | decide +kernel | omega))
    omega
