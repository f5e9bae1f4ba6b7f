theorem num_3 {b : Int → Int} {t lo hi v : Int} (h : x_kd b t = 2) (hv : v = x_vl b t) (c : v < lo ∨ hi < v) : x_cN b t lo hi = 3 := by
  rcases x_cN_s b t lo hi with ⟨a, _⟩ | ⟨_, a, _⟩ | ⟨_, _, a⟩ | ⟨_, a1, a2, _⟩
  · omega
  · omega
  · exact a
  · exfalso; omega
theorem num_0 {b : Int → Int} {t lo hi v : Int} (h : x_kd b t = 2) (hv : v = x_vl b t) (c : lo ≤ v ∧ v ≤ hi) : x_cN b t lo hi = 0 := by
  rcases x_cN_s b t lo hi with ⟨a, _⟩ | ⟨_, a, _⟩ | ⟨_, a, _⟩ | ⟨_, _, _, a⟩
  · omega
  · omega
  · exfalso; omega
  · exact a
theorem num_k {b : Int → Int} {t s f k u v r e w y a : Int} (lo hi : Int) (p : f = x_fr b t ∧ k = x_kd b t ∧ (k = 4 ∨ u = x_en b t) ∧ (k ≠ 2 ∨ v = x_vl b t ∧ 0 ≤ v ∧ v ≤ 99) ∧ t ≤ f ∧ f ≤ u ∧ u ≤ s ∧ (k = 0 ∧ f = s ∨ k ≠ 0 ∧ f < s) ∧ 0 ≤ k ∧ k ≤ 4 ∧ (k = 0 ∨ k = 4 ∨ f < u)) (q : k = 4 ∧ r = 0 ∧ e = 1 ∧ y = f ∨ k ≠ 4 ∧ k = 2 ∧ r = 1 ∧ e = w ∧ y = a ∨ k ≠ 4 ∧ k ≠ 2 ∧ r = 0 ∧ e = 2 ∧ y = f) (hr : r = 0) : x_cN b t lo hi ≠ 0 ∧ e = x_cN b t lo hi ∧ y = x_fr b t := by
  obtain ⟨p1, p2, _⟩ := p
  rcases kd_n q hr with ⟨q1, q2, q3⟩ | ⟨q1, q2, q3, q4⟩
  · rcases x_cN_s b t lo hi with ⟨_, a⟩ | ⟨a, _⟩ | ⟨a, _⟩ | ⟨a, _⟩
    · exact ⟨by (first | decide +kernel | omega), by (first | decide +kernel | omega), by (first | decide +kernel | omega)⟩
    · omega
    · omega
    · omega
  · rcases x_cN_s b t lo hi with ⟨a, _⟩ | ⟨_, _, a⟩ | ⟨a, _⟩ | ⟨a, _⟩
    · omega
    · exact ⟨by (first | decide +kernel | omega), by (first | decide +kernel | omega), by (first | decide +kernel | omega)⟩
    · omega
    · omega
theorem nu_all {b : Int → Int} {p0 c d s p g k v w a z u1 y1 q f m x u y : Int} (h1 : 0 ≤ p ∧ p ≤ s ∧ 0 ≤ w) (h2 : w ≠ 0 ∨ (g = x_fr b p0 ∧ k = x_kd b p0 ∧ k ≠ 4 ∧ 0 ≤ k ∧ k ≤ 3 ∧ p = x_en b p0 ∧ (k ≠ 2 ∨ v = x_vl b p0 ∧ 0 ≤ v ∧ v ≤ 99) ∧ p0 ≤ g ∧ g ≤ p ∧ p ≤ s ∧ (k = 0 ∨ g < p)))
    (p6 : w ≠ 0 ∧ u1 = w ∧ y1 = a ∧ z = 0 ∨ w = 0 ∧ k ≠ 2 ∧ u1 = 2 ∧ y1 = g ∧ z = 0 ∨ w = 0 ∧ k = 2 ∧ (v < c ∨ d < v) ∧ u1 = 3 ∧ y1 = g ∧ z = 0 ∨ w = 0 ∧ k = 2 ∧ c ≤ v ∧ v ≤ d ∧ u1 = 0 ∧ y1 = a ∧ z = v)
    (p18 : u1 ≠ 0 ∧ q = p ∧ f = g ∧ m = k ∧ x = v ∧ u = u1 ∧ y = y1 ∨ u1 = 0 ∧ f = x_fr b p ∧ p ≤ f ∧ f ≤ q ∧ q ≤ s ∧ (u = 1 ∧ x_kd b p = 4 ∧ y = f ∨ u = 0 ∧ y = y1 ∧ m = x_kd b p ∧ m ≠ 4 ∧ 0 ≤ m ∧ m ≤ 3 ∧ q = x_en b p ∧ (m ≠ 2 ∨ x = x_vl b p ∧ 0 ≤ x ∧ x ≤ 99) ∧ (m = 0 ∨ f < q))) :
    (w ≠ 0 ∧ u = w ∧ y = a ∧ z = 0 ∨ w = 0 ∧ x_cN b p0 c d ≠ 0 ∧ u = x_cN b p0 c d ∧ y = x_fr b p0 ∧ z = 0 ∨ w = 0 ∧ x_cN b p0 c d = 0 ∧ z = x_vl b p0 ∧ (u = 1 ∧ x_kd b (x_en b p0) = 4 ∧ y = x_fr b (x_en b p0) ∨ u = 0 ∧ f = x_fr b (x_en b p0) ∧ m = x_kd b (x_en b p0) ∧ m ≠ 4 ∧ 0 ≤ m ∧ m ≤ 3 ∧ q = x_en b (x_en b p0) ∧ (m ≠ 2 ∨ x = x_vl b (x_en b p0) ∧ 0 ≤ x ∧ x ≤ 99) ∧ (x_en b p0) ≤ f ∧ f ≤ q ∧ q ≤ s ∧ (m = 0 ∨ f < q))) ∧ 0 ≤ q ∧ q ≤ s ∧ 0 ≤ u := by
  by_cases hw : w = 0
  · obtain ⟨a1, a2, a3, a4, a5, a6, a7, a8, a9, a10, a11⟩ := h2.resolve_left (fun n => n hw)
    clear h2 a11
    have K : x_cN b p0 c d = u1 ∧ (u1 ≠ 0 ∧ 0 ≤ u1 ∧ y1 = g ∧ z = 0 ∨ u1 = 0 ∧ y1 = a ∧ z = v ∧ k = 2) := by
      clear p18
      rcases p6 with ⟨b1, _⟩ | ⟨_, b2, b3, b4, b5⟩ | ⟨_, b2, b3, b4, b5, b6⟩ | ⟨_, b2, b3, b4, b5, b6, b7⟩
      · exact absurd hw b1
      · rcases x_cN_s b p0 c d with ⟨e, _⟩ | ⟨_, _, e⟩ | ⟨e, _⟩ | ⟨e, _⟩
        · omega
        · exact ⟨by (first | decide +kernel | omega), Or.inl ⟨by (first | decide +kernel | omega), by (first | decide +kernel | omega), b4, b5⟩⟩
        · omega
        · omega
      · have e7 := a7.resolve_left (fun n => n b2)
        exact ⟨(num_3 (by (first | decide +kernel | omega)) e7.1 b3).trans b4.symm, Or.inl ⟨by (first | decide +kernel | omega), by (first | decide +kernel | omega), b5, b6⟩⟩
      · have e7 := a7.resolve_left (fun n => n b2)
        exact ⟨(num_0 (by (first | decide +kernel | omega)) e7.1 ⟨b3, b4⟩).trans b5.symm, Or.inr ⟨b5, b6, b7, b2⟩⟩
    clear p6
    rcases K with ⟨e, ⟨k1, k0, k2, k3⟩ | ⟨k1, k2, k3, k4⟩⟩
    · obtain ⟨_, q1, q2, q3, q4, q5, q6⟩ := p18.resolve_right (fun n => k1 n.1)
      exact ⟨Or.inr (Or.inl ⟨hw, by (first | decide +kernel | omega), by (first | decide +kernel | omega), by (first | decide +kernel | omega), k3⟩), by (first | decide +kernel | omega), by (first | decide +kernel | omega), by (first | decide +kernel | omega)⟩
    · obtain ⟨_, q1, q2, q3, q4, q5⟩ := p18.resolve_left (fun n => n.1 k1)
      have e7 := a7.resolve_left (fun n => n k4)
      clear p18 a7
      rw [a6] at q1 q2 q5
      rcases q5 with ⟨r1, r2, r3⟩ | ⟨r1, r2, r3, r4, r5, r6, r7, r8, r9⟩
      · exact ⟨Or.inr (Or.inr ⟨hw, e.trans k1, k3.trans e7.1, Or.inl ⟨r1, r2, r3.trans q1⟩⟩), by (first | decide +kernel | omega), by (first | decide +kernel | omega), by (first | decide +kernel | omega)⟩
      · exact ⟨Or.inr (Or.inr ⟨hw, e.trans k1, k3.trans e7.1, Or.inr ⟨r1, q1, r3, r4, r5, r6, r7, r8, q2, q3, q4, r9⟩⟩), by (first | decide +kernel | omega), by (first | decide +kernel | omega), by (first | decide +kernel | omega)⟩
  · have b1 : u1 = w ∧ y1 = a ∧ z = 0 := by
      rcases p6 with ⟨_, b⟩ | ⟨b, _⟩ | ⟨b, _⟩ | ⟨b, _⟩
      · exact b
      · exact absurd b hw
      · exact absurd b hw
      · exact absurd b hw
    clear p6 h2
    obtain ⟨_, q1, q2, q3, q4, q5, q6⟩ := p18.resolve_right (fun n => by (first | decide +kernel | omega))
    clear p18
    exact ⟨Or.inl ⟨hw, by (first | decide +kernel | omega), by (first | decide +kernel | omega), b1.2.2⟩, by (first | decide +kernel | omega), by (first | decide +kernel | omega), by (first | decide +kernel | omega)⟩
theorem cN_0 {b : Int → Int} {t lo hi : Int} (h : x_cN b t lo hi = 0) : x_kd b t = 2 ∧ lo ≤ x_vl b t ∧ x_vl b t ≤ hi := by
  rcases x_cN_s b t lo hi with ⟨_, a⟩ | ⟨_, _, a⟩ | ⟨_, _, a⟩ | ⟨a, a1, a2, _⟩
  · omega
  · omega
  · omega
  · exact ⟨a, a1, a2⟩
theorem cS_of {b : Int → Int} {t : Int} (h : x_kd b t = 3) : x_cS b t = 0 := by
  unfold x_cS
  rw [if_neg (by (first | decide +kernel | omega)), if_neg (by (first | decide +kernel | omega))]
theorem cH_0 {b : Int → Int} {T : Nat → Int → Int} {n p : Int} (k : x_kd b p = 1) (l : x_li b p ≠ -1) (a : ¬ (x_li b p = 0 ∧ T 0 0 ≠ 0 ∨ x_li b p = 6 ∧ T 6 0 ≠ 0 ∨ x_li b p = 7 ∧ T 7 0 ≠ 0 ∨ x_li b p = 8 ∧ T 8 0 ≠ 0)) (c : ¬ (x_li b p = 9 ∧ 8 ≤ n)) : x_cH b T n p = 0 := by
  rcases x_cH_s b T n p with ⟨q, _⟩ | ⟨_, q, _⟩ | ⟨_, q, _⟩ | ⟨_, _, q, _⟩ | ⟨_, q1, q2, _⟩ | q
  · omega
  · omega
  · exact absurd q l
  · exact absurd q a
  · exact absurd ⟨q1, q2⟩ c
  · omega
theorem lk_all {b : Int → Int} {p0 c d s p g k v w a z u1 y1 : Int} (h2 : g = x_fr b p0 ∧ k = x_kd b p0 ∧ k ≠ 4 ∧ 0 ≤ k ∧ k ≤ 3 ∧ p = x_en b p0 ∧ (k ≠ 2 ∨ v = x_vl b p0 ∧ 0 ≤ v ∧ v ≤ 99) ∧ p0 ≤ g ∧ g ≤ p ∧ p ≤ s ∧ (k = 0 ∨ g < p)) (hw : w = 0)
    (p6 : w ≠ 0 ∧ u1 = w ∧ y1 = a ∧ z = 0 ∨ w = 0 ∧ k ≠ 2 ∧ u1 = 2 ∧ y1 = g ∧ z = 0 ∨ w = 0 ∧ k = 2 ∧ (v < c ∨ d < v) ∧ u1 = 3 ∧ y1 = g ∧ z = 0 ∨ w = 0 ∧ k = 2 ∧ c ≤ v ∧ v ≤ d ∧ u1 = 0 ∧ y1 = a ∧ z = v) :
    x_cN b p0 c d = u1 ∧ (u1 ≠ 0 ∧ 0 ≤ u1 ∧ y1 = g ∧ z = 0 ∨ u1 = 0 ∧ y1 = a ∧ z = v ∧ k = 2 ∧ v = x_vl b p0 ∧ c ≤ v ∧ v ≤ d) := by
  obtain ⟨a1, a2, a3, a4, a5, a6, a7, a8, a9, a10, a11⟩ := h2
  clear a11
  rcases p6 with ⟨b1, _⟩ | ⟨_, b2, b3, b4, b5⟩ | ⟨_, b2, b3, b4, b5, b6⟩ | ⟨_, b2, b3, b4, b5, b6, b7⟩
  · exact absurd hw b1
  · rcases x_cN_s b p0 c d with ⟨e, _⟩ | ⟨_, _, e⟩ | ⟨e, _⟩ | ⟨e, _⟩
    · omega
    · exact ⟨by (first | decide +kernel | omega), Or.inl ⟨by (first | decide +kernel | omega), by (first | decide +kernel | omega), b4, b5⟩⟩
    · omega
    · omega
  · have e7 := a7.resolve_left (fun n => n b2)
    exact ⟨(num_3 (by (first | decide +kernel | omega)) e7.1 b3).trans b4.symm, Or.inl ⟨by (first | decide +kernel | omega), by (first | decide +kernel | omega), b5, b6⟩⟩
  · have e7 := a7.resolve_left (fun n => n b2)
    exact ⟨(num_0 (by (first | decide +kernel | omega)) e7.1 ⟨b3, b4⟩).trans b5.symm, Or.inr ⟨b5, b6, b7, b2, e7.1, b3, b4⟩⟩
theorem lx_s {b : Int → Int} {p0 s p g k v : Int} (h2 : g = x_fr b p0 ∧ k = x_kd b p0 ∧ k ≠ 4 ∧ 0 ≤ k ∧ k ≤ 3 ∧ p = x_en b p0 ∧ (k ≠ 2 ∨ v = x_vl b p0 ∧ 0 ≤ v ∧ v ≤ 99) ∧ p0 ≤ g ∧ g ≤ p ∧ p ≤ s ∧ (k = 0 ∨ g < p)) : g = x_fr b p0 ∧ k = x_kd b p0 ∧ k ≠ 4 ∧ 0 ≤ k ∧ k ≤ 3 ∧ p = x_en b p0 ∧ p0 ≤ g ∧ g ≤ p ∧ p ≤ s := ⟨h2.1, h2.2.1, h2.2.2.1, h2.2.2.2.1, h2.2.2.2.2.1, h2.2.2.2.2.2.1, h2.2.2.2.2.2.2.2.1, h2.2.2.2.2.2.2.2.2.1, h2.2.2.2.2.2.2.2.2.2.1⟩
theorem nx_1 {b : Int → Int} {w f p q s u y m x a : Int} (h : w = 0 ∧ f = x_fr b p ∧ p ≤ f ∧ f ≤ q ∧ q ≤ s ∧ (u = 1 ∧ x_kd b p = 4 ∧ y = f ∨ u = 0 ∧ y = a ∧ m = x_kd b p ∧ m ≠ 4 ∧ 0 ≤ m ∧ m ≤ 3 ∧ q = x_en b p ∧ (m ≠ 2 ∨ x = x_vl b p ∧ 0 ≤ x ∧ x ≤ 99) ∧ (m = 0 ∨ f < q))) (hu : u ≠ 0) : w = 0 ∧ f = x_fr b p ∧ p ≤ f ∧ f ≤ q ∧ q ≤ s ∧ u = 1 ∧ x_kd b p = 4 ∧ y = f := by
  obtain ⟨h1, h2, h3, h4, h5, h6⟩ := h
  exact ⟨h1, h2, h3, h4, h5, h6.resolve_right (fun n => hu n.1)⟩
theorem nx_0 {b : Int → Int} {w f p q s u y m x a : Int} (h : w = 0 ∧ f = x_fr b p ∧ p ≤ f ∧ f ≤ q ∧ q ≤ s ∧ (u = 1 ∧ x_kd b p = 4 ∧ y = f ∨ u = 0 ∧ y = a ∧ m = x_kd b p ∧ m ≠ 4 ∧ 0 ≤ m ∧ m ≤ 3 ∧ q = x_en b p ∧ (m ≠ 2 ∨ x = x_vl b p ∧ 0 ≤ x ∧ x ≤ 99) ∧ (m = 0 ∨ f < q))) (hu : u = 0) : w = 0 ∧ f = x_fr b p ∧ p ≤ f ∧ f ≤ q ∧ q ≤ s ∧ u = 0 ∧ y = a ∧ m = x_kd b p ∧ m ≠ 4 ∧ 0 ≤ m ∧ m ≤ 3 ∧ q = x_en b p ∧ (m ≠ 2 ∨ x = x_vl b p ∧ 0 ≤ x ∧ x ≤ 99) ∧ (m = 0 ∨ f < q) := by
  obtain ⟨h1, h2, h3, h4, h5, h6⟩ := h
  exact ⟨h1, h2, h3, h4, h5, h6.resolve_left (fun n => by (first | decide +kernel | omega))⟩
theorem nx_e {b : Int → Int} {w f p q s u y m x a e : Int} (h : w = 0 ∧ f = x_fr b p ∧ p ≤ f ∧ f ≤ q ∧ q ≤ s ∧ (u = 1 ∧ x_kd b p = 4 ∧ y = f ∨ u = 0 ∧ y = a ∧ m = x_kd b p ∧ m ≠ 4 ∧ 0 ≤ m ∧ m ≤ 3 ∧ q = x_en b p ∧ (m ≠ 2 ∨ x = x_vl b p ∧ 0 ≤ x ∧ x ≤ 99) ∧ (m = 0 ∨ f < q))) (hp : p = e) : u = 1 ∧ x_kd b e = 4 ∧ y = x_fr b e ∨ u = 0 ∧ f = x_fr b e ∧ m = x_kd b e ∧ m ≠ 4 ∧ 0 ≤ m ∧ m ≤ 3 ∧ q = x_en b e ∧ (m ≠ 2 ∨ x = x_vl b e ∧ 0 ≤ x ∧ x ≤ 99) ∧ e ≤ f ∧ f ≤ q ∧ q ≤ s ∧ (m = 0 ∨ f < q) := by
  subst hp
  obtain ⟨h1, h2, h3, h4, h5, ⟨r1, r2, r3⟩ | ⟨r1, r2, r3, r4, r5, r6, r7, r8, r9⟩⟩ := h
  · exact Or.inl ⟨r1, r2, r3.trans h2⟩
  · exact Or.inr ⟨r1, h2, r3, r4, r5, r6, r7, r8, h3, h4, h5, r9⟩
theorem lx_of {b : Int → Int} {w f p q s u y m x a e : Int} (h : w = 0 ∧ f = x_fr b p ∧ p ≤ f ∧ f ≤ q ∧ q ≤ s ∧ u = 0 ∧ y = a ∧ m = x_kd b p ∧ m ≠ 4 ∧ 0 ≤ m ∧ m ≤ 3 ∧ q = x_en b p ∧ (m ≠ 2 ∨ x = x_vl b p ∧ 0 ≤ x ∧ x ≤ 99) ∧ (m = 0 ∨ f < q)) (hp : p = e) : f = x_fr b e ∧ m = x_kd b e ∧ m ≠ 4 ∧ 0 ≤ m ∧ m ≤ 3 ∧ q = x_en b e ∧ (m ≠ 2 ∨ x = x_vl b e ∧ 0 ≤ x ∧ x ≤ 99) ∧ e ≤ f ∧ f ≤ q ∧ q ≤ s ∧ (m = 0 ∨ f < q) := by
  subst hp
  obtain ⟨h1, h2, h3, h4, h5, r1, r2, r3, r4, r5, r6, r7, r8, r9⟩ := h
  exact ⟨h2, r3, r4, r5, r6, r7, r8, h3, h4, h5, r9⟩
theorem cH_1 {b : Int → Int} {T : Nat → Int → Int} {n p : Int} (k : x_kd b p = 4) : x_cH b T n p = 1 := by
  rcases x_cH_s b T n p with ⟨_, q⟩ | ⟨q, _⟩ | ⟨q, _⟩ | ⟨q, _⟩ | ⟨q, _⟩ | ⟨q, _⟩
  · exact q
  · exact absurd k q
  · omega
  · omega
  · omega
  · omega
theorem cH_2 {b : Int → Int} {T : Nat → Int → Int} {n p : Int} (k : x_kd b p ≠ 4) (l : x_kd b p ≠ 1 ∨ x_li b p = -1) : x_cH b T n p = 2 := by
  rcases x_cH_s b T n p with ⟨q, _⟩ | ⟨_, _, q⟩ | ⟨_, _, q⟩ | ⟨q, q2, _⟩ | ⟨q, q2, _⟩ | ⟨q, q2, _⟩
  · exact absurd q k
  · exact q
  · exact q
  · rcases l with l | l
    · exact absurd q l
    · exact absurd l q2
  · rcases l with l | l
    · exact absurd q l
    · omega
  · rcases l with l | l
    · exact absurd q l
    · exact absurd l q2
theorem cH_4 {b : Int → Int} {T : Nat → Int → Int} {n p : Int} (k : x_kd b p = 1) (l : x_li b p ≠ -1) (a : x_li b p = 0 ∧ T 0 0 ≠ 0 ∨ x_li b p = 6 ∧ T 6 0 ≠ 0 ∨ x_li b p = 7 ∧ T 7 0 ≠ 0 ∨ x_li b p = 8 ∧ T 8 0 ≠ 0) : x_cH b T n p = 4 := by
  rcases x_cH_s b T n p with ⟨q, _⟩ | ⟨_, q, _⟩ | ⟨_, q, _⟩ | ⟨_, _, _, q⟩ | ⟨_, q, _⟩ | ⟨_, _, q, _⟩
  · omega
  · exact absurd k q
  · exact absurd q l
  · exact q
  · omega
  · exact absurd a q
theorem cH_5 {b : Int → Int} {T : Nat → Int → Int} {n p : Int} (k : x_kd b p = 1) (l : x_li b p = 9) (c : 8 ≤ n) : x_cH b T n p = 5 := by
  rcases x_cH_s b T n p with ⟨q, _⟩ | ⟨_, q, _⟩ | ⟨_, q, _⟩ | ⟨_, _, q, _⟩ | ⟨_, _, _, q⟩ | ⟨_, _, _, q, _⟩
  · omega
  · exact absurd k q
  · omega
  · omega
  · exact q
  · exact absurd ⟨l, c⟩ q
