def mof (k i d : Nat) : Prop := k = 119 ∧ i < 144 ∧ d = i ∨ k = 116 ∧ 7 ≤ i ∧ i ≤ 10 ∧ d = 137 + i
def RMd (h : Hp) (D : Nat → Int) : Prop := ∀ k i d : Nat, mof k i d → (h.1 k i).toInt = D d
def RMa (h : Hp) (T : Nat → Int → Int) : Prop := ∀ l : Nat, 1 ≤ l → l ≤ 5 → x_TB (h.1 120 (l - 1)) (T l)
def x_told (T : Nat → Int → Int) (c : Int) : Int := if c = 0 then T 0 0 else if c = 1 then T 6 0 else if c = 2 then T 7 0 else if c = 3 then T 8 0 else 0
def RMb (h : Hp) (T : Nat → Int → Int) : Prop := x_TB (h.1 116 11) (x_told T)
/-- the highest CELL that was told of -/
def x_HI (H : Int) (T : Nat → Int → Int) : Prop := (H = -4 ∨ 0 ≤ H ∧ H ≤ 15 ∧ ∃ l : Nat, 1 ≤ l ∧ l ≤ 4 ∧ T l H ≠ 0) ∧ (∀ (l : Nat) (c : Int), 1 ≤ l → l ≤ 4 → 0 ≤ c → c ≤ 15 → T l c ≠ 0 → c ≤ H)
def RM (h : Hp) (T : Nat → Int → Int) (D : Nat → Int) : Prop := RMa h T ∧ RMb h T ∧ x_HI (h.1 116 13).toInt T ∧ RMd h D
def rmS (S : List (Nat × Option Nat)) : Bool := S.all (fun q => decide (q.1 ≠ 119 ∧ q.1 ≠ 120) && (decide (q.1 ≠ 116) || (match q.2 with | none => false | some j => decide (j < 7 ∨ j = 12 ∨ 13 < j))))
theorem rmS_no {S : List (Nat × Option Nat)} (hc : rmS S = true) {k i : Nat} (hk : k = 119 ∨ k = 120 ∨ k = 116 ∧ 7 ≤ i ∧ i ≤ 13 ∧ i ≠ 12) : inS S k i = false := by
  unfold inS
  rw [List.any_eq_false]
  intro q hq e
  have h1 := List.all_eq_true.mp hc q hq
  rw [Bool.and_eq_true, Bool.or_eq_true] at h1
  rw [Bool.and_eq_true] at e
  have e2 : q.1 = k := eq_of_beq e.1
  have h2 := of_decide_eq_true h1.1
  rcases hk with rfl | rfl | hk
  · omega
  · omega
  · rcases h1.2 with h3 | h3
    · have := of_decide_eq_true h3; omega
    · have e3 := e.2
      cases hz : q.2 with
      | none => rw [hz] at h3; cases h3
      | some j =>
        rw [hz] at h3 e3
        have h4 := of_decide_eq_true h3
        have h5 : j = i := eq_of_beq e3
        omega
theorem RM_at {h h' : Hp} {T : Nat → Int → Int} {D : Nat → Int} (e : ∀ k i : Nat, (k = 119 ∨ k = 120 ∨ k = 116 ∧ 7 ≤ i ∧ i ≤ 13 ∧ i ≠ 12) → h'.1 k i = h.1 k i) (r : RM h T D) : RM h' T D := by
  obtain ⟨r1, r2, r3, r4⟩ := r
  refine ⟨fun l h1 h2 => ?_, ?_, ?_, fun k i d hd => ?_⟩
  · rw [e 120 (l - 1) (by (first | decide +kernel | omega))]; exact r1 l h1 h2
  · unfold RMb; rw [e 116 11 (by (first | decide +kernel | omega))]; exact r2
  · rw [e 116 13 (by (first | decide +kernel | omega))]; exact r3
  · rw [e k i (by unfold mof at hd; omega)]; exact r4 k i d hd
theorem RM_fr {S : List (Nat × Option Nat)} {h h' : Hp} {T : Nat → Int → Int} {D : Nat → Int} (f : fr S h h') (hc : rmS S = true) (r : RM h T D) : RM h' T D := RM_at (fun k i hk => f.1 k i (rmS_no hc hk)) r
theorem RM_ne {h h' : Hp} {k i : Nat} {x : Int32} {T : Nat → Int → Int} {D : Nat → Int} (e : h' = pI h k i x) (hk : ¬ (k = 119 ∨ k = 120 ∨ k = 116 ∧ 7 ≤ i ∧ i ≤ 13 ∧ i ≠ 12)) (r : RM h T D) : RM h' T D := RM_at (fun k' i' h2 => by
  by_cases c : k' = k
  · subst c
    exact kn_nei e rfl (fun c2 => by subst c2; exact hk h2)
  · exact kn_ne e rfl c) r
theorem RM_put {h h' : Hp} {T : Nat → Int → Int} {D : Nat → Int} {k i d : Nat} {x : Int32} {v dZ : Int} (r : RM h T D) (e : h' = pI h k i x) (hd : mof k i d) (hx : x.toInt = v) (hz : dZ = (d : Int)) : RM h' T (x_up D dZ v) := by
  obtain ⟨r1, r2, r3, r4⟩ := r
  have hk : k = 119 ∨ k = 116 ∧ 7 ≤ i ∧ i ≤ 10 := by unfold mof at hd; omega
  refine ⟨fun l h1 h2 => ?_, ?_, ?_, fun k' i' d' hd' => ?_⟩
  · rw [kn_ne e rfl (show 120 ≠ k by (first | decide +kernel | omega))]; exact r1 l h1 h2
  · unfold RMb
    have : h'.1 116 11 = h.1 116 11 := by
      rcases hk with rfl | ⟨rfl, h1⟩
      · exact kn_ne e rfl (by decide)
      · exact kn_nei e rfl (by (first | decide +kernel | omega))
    rw [this]; exact r2
  · have : h'.1 116 13 = h.1 116 13 := by
      rcases hk with rfl | ⟨rfl, h1⟩
      · exact kn_ne e rfl (by decide)
      · exact kn_nei e rfl (by (first | decide +kernel | omega))
    rw [this]; exact r3
  · subst hz
    unfold x_up
    by_cases q : k' = k ∧ i' = i
    · obtain ⟨rfl, rfl⟩ := q
      have : d' = d := by unfold mof at hd hd'; omega
      subst this
      rw [if_pos rfl, kn_put e]
      exact hx
    · have hne : d' ≠ d := fun c => q (by unfold mof at hd hd'; omega)
      rw [if_neg (by (first | decide +kernel | omega))]
      have hh : h'.1 k' i' = h.1 k' i' := by
        by_cases c : k' = k
        · subst c
          exact kn_nei e rfl (fun c2 => q ⟨rfl, c2⟩)
        · exact kn_ne e rfl c
      rw [hh]
      exact r4 k' i' d' hd'
theorem x_upT_y {T : Nat → Int → Int} {l c : Int} {i : Nat} {j : Int} (h : (i : Int) = l ∧ j = c) : x_upT T l c i j = 1 := if_pos h
theorem x_HI_up {H Y C : Int} {T : Nat → Int → Int} {l : Nat} (hl : 1 ≤ l ∧ l ≤ 4) (hC : 0 ≤ C ∧ C ≤ 15) (r : x_HI H T) (hY : H < C ∧ Y = C ∨ C ≤ H ∧ Y = H) : x_HI Y (x_upT T (l : Int) C) := by
  obtain ⟨r1, r2⟩ := r
  refine ⟨?_, fun m c h1 h2 h3 h4 h5 => ?_⟩
  · rcases hY with ⟨h1, rfl⟩ | ⟨h1, rfl⟩
    · exact Or.inr ⟨hC.1, hC.2, l, hl.1, hl.2, by rw [x_upT_y ⟨rfl, rfl⟩]; decide⟩
    · rcases r1 with q | ⟨q1, q2, m, q3, q4, q5⟩
      · omega
      · refine Or.inr ⟨q1, q2, m, q3, q4, ?_⟩
        unfold x_upT
        split
        · decide
        · exact q5
  · clear r1
    by_cases q : (m : Int) = (l : Int) ∧ c = C
    · omega
    · unfold x_upT at h5
      rw [if_neg q] at h5
      have := r2 m c h1 h2 h3 h4 h5
      omega
theorem x_HI_five {H C : Int} {T : Nat → Int → Int} {lZ : Int} (hl : lZ < 1 ∨ 4 < lZ) (r : x_HI H T) : x_HI H (x_upT T lZ C) := by
  obtain ⟨r1, r2⟩ := r
  refine ⟨?_, fun m c h1 h2 h3 h4 h5 => ?_⟩
  · rcases r1 with q | ⟨q1, q2, m, q3, q4, q5⟩
    · exact Or.inl q
    · exact Or.inr ⟨q1, q2, m, q3, q4, by rw [x_upT_ne (by (first | decide +kernel | omega))]; exact q5⟩
  · clear r1
    rw [x_upT_ne (by (first | decide +kernel | omega))] at h5
    exact r2 m c h1 h2 h3 h4 h5
theorem x_told_ne {T : Nat → Int → Int} {lZ C : Int} (hl : 1 ≤ lZ ∧ lZ ≤ 5 ∨ 9 ≤ lZ) (c : Int) : x_told (x_upT T lZ C) c = x_told T c := by
  unfold x_told
  rw [x_upT_ne (by (first | decide +kernel | omega)), x_upT_ne (by (first | decide +kernel | omega)), x_upT_ne (by (first | decide +kernel | omega)), x_upT_ne (by (first | decide +kernel | omega))]
theorem RMa_one {h h' : Hp} {T : Nat → Int → Int} {l : Nat} {x y z a : Int32} {A lZ : Int} (r : RMa h T) (hl : 1 ≤ l ∧ l ≤ 5) (e : h' = pI h 120 (l - 1) x) (zK : h.1 120 (l - 1) = z) (ha : 0 ≤ A ∧ A ≤ 15) (pa : a.toInt = A) (e2 : x = z ||| y) (e1 : y = (1 : Int32) <<< (a &&& 31)) (hz : lZ = (l : Int)) : RMa h' (x_upT T lZ A) := by
  subst hz
  intro m h1 h2
  by_cases q : m = l
  · subst q
    rw [kn_put e]
    have g := r m h1 h2
    rw [zK] at g
    have g2 := x_TB_set g ha pa (e2.trans (by rw [e1]))
    refine x_TB_cg (fun c => ?_) g2
    show _ = (if c = A then (1 : Int) else T m c)
    unfold x_upT
    by_cases qc : c = A
    · rw [if_pos qc, if_pos ⟨rfl, qc⟩]
    · rw [if_neg qc, if_neg (fun w => qc w.2)]
  · rw [kn_nei e rfl (show m - 1 ≠ l - 1 by (first | decide +kernel | omega))]
    exact x_TB_cg (fun c => x_upT_ne (by (first | decide +kernel | omega)) c) (r m h1 h2)
/-- a CELL or an OWNER is told of: two cells change -/
theorem RM_fresh {h h1 h2 : Hp} {T : Nat → Int → Int} {D : Nat → Int} {l : Nat} {x y z a w : Int32} {A lZ H Y : Int} (r : RM h T D) (hl : 1 ≤ l ∧ l ≤ 5) (e : h1 = pI h 120 (l - 1) x) (zK : h.1 120 (l - 1) = z) (ha : 0 ≤ A ∧ A ≤ 15) (pa : a.toInt = A) (e2 : x = z ||| y) (e1 : y = (1 : Int32) <<< (a &&& 31)) (hz : lZ = (l : Int)) (f : h2 = pI h1 116 13 w) (wE : w.toInt = Y) (hH : (h.1 116 13).toInt = H) (hY : l ≤ 4 ∧ (H < A ∧ Y = A ∨ A ≤ H ∧ Y = H) ∨ l = 5 ∧ Y = H) : RM h2 (x_upT T lZ A) D := by
  obtain ⟨r1, r2, r3, r4⟩ := r
  have q1 := RMa_one r1 hl e zK ha pa e2 e1 hz
  refine ⟨fun m h1 h2 => ?_, ?_, ?_, fun k i d hd => ?_⟩
  · rw [kn_ne f rfl (by decide)]; exact q1 m h1 h2
  · unfold RMb
    rw [kn_nei f rfl (by decide), kn_ne e rfl (by decide)]
    exact x_TB_cg (fun c => x_told_ne (by (first | decide +kernel | omega)) c) r2
  · rw [kn_put f, wE]
    rw [hH] at r3
    rcases hY with ⟨h1, h2⟩ | ⟨h1, h2⟩
    · rw [hz]; exact x_HI_up ⟨hl.1, h1⟩ ha r3 h2
    · rw [h2]; exact x_HI_five (by (first | decide +kernel | omega)) r3
  · have : h2.1 k i = h.1 k i := by
      have h5 : k = 119 ∨ k = 116 ∧ i ≤ 10 := by unfold mof at hd; omega
      rcases h5 with rfl | ⟨rfl, h6⟩
      · rw [kn_ne f rfl (by decide)]; exact kn_ne e rfl (by decide)
      · rw [kn_nei f rfl (by (first | decide +kernel | omega))]; exact kn_ne e rfl (by decide)
    rw [this]
    exact r4 k i d hd
/-- a line that may stand once -/
theorem RM_once {h h' : Hp} {T : Nat → Int → Int} {D : Nat → Int} {x y z a : Int32} {A lZ : Int} (r : RM h T D) (e : h' = pI h 116 11 x) (zK : h.1 116 11 = z) (pa : a.toInt = A) (e2 : x = z ||| y) (e1 : y = (1 : Int32) <<< (a &&& 31)) (hl : A = 0 ∧ lZ = 0 ∨ A = 1 ∧ lZ = 6 ∨ A = 2 ∧ lZ = 7 ∨ A = 3 ∧ lZ = 8) : RM h' (x_upT T lZ 0) D := by
  obtain ⟨r1, r2, r3, r4⟩ := r
  refine ⟨fun m h1 h2 => ?_, ?_, ?_, fun k i d hd => ?_⟩
  · rw [kn_ne e rfl (by decide)]
    exact x_TB_cg (fun c => x_upT_ne (by (first | decide +kernel | omega)) c) (r1 m h1 h2)
  · unfold RMb
    rw [kn_put e]
    unfold RMb at r2
    rw [zK] at r2
    have g2 := x_TB_set r2 (by (first | decide +kernel | omega)) pa (e2.trans (by rw [e1]))
    refine x_TB_cg (fun c => ?_) g2
    show _ = (if c = A then (1 : Int) else x_told T c)
    rcases hl with ⟨rfl, rfl⟩ | ⟨rfl, rfl⟩ | ⟨rfl, rfl⟩ | ⟨rfl, rfl⟩
    all_goals
      unfold x_told x_upT
      repeat' split
      all_goals first | rfl | omega
  · rw [kn_nei e rfl (by decide)]
    exact x_HI_five (by (first | decide +kernel | omega)) r3
  · have : h'.1 k i = h.1 k i := by
      have h5 : k = 119 ∨ k = 116 ∧ i ≤ 10 := by unfold mof at hd; omega
      rcases h5 with rfl | ⟨rfl, h6⟩
      · exact kn_ne e rfl (by decide)
      · exact kn_nei e rfl (by (first | decide +kernel | omega))
    rw [this]
    exact r4 k i d hd
theorem RM_nine {h : Hp} {T : Nat → Int → Int} {D : Nat → Int} (r : RM h T D) : RM h (x_upT T 9 0) D := by
  obtain ⟨r1, r2, r3, r4⟩ := r
  refine ⟨fun m h1 h2 => ?_, ?_, x_HI_five (by (first | decide +kernel | omega)) r3, r4⟩
  · exact x_TB_cg (fun c => x_upT_ne (by (first | decide +kernel | omega)) c) (r1 m h1 h2)
  · exact x_TB_cg (fun c => x_told_ne (by (first | decide +kernel | omega)) c) r2
theorem RM_many {h : Hp} {T : Nat → Int → Int} {D : Nat → Int} (r : RM h T D) {d : Int32} {dZ : Int} (dK : h.1 119 86 = d) (dE : d.toInt = dZ) : dZ = D 86 := by
  have := r.2.2.2 119 86 86 (Or.inl ⟨rfl, by decide, rfl⟩)
  rw [dK, dE] at this
  exact this
theorem RM_had {h : Hp} {T : Nat → Int → Int} {D : Nat → Int} (r : RM h T D) {l : Nat} (h1 : 1 ≤ l) (h2 : l ≤ 5) {z : Int32} (zK : h.1 120 (l - 1) = z) : x_TB z (T l) := by
  have := r.1 l h1 h2
  rw [zK] at this
  exact this
theorem RM_told {h : Hp} {T : Nat → Int → Int} {D : Nat → Int} (r : RM h T D) {z : Int32} (zK : h.1 116 11 = z) : x_TB z (x_told T) := by
  have := r.2.1
  unfold RMb at this
  rw [zK] at this
  exact this
