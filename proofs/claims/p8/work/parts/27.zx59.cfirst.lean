def fll (h : Hp) (k : Nat) (v : Int32) (m : Int) : Prop := ∀ j : Nat, (j : Int) < m → h.1 k j = v
theorem fll_0 {h : Hp} {k : Nat} {v : Int32} : fll h k v 0 := fun j hj => by (first | decide +kernel | omega)
theorem fll_s {h h' : Hp} {k : Nat} {v : Int32} {m : Int} (r : fll h k v m) (h0 : 0 ≤ m) (e : h' = pI h k m.toNat v) : fll h' k v (m + 1) := fun j hj => by
  by_cases q : j = m.toNat
  · rw [q, kn_put e]
  · rw [kn_nei e rfl q]; exact r j (by (first | decide +kernel | omega))
theorem fll_le {h : Hp} {k : Nat} {v : Int32} {m n : Int} (r : fll h k v m) (hn : n ≤ m) : fll h k v n := fun j hj => r j (by (first | decide +kernel | omega))
theorem fll_fr {S : List (Nat × Option Nat)} {h h' : Hp} {k : Nat} {v : Int32} {m : Int} (f : fr S h h') (hk : ∀ i : Nat, inS S k i = false) (r : fll h k v m) : fll h' k v m := fun j hj => by rw [f.1 k j (hk j)]; exact r j hj
theorem fll_ne {h h' : Hp} {k k' i : Nat} {v x : Int32} {m : Int} (e : h' = pI h k' i x) (hk : k ≠ k') (r : fll h k v m) : fll h' k v m := fun j hj => by rw [kn_ne e rfl hk]; exact r j hj
/-- the draft's land as it begins -/
def LR (h : Hp) : Prop := h.1 69 0 = 3 ∧ h.1 69 1 = 3 ∧ h.1 69 2 = 1 ∧ h.1 69 3 = 10 ∧ fll h 70 0 16 ∧ fll h 71 0 16 ∧ fll h 72 5 16 ∧ fll h 73 (-4) 16 ∧ fll h 74 0 16
def lrS (S : List (Nat × Option Nat)) : Bool := S.all (fun q => decide (q.1 < 69 ∨ 74 < q.1))
theorem lrS_no {S : List (Nat × Option Nat)} (hc : lrS S = true) {k i : Nat} (hk : 69 ≤ k ∧ k ≤ 74) : inS S k i = false := by
  unfold inS
  rw [List.any_eq_false]
  intro q hq e
  have := of_decide_eq_true (List.all_eq_true.mp hc q hq)
  rw [Bool.and_eq_true] at e
  have e2 : q.1 = k := eq_of_beq e.1
  omega
theorem LR_at {h h' : Hp} (e : ∀ k i : Nat, 69 ≤ k ∧ k ≤ 74 → h'.1 k i = h.1 k i) (r : LR h) : LR h' := by
  obtain ⟨r1, r2, r3, r4, r5, r6, r7, r8, r9⟩ := r
  refine ⟨?_, ?_, ?_, ?_, fun j hj => ?_, fun j hj => ?_, fun j hj => ?_, fun j hj => ?_, fun j hj => ?_⟩
  · rw [e _ _ (by (first | decide +kernel | omega))]; exact r1
  · rw [e _ _ (by (first | decide +kernel | omega))]; exact r2
  · rw [e _ _ (by (first | decide +kernel | omega))]; exact r3
  · rw [e _ _ (by (first | decide +kernel | omega))]; exact r4
  · rw [e _ _ (by (first | decide +kernel | omega))]; exact r5 j hj
  · rw [e _ _ (by (first | decide +kernel | omega))]; exact r6 j hj
  · rw [e _ _ (by (first | decide +kernel | omega))]; exact r7 j hj
  · rw [e _ _ (by (first | decide +kernel | omega))]; exact r8 j hj
  · rw [e _ _ (by (first | decide +kernel | omega))]; exact r9 j hj
theorem LR_fr {S : List (Nat × Option Nat)} {h h' : Hp} (f : fr S h h') (hc : lrS S = true) (r : LR h) : LR h' := LR_at (fun k i hk => f.1 k i (lrS_no hc hk)) r
theorem LR_ne {h h' : Hp} {k i : Nat} {x : Int32} (e : h' = pI h k i x) (hk : k < 69 ∨ 74 < k) (r : LR h) : LR h' := LR_at (fun k' i' h2 => kn_ne e rfl (by (first | decide +kernel | omega))) r
theorem RCd_first {h : Hp} (r : LR h) (p : fll h 76 0 4) (d : h.1 75 4 = 0) (s : h.1 80 4 = 0) (n : h.1 68 3 = 0) (c : h.1 68 4 = 9) : RCd h x_D0 := by
  obtain ⟨r1, r2, r3, r4, r5, r6, r7, r8, r9⟩ := r
  intro k i q hd
  rcases dof_e hd with ⟨w, e⟩ | ⟨w, e⟩ | ⟨w, e⟩ | ⟨w, e⟩ | ⟨w, e⟩ | ⟨w, e⟩ | ⟨w, e⟩ | ⟨w, e⟩ | ⟨w, e⟩ | ⟨w, e⟩ | ⟨w, e⟩
  · rw [e, w.1, r5 i (by (first | decide +kernel | omega))]; unfold x_D0; rw [if_neg (by (first | decide +kernel | omega)), if_neg (by (first | decide +kernel | omega)), if_neg (by (first | decide +kernel | omega)), if_neg (by (first | decide +kernel | omega)), if_neg (by (first | decide +kernel | omega)), if_neg (by (first | decide +kernel | omega))]; rfl
  · rw [e, w.1, r6 i (by (first | decide +kernel | omega))]; unfold x_D0; rw [if_neg (by (first | decide +kernel | omega)), if_neg (by (first | decide +kernel | omega)), if_neg (by (first | decide +kernel | omega)), if_neg (by (first | decide +kernel | omega)), if_neg (by (first | decide +kernel | omega)), if_neg (by (first | decide +kernel | omega))]; rfl
  · rw [e, w.1, r7 i (by (first | decide +kernel | omega))]; unfold x_D0; rw [if_pos (by (first | decide +kernel | omega))]; rfl
  · rw [e, w.1, r8 i (by (first | decide +kernel | omega))]; unfold x_D0; rw [if_neg (by (first | decide +kernel | omega)), if_pos (by (first | decide +kernel | omega))]; rfl
  · rw [e, w.1, r9 i (by (first | decide +kernel | omega))]; unfold x_D0; rw [if_neg (by (first | decide +kernel | omega)), if_neg (by (first | decide +kernel | omega)), if_neg (by (first | decide +kernel | omega)), if_neg (by (first | decide +kernel | omega)), if_neg (by (first | decide +kernel | omega)), if_neg (by (first | decide +kernel | omega))]; rfl
  · rw [e, w.1, p i (by (first | decide +kernel | omega))]; unfold x_D0; rw [if_neg (by (first | decide +kernel | omega)), if_neg (by (first | decide +kernel | omega)), if_neg (by (first | decide +kernel | omega)), if_neg (by (first | decide +kernel | omega)), if_neg (by (first | decide +kernel | omega)), if_neg (by (first | decide +kernel | omega))]; rfl
  · rw [e, w.1, w.2, n]; rfl
  · rw [e, w.1, w.2, c]; rfl
  · rw [e, w.1, w.2, d]; rfl
  · rw [e, w.1, w.2, s]; rfl
  · rcases (by (first | decide +kernel | omega) : i = 0 ∨ i = 1 ∨ i = 2 ∨ i = 3) with rfl | rfl | rfl | rfl
    · rw [e, w.1, r1]; rfl
    · rw [e, w.1, r2]; rfl
    · rw [e, w.1, r3]; rfl
    · rw [e, w.1, r4]; rfl
def rdS (S : List (Nat × Option Nat)) : Bool := S.all (fun q => decide (q.1 < 68 ∨ 80 < q.1))
theorem RCd_fr {S : List (Nat × Option Nat)} {h h' : Hp} {D : Nat → Int} (f : fr S h h') (hc : rdS S = true) (r : RCd h D) : RCd h' D := fun k i d hd => by
  have hb := dof_k hd
  have : inS S k i = false := by
    unfold inS
    rw [List.any_eq_false]
    intro q hq e
    have := of_decide_eq_true (List.all_eq_true.mp hc q hq)
    rw [Bool.and_eq_true] at e
    have e2 : q.1 = k := eq_of_beq e.1
    omega
  rw [f.1 k i this]
  exact r k i d hd
theorem RC_first {h : Hp} (r : RCd h x_D0) (t : fll h 92 0 10) : RC h x_T0 x_D0 := by
  refine ⟨⟨fun l h1 h2 => ?_, fun l hl => ?_⟩, r, fun i hi => ?_⟩
  · rw [t l (by (first | decide +kernel | omega))]; exact x_TB_0
  · rw [t l (by (first | decide +kernel | omega))]; exact Or.inl ⟨rfl, rfl⟩
  · have : x_D0 86 = 0 := by unfold x_D0; decide
    omega
theorem RC_ne {h h' : Hp} {k i : Nat} {x : Int32} {T : Nat → Int → Int} {D : Nat → Int} (e : h' = pI h k i x) (hk : k ≠ 92 ∧ (k < 68 ∨ 80 < k)) (r : RC h T D) : RC h' T D := ⟨RCt_ne r.1 e hk.1, RCd_ne r.2.1 e (by (first | decide +kernel | omega)), RCb_ne r.2.2 e (by (first | decide +kernel | omega))⟩
theorem all_bits : ∀ W : Nat, W < 17 → ∀ i : Nat, i < 32 → (((1 : Int32) <<< (Int32.ofInt (W : Int) &&& 31)) - 1).toBitVec.getLsbD i = decide (i < W) := by decide +kernel
theorem m1_bits (i : Nat) (h : i < 32) : (-1 : Int32).toBitVec.getLsbD i = true := by
  have : ∀ i : Nat, i < 32 → (-1 : Int32).toBitVec.getLsbD i = true := by decide +kernel
  exact this i h
theorem x_bt_1 {z : Int32} {t : Int → Int} {n : Nat} (r : x_TB z t) (hn : n < 16) : (z.toBitVec.getLsbD n = true ↔ t n ≠ 0) := by
  have h := r.1 n (by (first | decide +kernel | omega)) (by (first | decide +kernel | omega))
  rw [x_bt_get z hn] at h
  cases hz : z.toBitVec.getLsbD n with
  | true => rw [hz, if_pos rfl] at h; rw [← h]; simp
  | false => rw [hz, if_neg (by decide)] at h; rw [← h]; simp
theorem bey_bits {t1 t2 t3 t4 c12 c123 cs a n y w : Int32} {T : Nat → Int → Int} {W Y : Int} (r1 : x_TB t1 (T 1)) (r2 : x_TB t2 (T 2)) (r3 : x_TB t3 (T 3)) (r4 : x_TB t4 (T 4)) (e1 : c12 = t1 ||| t2) (e2 : c123 = c12 ||| t3) (e3 : cs = c123 ||| t4) (hw : w.toInt = W) (hW : 4 ≤ W ∧ W ≤ 16) (ea : a = ((1 : Int32) <<< (w &&& 31)) - 1) (en : n = a ^^^ -1) (ey : y = cs &&& n) (py : y.toInt = Y) : Y ≠ 0 ∧ x_by T W ∨ Y = 0 ∧ ¬ x_by T W := by
  obtain ⟨m, rfl⟩ := Int.eq_ofNat_of_zero_le (show 0 ≤ W by (first | decide +kernel | omega))
  have hwm : w = Int32.ofInt (m : Int) := by rw [← hw, Int32.ofInt_toInt]
  have hcs : ∀ i : Nat, cs.toBitVec.getLsbD i = (((t1.toBitVec.getLsbD i || t2.toBitVec.getLsbD i) || t3.toBitVec.getLsbD i) || t4.toBitVec.getLsbD i) := fun i => by
    rw [e3, e2, e1, Int32.toBitVec_or, Int32.toBitVec_or, Int32.toBitVec_or, BitVec.getLsbD_or, BitVec.getLsbD_or, BitVec.getLsbD_or]
  have hyb : ∀ i : Nat, i < 32 → y.toBitVec.getLsbD i = (cs.toBitVec.getLsbD i && !decide (i < m)) := fun i hi => by
    rw [ey, Int32.toBitVec_and, BitVec.getLsbD_and, en, Int32.toBitVec_xor, BitVec.getLsbD_xor, m1_bits i hi, ea, hwm, all_bits m (by (first | decide +kernel | omega)) i hi, Bool.xor_true]
  have hin : ∀ i : Nat, cs.toBitVec.getLsbD i = true → i < 16 ∧ ∃ l : Nat, 1 ≤ l ∧ l ≤ 4 ∧ T l (i : Int) ≠ 0 := fun i hi => by
    have h16 : i < 16 := by
      by_cases q : i < 16
      · exact q
      · rw [hcs, r1.2 i (by (first | decide +kernel | omega)), r2.2 i (by (first | decide +kernel | omega)), r3.2 i (by (first | decide +kernel | omega)), r4.2 i (by (first | decide +kernel | omega))] at hi
        cases hi
    refine ⟨h16, ?_⟩
    rw [hcs, Bool.or_eq_true, Bool.or_eq_true, Bool.or_eq_true] at hi
    rcases hi with ((q | q) | q) | q
    · exact ⟨1, by decide, by decide, (x_bt_1 r1 h16).mp q⟩
    · exact ⟨2, by decide, by decide, (x_bt_1 r2 h16).mp q⟩
    · exact ⟨3, by decide, by decide, (x_bt_1 r3 h16).mp q⟩
    · exact ⟨4, by decide, by decide, (x_bt_1 r4 h16).mp q⟩
  by_cases q : Y = 0
  · refine Or.inr ⟨q, fun w => ?_⟩
    have y0 : y = 0 := Int32.toInt_inj.mp ((py.trans q).trans rfl)
    obtain ⟨l, c, h1, h2, h3, h4, h5, h6⟩ := w
    obtain ⟨j, rfl⟩ := Int.eq_ofNat_of_zero_le h3
    have hj : j < 16 := by (first | decide +kernel | omega)
    have hc : cs.toBitVec.getLsbD j = true := by
      rw [hcs, Bool.or_eq_true, Bool.or_eq_true, Bool.or_eq_true]
      rcases (by (first | decide +kernel | omega) : l = 1 ∨ l = 2 ∨ l = 3 ∨ l = 4) with rfl | rfl | rfl | rfl
      · exact Or.inl (Or.inl (Or.inl ((x_bt_1 r1 hj).mpr h5)))
      · exact Or.inl (Or.inl (Or.inr ((x_bt_1 r2 hj).mpr h5)))
      · exact Or.inl (Or.inr ((x_bt_1 r3 hj).mpr h5))
      · exact Or.inr ((x_bt_1 r4 hj).mpr h5)
    have := hyb j (by (first | decide +kernel | omega))
    rw [hc, decide_eq_false (show ¬ j < m by (first | decide +kernel | omega)), y0] at this
    exact absurd this.symm (by rw [show (0 : Int32).toBitVec.getLsbD j = false from BitVec.getLsbD_zero]; decide)
  · refine Or.inl ⟨q, ?_⟩
    by_cases w : ∃ i : Nat, i < 32 ∧ y.toBitVec.getLsbD i = true
    · obtain ⟨i, hi, hb⟩ := w
      rw [hyb i hi, Bool.and_eq_true] at hb
      obtain ⟨h16, l, h1, h2, h3⟩ := hin i hb.1
      have : ¬ i < m := by simpa using hb.2
      exact ⟨l, i, h1, h2, by (first | decide +kernel | omega), by (first | decide +kernel | omega), h3, by (first | decide +kernel | omega)⟩
    · exfalso
      apply q
      have y0 : y.toBitVec = 0#32 := by
        apply BitVec.eq_of_getLsbD_eq
        intro i hi
        rw [BitVec.getLsbD_zero]
        cases hz : y.toBitVec.getLsbD i with
        | false => rfl
        | true => exact absurd ⟨i, hi, hz⟩ w
      rw [← py, ← Int32.toInt_toBitVec, y0]
      rfl
theorem rnF_b (P : Int → Bool) (b : Int → Int) : ∀ (k : Nat) (p : Int), p ≤ rnF P b k p ∧ rnF P b k p ≤ p + k := by
  intro k
  induction k with
  | zero => intro p; exact ⟨Int.le_refl p, by show p ≤ p + ((0 : Nat) : Int); omega⟩
  | succ k ih =>
    intro p
    show p ≤ (if P (b p) = true then rnF P b k (p + 1) else p) ∧ (if P (b p) = true then rnF P b k (p + 1) else p) ≤ p + ((k + 1 : Nat) : Int)
    split
    · have := ih (p + 1); omega
    · omega
theorem rn_b (P : Int → Bool) (b : Int → Int) {p : Int} (hp : 0 ≤ p) : p ≤ rn P b p ∧ rn P b p ≤ p + 161 := by
  have := rnF_b P b (161 - p).toNat p
  unfold rn
  omega
theorem x_fr_b (b : Int → Int) {p : Int} (hp : 0 ≤ p) : p ≤ x_fr b p ∧ x_fr b p ≤ p + 161 := rn_b blB b hp
theorem x_en_b (b : Int → Int) {p : Int} (hp : 0 ≤ p) : p ≤ x_en b p ∧ x_en b p ≤ p + 330 := by
  have h := x_fr_b b hp
  have h1 := rn_b leB b (p := x_fr b p) (by (first | decide +kernel | omega))
  have h2 := rn_b fiB b (p := x_fr b p) (by (first | decide +kernel | omega))
  unfold x_en
  split
  · omega
  · split
    · omega
    · split <;> omega
theorem x_sq_b {c w lo hi : Int} {r : Int × Int} (h : lo ≤ w ∧ w ≤ hi) (g : lo ≤ r.2 ∧ r.2 ≤ hi) : lo ≤ (x_sq c w r).2 ∧ (x_sq c w r).2 ≤ hi := by
  rcases x_sq_s c w r with q | q
  · omega
  · omega
theorem x_line_b (b : Int → Int) (T : Nat → Int → Int) (n : Int) {p : Int} (hp : 0 ≤ p) : 0 ≤ (x_line b T n p).2 ∧ (x_line b T n p).2 ≤ p + 3000 := by
  have f0 := x_fr_b b hp
  have e0 := x_en_b b hp
  have f1 := x_fr_b b (p := x_en b p) (by (first | decide +kernel | omega))
  have e1 := x_en_b b (p := x_en b p) (by (first | decide +kernel | omega))
  have f2 := x_fr_b b (p := x_en b (x_en b p)) (by (first | decide +kernel | omega))
  have e2 := x_en_b b (p := x_en b (x_en b p)) (by (first | decide +kernel | omega))
  have f3 := x_fr_b b (p := x_en b (x_en b (x_en b p))) (by (first | decide +kernel | omega))
  have e3 := x_en_b b (p := x_en b (x_en b (x_en b p))) (by (first | decide +kernel | omega))
  have f4 := x_fr_b b (p := x_en b (x_en b (x_en b (x_en b p)))) (by (first | decide +kernel | omega))
  have e4 := x_en_b b (p := x_en b (x_en b (x_en b (x_en b p)))) (by (first | decide +kernel | omega))
  unfold x_line
  refine x_sq_b (by (first | decide +kernel | omega)) ?_
  split
  · unfold x_l0; exact x_sq_b (by (first | decide +kernel | omega)) (x_sq_b (by (first | decide +kernel | omega)) (x_sq_b (by (first | decide +kernel | omega)) ⟨by show 0 ≤ x_en b _; omega, by show x_en b _ ≤ _; omega⟩))
  split
  · unfold x_l1; exact x_sq_b (by (first | decide +kernel | omega)) (x_sq_b (by (first | decide +kernel | omega)) (x_sq_b (by (first | decide +kernel | omega)) (x_sq_b (by (first | decide +kernel | omega)) ⟨by show 0 ≤ x_en b _; omega, by show x_en b _ ≤ _; omega⟩)))
  split
  · unfold x_l2; exact x_sq_b (by (first | decide +kernel | omega)) (x_sq_b (by (first | decide +kernel | omega)) (x_sq_b (by (first | decide +kernel | omega)) ⟨by show 0 ≤ x_en b _; omega, by show x_en b _ ≤ _; omega⟩))
  split
  · unfold x_l3; exact x_sq_b (by (first | decide +kernel | omega)) (x_sq_b (by (first | decide +kernel | omega)) (x_sq_b (by (first | decide +kernel | omega)) (x_sq_b (by (first | decide +kernel | omega)) ⟨by show 0 ≤ x_en b _; omega, by show x_en b _ ≤ _; omega⟩)))
  split
  · unfold x_l4; exact x_sq_b (by (first | decide +kernel | omega)) (x_sq_b (by (first | decide +kernel | omega)) (x_sq_b (by (first | decide +kernel | omega)) (x_sq_b (by (first | decide +kernel | omega)) ⟨by show 0 ≤ x_en b _; omega, by show x_en b _ ≤ _; omega⟩)))
  split
  · unfold x_l5; exact x_sq_b (by (first | decide +kernel | omega)) (x_sq_b (by (first | decide +kernel | omega)) (x_sq_b (by (first | decide +kernel | omega)) (x_sq_b (by (first | decide +kernel | omega)) ⟨by show 0 ≤ x_en b _; omega, by show x_en b _ ≤ _; omega⟩)))
  split
  · unfold x_l6; exact x_sq_b (by (first | decide +kernel | omega)) (x_sq_b (by (first | decide +kernel | omega)) ⟨by show 0 ≤ x_en b _; omega, by show x_en b _ ≤ _; omega⟩)
  split
  · unfold x_l7; exact x_sq_b (by (first | decide +kernel | omega)) (x_sq_b (by (first | decide +kernel | omega)) ⟨by show 0 ≤ x_en b _; omega, by show x_en b _ ≤ _; omega⟩)
  split
  · unfold x_l8; exact x_sq_b (by (first | decide +kernel | omega)) (x_sq_b (by (first | decide +kernel | omega)) (x_sq_b (by (first | decide +kernel | omega)) ⟨by show 0 ≤ x_en b _; omega, by show x_en b _ ≤ _; omega⟩))
  · unfold x_l9; exact x_sq_b (by (first | decide +kernel | omega)) (x_sq_b (by (first | decide +kernel | omega)) (x_sq_b (by (first | decide +kernel | omega)) (x_sq_b (by (first | decide +kernel | omega)) (x_sq_b (by (first | decide +kernel | omega)) ⟨by show 0 ≤ x_en b _; omega, by show x_en b _ ≤ _; omega⟩))))
/-- the class's loop over lines: m lines were told; the TOKEN that stands is that of cells k f u -/
def CIx (b : Int → Int) (h : Hp) (s m k f u : Int) : Prop := ∃ n : Nat, m = n ∧ x_ok b n ∧ RC h (x_st b n).1 (x_st b n).2.1 ∧ k = x_kd b (x_st b n).2.2 ∧ f = x_fr b (x_st b n).2.2 ∧ (k = 4 ∨ u = x_en b (x_st b n).2.2) ∧ f ≤ u ∧ u ≤ s ∧ (k = 0 ∧ f = s ∨ k ≠ 0 ∧ f < s) ∧ m ≤ (x_st b n).2.2 ∧ (x_st b n).2.2 ≤ f
theorem CIx_step {b : Int → Int} {h : Hp} {s k f u p : Int} {n : Nat} (hk : x_ok b n) (hd : x_kd b (x_st b n).2.2 ≠ 0) (hl : x_line b (x_st b n).1 ((x_st b n).2.1 86) (x_st b n).2.2 = (0, p)) (hp : (n : Int) < p) (r : RC h (x_T b (x_st b n).1 (x_st b n).2.2) (x_D b (x_st b n).2.1 (x_st b n).2.2)) (h1 : k = x_kd b p) (h2 : f = x_fr b p) (h3 : k = 4 ∨ u = x_en b p) (h4 : f ≤ u) (h5 : u ≤ s) (h6 : k = 0 ∧ f = s ∨ k ≠ 0 ∧ f < s) (h7 : p ≤ f) : CIx b h s ((n : Int) + 1) k f u := by
  have e : p = (x_st b (n + 1)).2.2 := by show p = (x_line b (x_st b n).1 ((x_st b n).2.1 86) (x_st b n).2.2).2; rw [hl]
  have h8 : (x_lk b n).1 = 0 := by unfold x_lk; rw [hl]
  subst e
  exact ⟨n + 1, by (first | decide +kernel | omega), x_ok_s hk hd h8, r, h1, h2, h3, h4, h5, h6, by (first | decide +kernel | omega), h7⟩
theorem neg_ten {y r : Int32} {Y : Int} (e : r = -10 - y) (p : y.toInt = Y) (h : 0 ≤ Y ∧ Y ≤ 4000) : r.toInt < 0 := by
  rw [e, ti_sub (show (-10 : Int32).toInt = -10 from rfl) p (by (first | decide +kernel | omega))]
  omega
