def vv_full : Int × Int := (-2147483648, 2147483647)
def rgSt (i : Nat) : Int × Int := if i % 144 = 86 ∨ i % 144 = 111 then (0, 8) else if 87 ≤ i % 144 ∧ i % 144 < 111 ∧ (i % 144) % 3 ≠ 2 then (0, 3) else if 112 ≤ i % 144 ∧ (i % 144) % 4 = 0 then (0, 15) else vv_full
def rgC (r i : Nat) : Int × Int := match r, i with
  | 1, 0 => (2, 4)
  | 1, 1 => (2, 4)
  | 7, 4 => (0, 8)
  | 12, 4 => (0, 8)
  | 13, _ => (0, 15)
  | _, _ => vv_full
def rgX (k i : Nat) : Int × Int := match k, i with
  | 0, 10 => vv_full
  | 4, 1 => (0, 160)
  | 4, 3 => (0, 160)
  | 4, 4 => (0, 160)
  | 17, 1 => (0, 4)
  | 19, 1 => (0, 48)
  | 23, 2 => (0, 40)
  | 25, 2 => (0, 40)
  | 27, 2 => (0, 40)
  | 29, 2 => (0, 40)
  | 31, 2 => (2, 4)
  | 31, 3 => (2, 4)
  | 31, 7 => (0, 4)
  | 31, 8 => (0, 4)
  | 31, 15 => (0, 160)
  | 31, 16 => (0, 160)
  | 31, 17 => (0, 160)
  | 31, 25 => (0, 4)
  | 31, 28 => (0, 48)
  | 32, i => rgSt i
  | 34, i => rgSt i
  | 38, _ => (-1, 16)
  | 44, _ => (0, 40)
  | _, _ => vv_full
def rg (k i : Nat) : Int × Int := if k < 85 then rgC (k % 17) i else rgX (k - 85) i
def Inv (h : Hp) : Prop := ∀ k i : Nat, (rg k i).1 ≤ (h.1 k i).toInt ∧ (h.1 k i).toInt ≤ (rg k i).2
theorem inv_at {h : Hp} {k i : Nat} {z : Int32} {Z lo hi : Int} (hI : Inv h) (hz : z.toInt = Z) (he : z = h.1 k i) (hr : rg k i = (lo, hi)) : lo ≤ Z ∧ Z ≤ hi := by
  have := hI k i
  rw [hr, ← he, hz] at this
  exact this
theorem inv_put {h h2 : Hp} {k i : Nat} {x : Int32} {X lo hi : Int} (hI : Inv h) (e : h2 = pI h k i x) (hr : rg k i = (lo, hi)) (hx : x.toInt = X) (hb : lo ≤ X ∧ X ≤ hi) : Inv h2 := by
  subst e
  intro k' i'
  by_cases hk : k' = k
  · subst hk
    by_cases hi' : i' = i
    · subst hi'
      rw [pI_eq, hr, hx]
      exact hb
    · rw [pI_nei hi']
      exact hI k' i'
  · rw [pI_ne hk]
    exact hI k' i'
theorem inv_full {h h2 : Hp} {k i : Nat} {x : Int32} (hI : Inv h) (e : h2 = pI h k i x) (hr : rg k i = vv_full) : Inv h2 := inv_put hI e hr rfl ⟨ti_lo x, ti_hi x⟩
theorem inv_long {h h2 : Hp} {x : Int64} (hI : Inv h) (e : h2 = pL h x) : Inv h2 := by subst e; exact hI
theorem inv_row {h h2 : Hp} {k : Nat} {f : Nat → Int32} (hI : Inv h) (e : h2 = pR h k f) (hf : ∀ i : Nat, (rg k i).1 ≤ (f i).toInt ∧ (f i).toInt ≤ (rg k i).2) : Inv h2 := by
  subst e
  intro k' i'
  by_cases hk : k' = k
  · subst hk
    rw [pR_eq]
    exact hf i'
  · rw [pR_ne hk]
    exact hI k' i'
/-- a row is copied whole or in part from a row of the same bounds -/
theorem inv_cpy {h h2 : Hp} {k k0 n : Nat} (hI : Inv h) (e : h2 = pR h k (va_cpy (h.1 k0) (h.1 k) 0 0 n)) (hr : ∀ i : Nat, rg k i = rg k0 i) : Inv h2 := by
  refine inv_row hI e (fun i => ?_)
  unfold va_cpy
  split
  · next hc => rw [hr, show 0 + (i - 0) = i by (first | decide +kernel | omega)]; exact hI k0 i
  · exact hI k i
def inS (S : List (Nat × Option Nat)) (k i : Nat) : Bool := S.any (fun q => q.1 == k && (match q.2 with | none => true | some j => j == i))
/-- place 999 stands for the one long -/
def fr (S : List (Nat × Option Nat)) (h h' : Hp) : Prop := (∀ k i : Nat, inS S k i = false → h'.1 k i = h.1 k i) ∧ (inS S 999 0 = false → h'.2 = h.2)
theorem fr_rf {S : List (Nat × Option Nat)} {h : Hp} : fr S h h := ⟨fun _ _ _ => rfl, fun _ => rfl⟩
theorem fr_put {S : List (Nat × Option Nat)} {h h1 h2 : Hp} {k i : Nat} {x : Int32} (f : fr S h h1) (e : h2 = pI h1 k i x) (hin : inS S k i = true) : fr S h h2 := by
  subst e
  refine ⟨fun k' i' hf => ?_, f.2⟩
  by_cases hk : k' = k
  · subst hk
    by_cases hi : i' = i
    · subst hi; rw [hin] at hf; cases hf
    · rw [pI_nei hi]; exact f.1 _ _ hf
  · rw [pI_ne hk]; exact f.1 _ _ hf
theorem fr_long {S : List (Nat × Option Nat)} {h h1 h2 : Hp} {x : Int64} (f : fr S h h1) (e : h2 = pL h1 x) (hin : inS S 999 0 = true) : fr S h h2 := by
  subst e
  exact ⟨f.1, fun q => by rw [hin] at q; cases q⟩
theorem fr_row {S : List (Nat × Option Nat)} {h h1 h2 : Hp} {k : Nat} {g : Nat → Int32} (f : fr S h h1) (e : h2 = pR h1 k g) (hin : ∀ i : Nat, inS S k i = true) : fr S h h2 := by
  subst e
  refine ⟨fun k' i' hf => ?_, f.2⟩
  by_cases hk : k' = k
  · subst hk; rw [hin] at hf; cases hf
  · rw [pR_ne hk]; exact f.1 _ _ hf
def subS (S S' : List (Nat × Option Nat)) : Bool := S.all (fun q => S'.any (fun r => r.1 == q.1 && (r.2 == none || r.2 == q.2)))
theorem subS_in {S S' : List (Nat × Option Nat)} (hs : subS S S' = true) {k i : Nat} (h : inS S k i = true) : inS S' k i = true := by
  unfold inS at h ⊢
  obtain ⟨q, hq, h2⟩ := List.any_eq_true.mp h
  have h3 := List.all_eq_true.mp hs q hq
  obtain ⟨r, hr, h4⟩ := List.any_eq_true.mp h3
  refine List.any_eq_true.mpr ⟨r, hr, ?_⟩
  rw [Bool.and_eq_true] at h2 h4 ⊢
  have e1 : r.1 = q.1 := by simpa using h4.1
  have e2 : q.1 = k := by simpa using h2.1
  refine ⟨by simp [e1, e2], ?_⟩
  rcases Bool.or_eq_true .. |>.mp h4.2 with h5 | h5
  · have : r.2 = none := by simpa using h5
    rw [this]
  · have : r.2 = q.2 := by simpa using h5
    rw [this]; exact h2.2
theorem fr_call {S S' : List (Nat × Option Nat)} {h h1 h2 : Hp} (f : fr S h h1) (g : fr S' h1 h2) (hs : subS S' S = true) : fr S h h2 := by
  have key : ∀ k i : Nat, inS S k i = false → inS S' k i = false := fun k i hf => by
    cases hz : inS S' k i with
    | false => rfl
    | true => rw [subS_in hs hz] at hf; cases hf
  exact ⟨fun k i hf => (g.1 k i (key k i hf)).trans (f.1 k i hf), fun hf => (g.2 (key 999 0 hf)).trans (f.2 hf)⟩
theorem kn_ne {h h2 : Hp} {k k' i i' : Nat} {x v : Int32} (e : h2 = pI h k' i' x) (hk : h.1 k i = v) (hne : k ≠ k') : h2.1 k i = v := by subst e; rw [pI_ne hne]; exact hk
theorem kn_nei {h h2 : Hp} {k i i' : Nat} {x v : Int32} (e : h2 = pI h k i' x) (hk : h.1 k i = v) (hne : i ≠ i') : h2.1 k i = v := by subst e; rw [pI_nei hne]; exact hk
theorem kn_put {h h2 : Hp} {k i : Nat} {x : Int32} (e : h2 = pI h k i x) : h2.1 k i = x := by subst e; exact pI_eq _ _ _ _
theorem kn_row {h h2 : Hp} {k k' i : Nat} {f : Nat → Int32} {v : Int32} (e : h2 = pR h k' f) (hk : h.1 k i = v) (hne : k ≠ k') : h2.1 k i = v := by subst e; rw [pR_ne hne]; exact hk
theorem kn_long {h h2 : Hp} {k i : Nat} {x : Int64} {v : Int32} (e : h2 = pL h x) (hk : h.1 k i = v) : h2.1 k i = v := by subst e; exact hk
theorem kn_call {S : List (Nat × Option Nat)} {h h2 : Hp} {k i : Nat} {v : Int32} (f : fr S h h2) (hk : h.1 k i = v) (hs : inS S k i = false) : h2.1 k i = v := by rw [f.1 k i hs]; exact hk
theorem mul24 {A B : Int} (ha : 2 ≤ A ∧ A ≤ 4) (hb : 2 ≤ B ∧ B ≤ 4) : 4 ≤ A * B ∧ A * B ≤ 16 := by
  rcases (by (first | decide +kernel | omega) : A = 2 ∨ A = 3 ∨ A = 4) with rfl | rfl | rfl <;> omega
section VQ
variable {own : String} {cc : ByteArray} {nL : Nat} {ret : Option FieldType} {F L : Nat} {post : Option Value → Hp → Prop} {h : Hp} {pc : Nat} {ls : Pl} {st : List Value}
theorem N_mul24 {x y : Int32} {A B : Int} (ha : x.toInt = A) (hb : y.toInt = B) (hr : 2 ≤ A ∧ A ≤ 4) (hr2 : 2 ≤ B ∧ B ≤ 4) (d : decode cc pc = .ok (.imul, 1)) (k : ∀ (z : Int32) (Z : Int), z.toInt = Z → z = x * y → 4 ≤ Z ∧ Z ≤ 16 → Z = A * B → V own cc nL ret F L post h (pc + 1) ls (.int z :: st)) : V own cc nL ret F L post h pc ls (.int y :: .int x :: st) := V_imul ha hb (by have := mul24 hr hr2; omega) d (fun z e1 e2 => k z _ e2 e1 (mul24 hr hr2) rfl)
end VQ
theorem ct_ow {y : MethodName} {cc : ByteArray} {nL : Nat} {ret : Option FieldType} {F L : Nat} {As : List Value} {h : Hp} {post : Option Value → Hp → Prop} (own : String) (ls : Pl) (ho : y.cls = own) (hy : plainName y.cls = true) (hls : argLs As ++ List.replicate (nL - (argLs As).length) none = ls) (hn : (argLs As).length ≤ nL) (hV : V own cc nL ret F L post h 0 ls []) : Ct y cc nL ret F L As h post := ct_of ls hy hls hn (by rw [ho]; exact hV)
theorem st_lo {I : Int} (h : 0 ≤ I ∧ I < 86) : rgSt I.toNat = vv_full := by
  unfold rgSt
  rw [if_neg (by (first | decide +kernel | omega)), if_neg (by (first | decide +kernel | omega)), if_neg (by (first | decide +kernel | omega))]
theorem st_8 {I : Int} (h : I = 86 ∨ I = 111) : rgSt I.toNat = (0, 8) := by
  unfold rgSt
  rw [if_pos (by (first | decide +kernel | omega))]
theorem st_a {I : Int} (h : 87 ≤ I ∧ I < 111 ∧ I % 3 ≠ 2) : rgSt I.toNat = (0, 3) := by
  unfold rgSt
  rw [if_neg (by (first | decide +kernel | omega)), if_pos (by (first | decide +kernel | omega))]
theorem st_b {I : Int} (h : 87 ≤ I ∧ I < 111 ∧ I % 3 = 2) : rgSt I.toNat = vv_full := by
  unfold rgSt
  rw [if_neg (by (first | decide +kernel | omega)), if_neg (by (first | decide +kernel | omega)), if_neg (by (first | decide +kernel | omega))]
theorem st_c {I : Int} (h : 112 ≤ I ∧ I < 144 ∧ I % 4 = 0) : rgSt I.toNat = (0, 15) := by
  unfold rgSt
  rw [if_neg (by (first | decide +kernel | omega)), if_neg (by (first | decide +kernel | omega)), if_pos (by (first | decide +kernel | omega))]
theorem st_d {I : Int} (h : 112 ≤ I ∧ I < 144 ∧ I % 4 ≠ 0) : rgSt I.toNat = vv_full := by
  unfold rgSt
  rw [if_neg (by (first | decide +kernel | omega)), if_neg (by (first | decide +kernel | omega)), if_neg (by (first | decide +kernel | omega))]
theorem st_per {I J : Int} (h : 0 ≤ I ∧ 0 ≤ J ∧ I % 144 = J % 144) : rgSt I.toNat = rgSt J.toNat := by
  have e : I.toNat % 144 = J.toNat % 144 := by (first | decide +kernel | omega)
  unfold rgSt
  rw [e]
def stOk (I X : Int) : Prop := ∃ lo hi : Int, rgSt I.toNat = (lo, hi) ∧ lo ≤ X ∧ X ≤ hi
theorem stOk_lo {I X : Int} {x : Int32} (hx : x.toInt = X) (h : 0 ≤ I ∧ I < 86) : stOk I X := ⟨_, _, st_lo h, by rw [← hx]; exact ti_lo x, by rw [← hx]; exact ti_hi x⟩
theorem stOk_8 {I X : Int} (h : I = 86 ∨ I = 111) (hx : 0 ≤ X ∧ X ≤ 8) : stOk I X := ⟨_, _, st_8 h, hx.1, hx.2⟩
theorem stOk_3 {I X : Int} (h : 0 ≤ X ∧ X ≤ 3) : stOk I X := by
  unfold stOk rgSt
  split
  · exact ⟨_, _, rfl, by (first | decide +kernel | omega)⟩
  · split
    · exact ⟨_, _, rfl, by (first | decide +kernel | omega)⟩
    · split
      · exact ⟨_, _, rfl, by (first | decide +kernel | omega)⟩
      · exact ⟨_, _, rfl, by (first | decide +kernel | omega)⟩
theorem inv_st {h h2 : Hp} {k : Nat} {I X : Int} {x : Int32} (hI : Inv h) (e : h2 = pI h k I.toNat x) (hk : k = 117 ∨ k = 119) (hx : x.toInt = X) (hs : stOk I X) : Inv h2 := by
  obtain ⟨lo, hi, h1, h2', h3⟩ := hs
  rcases hk with rfl | rfl
  · exact inv_put hI e (show rg 117 I.toNat = (lo, hi) from h1) hx ⟨h2', h3⟩
  · exact inv_put hI e (show rg 119 I.toNat = (lo, hi) from h1) hx ⟨h2', h3⟩
theorem stOk_of {h : Hp} {k : Nat} {I J X : Int} {x : Int32} (hI : Inv h) (hk : k = 117 ∨ k = 119) (hx : x.toInt = X) (e : x = h.1 k J.toNat) (hp : 0 ≤ I ∧ 0 ≤ J ∧ I % 144 = J % 144) : stOk I X := by
  have h1 := st_per hp
  have h2 := hI k J.toNat
  rcases hk with rfl | rfl
  · have h3 : (rgSt J.toNat).1 ≤ (h.1 117 J.toNat).toInt ∧ (h.1 117 J.toNat).toInt ≤ (rgSt J.toNat).2 := h2
    rw [← e, hx, ← h1] at h3
    exact ⟨_, _, rfl, h3⟩
  · have h3 : (rgSt J.toNat).1 ≤ (h.1 119 J.toNat).toInt ∧ (h.1 119 J.toNat).toInt ≤ (rgSt J.toNat).2 := h2
    rw [← e, hx, ← h1] at h3
    exact ⟨_, _, rfl, h3⟩
section VQ2
variable {own : String} {cc : ByteArray} {nL : Nat} {ret : Option FieldType} {F L : Nat} {post : Option Value → Hp → Prop} {h : Hp} {pc : Nat} {ls : Pl} {st : List Value}
theorem N_ialdK {k n : Nat} {i z : Int32} {I : Int} (hs : vv_sk[k]? = some (vv_ar n)) (ha : i.toInt = I) (hin : 0 ≤ I ∧ I < n) (d : decode cc pc = .ok (.iaload, 1)) (hk : h.1 k I.toNat = z) (kk : V own cc nL ret F L post h (pc + 1) ls (.int z :: st)) : V own cc nL ret F L post h pc ls (.int i :: .ref k :: st) := V_iald hs ha hin d (fun z' e => by rw [e, hk]; exact kk)
end VQ2
theorem V_drop {own : String} {cc : ByteArray} {nL : Nat} {ret : Option FieldType} {F L : Nat} {post : Option Value → Hp → Prop} {h : Hp} {pc : Nat} {ls : Pl} {st : List Value} (i : Nat) (ls1 : Pl) (h1 : ls.set i none = ls1) (k : V own cc nL ret F L post h pc ls1 st) : V own cc nL ret F L post h pc ls st := by
  refine V_ls ls1 (fun j v hj => ?_) k
  rw [← h1] at hj
  by_cases e : i = j
  · subst e
    by_cases hlt : i < ls.length
    · rw [List.getElem?_set_self hlt] at hj; cases hj
    · rw [List.getElem?_eq_none (by rw [List.length_set]; omega)] at hj; cases hj
  · rw [List.getElem?_set_ne e] at hj
    exact hj
theorem knL_put {h h2 : Hp} {k' i' : Nat} {x : Int32} {v : Int64} (e : h2 = pI h k' i' x) (hk : h.2 = v) : h2.2 = v := by subst e; exact hk
theorem knL_long {h h2 : Hp} {x : Int64} (e : h2 = pL h x) : h2.2 = x := by subst e; rfl
section VQ3
variable {own : String} {cc : ByteArray} {nL : Nat} {ret : Option FieldType} {F L : Nat} {post : Option Value → Hp → Prop} {h : Hp} {pc : Nat} {ls : Pl} {st : List Value}
theorem N_getLK {idx ci i k : Nat} {ss : List Sl} {z : Int64} (fa : FA own idx ci i) (hs : vv_sk[k]? = some (.inr (ci, ss))) (hi : ss[i]? = some (.inr true)) (d : decode cc pc = .ok (.getfield idx, 3)) (hk : h.2 = z) (kk : V own cc nL ret F L post h (pc + 3) ls (.long z :: st)) : V own cc nL ret F L post h pc ls (.ref k :: st) := V_getL fa hs hi d (by rw [hk]; exact kk)
end VQ3
theorem subw_ti {x y z : Int32} {A B Z : Int} (ha : x.toInt = A) (hb : y.toInt = B) (e : z = x - y) (hz : z.toInt = Z) : (Z = A - B ∨ Z = A - B + 4294967296 ∨ Z = A - B - 4294967296) ∧ -2147483648 ≤ A ∧ A ≤ 2147483647 ∧ -2147483648 ≤ Z ∧ Z ≤ 2147483647 := by
  have h1 := ti_lo x; have h2 := ti_hi x; have h3 := ti_lo z; have h4 := ti_hi z; have h5 := ti_lo y; have h6 := ti_hi y
  rw [ha] at h1 h2; rw [hz] at h3 h4; rw [hb] at h5 h6
  refine ⟨?_, h1, h2, h3, h4⟩
  have h7 : (A - B).bmod (2 ^ 32) = Z := by rw [← hz, e, Int32.toInt_sub, ha, hb]
  unfold Int.bmod at h7
  simp only [show ((2 ^ 32 : Nat) : Int) = 4294967296 from rfl] at h7
  split at h7 <;> omega
theorem and_ti {x y z : Int32} {Z : Int} (k : Nat) (hm : y.toBitVec.toNat = 2 ^ k - 1) (hk : k ≤ 30) (e : z = x &&& y) (hz : z.toInt = Z) : 0 ≤ Z ∧ Z < 2 ^ k := by
  have := vp_in_iff.mp (pk_andIn x k hm hk)
  rw [← e, hz] at this
  exact ⟨this.1, by have h2 := this.2; push_cast at h2; exact h2⟩
theorem t64_rem {x y : Int64} {A B : Int} (ha : x.toInt = A) (hb : y.toInt = B) (h0 : 0 ≤ A) (hB : 0 < B) : (x - x / y * y).toInt = A % B := by
  have h2 := x.toInt_lt
  have h3 := Int.mul_ediv_add_emod A B
  have h4 := Int.emod_nonneg A (Int.ne_of_gt hB)
  have h5 := Int.emod_lt_of_pos A hB
  have h6 : A / B * B = A - A % B := by rw [Int.mul_comm]; omega
  have h7 := Int.mul_nonneg (Int.ediv_nonneg h0 (Int.le_of_lt hB)) (Int.le_of_lt hB)
  have h8 := Int.ediv_le_self B h0
  have h9 := Int.ediv_nonneg h0 (Int.le_of_lt hB)
  have d1 : (x / y).toInt = A / B := by rw [Int64.toInt_div, ha, hb, Int.tdiv_eq_ediv_of_nonneg h0, Int.bmod_eq_of_le] <;> omega
  have d2 : (x / y * y).toInt = A / B * B := by rw [Int64.toInt_mul, d1, hb, Int.bmod_eq_of_le] <;> omega
  rw [Int64.toInt_sub, ha, d2, Int.bmod_eq_of_le] <;> omega
def zc (x : Int) : Int := if x = 0 then 1 else 0
theorem zc_b (x : Int) : 0 ≤ zc x ∧ zc x ≤ 1 := by unfold zc; split <;> omega
theorem zc_0 {x : Int} (h : x = 0) : zc x = 1 := if_pos h
theorem zc_n {x : Int} (h : x ≠ 0) : zc x = 0 := if_neg h
def rmN (w g c : Nat) : Nat := (((List.range 16).filter (fun i => decide (c ≤ i) && decide (i < w * g))).map (fun i => (w - 1 - i % w) + (g - 1 - i / w))).sum
def rm (w g c : Int) : Int := (rmN w.toNat g.toNat c.toNat : Nat)
theorem rm_p (w g c : Int) : 0 ≤ rm w g c := Int.natCast_nonneg _
theorem rmN_all : ∀ w, w < 5 → 2 ≤ w → ∀ g, g < 5 → 2 ≤ g → rmN w g 0 ≤ 48 ∧ ∀ c, c < w * g → rmN w g c = (w - 1 - c % w) + (g - 1 - c / w) + rmN w g (c + 1) := by decide +kernel
theorem rm_0 {w g : Int} (hw : 2 ≤ w ∧ w ≤ 4) (hg : 2 ≤ g ∧ g ≤ 4) : rm w g 0 ≤ 48 := by
  have := (rmN_all w.toNat (by (first | decide +kernel | omega)) (by (first | decide +kernel | omega)) g.toNat (by (first | decide +kernel | omega)) (by (first | decide +kernel | omega))).1
  unfold rm
  show ((rmN w.toNat g.toNat 0 : Nat) : Int) ≤ 48
  omega
theorem rm_s {w g c M : Int} (hw : 2 ≤ w ∧ w ≤ 4) (hg : 2 ≤ g ∧ g ≤ 4) (hM : M = w * g) (hc : 0 ≤ c ∧ c < M) : rm w g c = (w - 1 - c % w) + (g - 1 - c / w) + rm w g (c + 1) ∧ 0 ≤ c / w ∧ c / w < g ∧ 0 ≤ c % w ∧ c % w < w := by
  obtain ⟨a, rfl⟩ := Int.eq_ofNat_of_zero_le (by (first | decide +kernel | omega) : 0 ≤ w)
  obtain ⟨b, rfl⟩ := Int.eq_ofNat_of_zero_le (by (first | decide +kernel | omega) : 0 ≤ g)
  obtain ⟨d, rfl⟩ := Int.eq_ofNat_of_zero_le hc.1
  have hd : d < a * b := by
    have h1 : (d : Int) < (a : Int) * (b : Int) := by rw [← hM]; exact hc.2
    exact_mod_cast h1
  have h1 := (rmN_all a (by (first | decide +kernel | omega)) (by (first | decide +kernel | omega)) b (by (first | decide +kernel | omega)) (by (first | decide +kernel | omega))).2 d hd
  have h2 : d / a < b := Nat.div_lt_of_lt_mul (by rw [Nat.mul_comm] at hd; rw [Nat.mul_comm]; exact hd)
  have h3 : d % a < a := Nat.mod_lt _ (by (first | decide +kernel | omega))
  have e1 : ((d : Int) / (a : Int)) = ((d / a : Nat) : Int) := (Int.natCast_ediv d a).symm
  have e2 : ((d : Int) % (a : Int)) = ((d % a : Nat) : Int) := (Int.natCast_emod d a).symm
  rw [e1, e2]
  unfold rm
  rw [show ((d : Int) + 1).toNat = d + 1 by (first | decide +kernel | omega)]
  simp only [Int.toNat_natCast]
  clear e1 e2
  generalize d / a = Q at *
  generalize d % a = Rr at *
  omega
/-- what is left of a search through rows of up to four cells -/
def plM (k a b c d : Int) : Int := if k < 0 then 0 else if k = 0 then (17 - a) * 6859 else if k = 1 then (17 - a) * 6859 + (17 - b) * 361 else if k = 2 then (17 - a) * 6859 + (17 - b) * 361 + (17 - c) * 19 else (17 - a) * 6859 + (17 - b) * 361 + (17 - c) * 19 + (17 - d)
theorem plM_m1 (a b c d : Int) : plM (-1) a b c d = 0 := by simp [plM]
theorem plM_0 (a b c d : Int) : plM 0 a b c d = (17 - a) * 6859 := by simp [plM]
theorem plM_1 (a b c d : Int) : plM 1 a b c d = (17 - a) * 6859 + (17 - b) * 361 := by simp [plM]
theorem plM_2 (a b c d : Int) : plM 2 a b c d = (17 - a) * 6859 + (17 - b) * 361 + (17 - c) * 19 := by simp [plM]
theorem plM_3 (a b c d : Int) : plM 3 a b c d = (17 - a) * 6859 + (17 - b) * 361 + (17 - c) * 19 + (17 - d) := by simp [plM]
theorem plM_p {k a b c d : Int} (ha : a ≤ 16) (hb : b ≤ 16) (hc : c ≤ 16) (hd : d ≤ 16) : 0 ≤ plM k a b c d := by
  unfold plM
  split
  · omega
  · split
    · omega
    · split
      · omega
      · split <;> omega
theorem t64_add {x y : Int64} {A B : Int} (ha : x.toInt = A) (hb : y.toInt = B) (h : -9223372036854775808 ≤ A + B ∧ A + B ≤ 9223372036854775807) : (x + y).toInt = A + B := by
  rw [Int64.toInt_add, ha, hb, Int.bmod_eq_of_le] <;> omega
