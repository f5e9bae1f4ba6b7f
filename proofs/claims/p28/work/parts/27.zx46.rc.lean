section
/-- where the draft's cells stand in the pure draft -/
def dof (k i : Nat) : Option Nat :=
  if k = 70 ∧ i < 16 then some i else if k = 71 ∧ i < 16 then some (16 + i) else if k = 72 ∧ i < 16 then some (32 + i) else if k = 73 ∧ i < 16 then some (48 + i) else if k = 74 ∧ i < 16 then some (64 + i) else if k = 76 ∧ i < 4 then some (80 + i) else if k = 68 ∧ i = 3 then some 84 else if k = 68 ∧ i = 4 then some 85 else if k = 75 ∧ i = 4 then some 86 else if k = 80 ∧ i = 4 then some 111 else if k = 69 ∧ i < 4 then some (144 + i) else none
def dofi (d : Nat) : Nat × Nat :=
  if d < 16 then (70, d) else if d < 32 then (71, d - 16) else if d < 48 then (72, d - 32) else if d < 64 then (73, d - 48) else if d < 80 then (74, d - 64) else if d < 84 then (76, d - 80) else if d = 84 then (68, 3) else if d = 85 then (68, 4) else if d = 86 then (75, 4) else if d = 111 then (80, 4) else (69, d - 144)
theorem dofi_of {k i d : Nat} (h : dof k i = some d) : dofi d = (k, i) := by
  unfold dof at h
  split at h
  · next q => cases h; unfold dofi; rw [if_pos q.2, q.1]
  split at h
  · next q => cases h; unfold dofi; rw [if_neg (by (first | decide +kernel | omega)), if_pos (by (first | decide +kernel | omega)), q.1, Nat.add_sub_cancel_left]
  split at h
  · next q => cases h; unfold dofi; rw [if_neg (by (first | decide +kernel | omega)), if_neg (by (first | decide +kernel | omega)), if_pos (by (first | decide +kernel | omega)), q.1, Nat.add_sub_cancel_left]
  split at h
  · next q => cases h; unfold dofi; rw [if_neg (by (first | decide +kernel | omega)), if_neg (by (first | decide +kernel | omega)), if_neg (by (first | decide +kernel | omega)), if_pos (by (first | decide +kernel | omega)), q.1, Nat.add_sub_cancel_left]
  split at h
  · next q => cases h; unfold dofi; rw [if_neg (by (first | decide +kernel | omega)), if_neg (by (first | decide +kernel | omega)), if_neg (by (first | decide +kernel | omega)), if_neg (by (first | decide +kernel | omega)), if_pos (by (first | decide +kernel | omega)), q.1, Nat.add_sub_cancel_left]
  split at h
  · next q => cases h; unfold dofi; rw [if_neg (by (first | decide +kernel | omega)), if_neg (by (first | decide +kernel | omega)), if_neg (by (first | decide +kernel | omega)), if_neg (by (first | decide +kernel | omega)), if_neg (by (first | decide +kernel | omega)), if_pos (by (first | decide +kernel | omega)), q.1, Nat.add_sub_cancel_left]
  split at h
  · next q => cases h; rw [q.1, q.2]; rfl
  split at h
  · next q => cases h; rw [q.1, q.2]; rfl
  split at h
  · next q => cases h; rw [q.1, q.2]; rfl
  split at h
  · next q => cases h; rw [q.1, q.2]; rfl
  split at h
  · next q => cases h; unfold dofi; rw [if_neg (by (first | decide +kernel | omega)), if_neg (by (first | decide +kernel | omega)), if_neg (by (first | decide +kernel | omega)), if_neg (by (first | decide +kernel | omega)), if_neg (by (first | decide +kernel | omega)), if_neg (by (first | decide +kernel | omega)), if_neg (by (first | decide +kernel | omega)), if_neg (by (first | decide +kernel | omega)), if_neg (by (first | decide +kernel | omega)), if_neg (by (first | decide +kernel | omega)), q.1, Nat.add_sub_cancel_left]
  · cases h
theorem dof_e {k i d : Nat} (h : dof k i = some d) : (k = 70 ∧ i < 16) ∧ d = i ∨ (k = 71 ∧ i < 16) ∧ d = 16 + i ∨ (k = 72 ∧ i < 16) ∧ d = 32 + i ∨ (k = 73 ∧ i < 16) ∧ d = 48 + i ∨ (k = 74 ∧ i < 16) ∧ d = 64 + i ∨ (k = 76 ∧ i < 4) ∧ d = 80 + i ∨ (k = 68 ∧ i = 3) ∧ d = 84 ∨ (k = 68 ∧ i = 4) ∧ d = 85 ∨ (k = 75 ∧ i = 4) ∧ d = 86 ∨ (k = 80 ∧ i = 4) ∧ d = 111 ∨ (k = 69 ∧ i < 4) ∧ d = 144 + i := by
  unfold dof at h
  by_cases q : k = 70 ∧ i < 16
  · rw [if_pos q] at h; exact Or.inl ⟨q, (Option.some.inj h).symm⟩
  rw [if_neg q] at h
  clear q
  by_cases q : k = 71 ∧ i < 16
  · rw [if_pos q] at h; exact Or.inr (Or.inl ⟨q, (Option.some.inj h).symm⟩)
  rw [if_neg q] at h
  clear q
  by_cases q : k = 72 ∧ i < 16
  · rw [if_pos q] at h; exact Or.inr (Or.inr (Or.inl ⟨q, (Option.some.inj h).symm⟩))
  rw [if_neg q] at h
  clear q
  by_cases q : k = 73 ∧ i < 16
  · rw [if_pos q] at h; exact Or.inr (Or.inr (Or.inr (Or.inl ⟨q, (Option.some.inj h).symm⟩)))
  rw [if_neg q] at h
  clear q
  by_cases q : k = 74 ∧ i < 16
  · rw [if_pos q] at h; exact Or.inr (Or.inr (Or.inr (Or.inr (Or.inl ⟨q, (Option.some.inj h).symm⟩))))
  rw [if_neg q] at h
  clear q
  by_cases q : k = 76 ∧ i < 4
  · rw [if_pos q] at h; exact Or.inr (Or.inr (Or.inr (Or.inr (Or.inr (Or.inl ⟨q, (Option.some.inj h).symm⟩)))))
  rw [if_neg q] at h
  clear q
  by_cases q : k = 68 ∧ i = 3
  · rw [if_pos q] at h; exact Or.inr (Or.inr (Or.inr (Or.inr (Or.inr (Or.inr (Or.inl ⟨q, (Option.some.inj h).symm⟩))))))
  rw [if_neg q] at h
  clear q
  by_cases q : k = 68 ∧ i = 4
  · rw [if_pos q] at h; exact Or.inr (Or.inr (Or.inr (Or.inr (Or.inr (Or.inr (Or.inr (Or.inl ⟨q, (Option.some.inj h).symm⟩)))))))
  rw [if_neg q] at h
  clear q
  by_cases q : k = 75 ∧ i = 4
  · rw [if_pos q] at h; exact Or.inr (Or.inr (Or.inr (Or.inr (Or.inr (Or.inr (Or.inr (Or.inr (Or.inl ⟨q, (Option.some.inj h).symm⟩))))))))
  rw [if_neg q] at h
  clear q
  by_cases q : k = 80 ∧ i = 4
  · rw [if_pos q] at h; exact Or.inr (Or.inr (Or.inr (Or.inr (Or.inr (Or.inr (Or.inr (Or.inr (Or.inr (Or.inl ⟨q, (Option.some.inj h).symm⟩)))))))))
  rw [if_neg q] at h
  clear q
  by_cases q : k = 69 ∧ i < 4
  · rw [if_pos q] at h; exact Or.inr (Or.inr (Or.inr (Or.inr (Or.inr (Or.inr (Or.inr (Or.inr (Or.inr (Or.inr (⟨q, (Option.some.inj h).symm⟩))))))))))
  rw [if_neg q] at h
  clear q
  cases h
theorem dof_k {k i d : Nat} (h : dof k i = some d) : 68 ≤ k ∧ k ≤ 80 ∧ k ≠ 77 ∧ k ≠ 78 ∧ k ≠ 79 ∧ (d ≤ 86 ∨ d = 111 ∨ 144 ≤ d) := by
  rcases dof_e h with e | e | e | e | e | e | e | e | e | e | e <;> omega
theorem dof_86 {i d : Nat} (h : dof 75 i = some d) : d = 86 := by
  rcases dof_e h with e | e | e | e | e | e | e | e | e | e | e <;> omega
theorem dof_111 {i d : Nat} (h : dof 80 i = some d) : d = 111 := by
  rcases dof_e h with e | e | e | e | e | e | e | e | e | e | e <;> omega
def RCd (h : Hp) (D : Nat → Int) : Prop := ∀ k i d : Nat, dof k i = some d → (h.1 k i).toInt = D d
def RCb (h : Hp) (D : Nat → Int) : Prop := ∀ i : Nat, (i : Int) < D 86 → (h.1 77 i).toInt = D (87 + 3 * i) ∧ (h.1 78 i).toInt = D (88 + 3 * i) ∧ (h.1 79 i).toInt = D (89 + 3 * i)
def x_ON (z : Int32) (t : Int) : Prop := z.toInt = 0 ∧ t = 0 ∨ z.toInt ≠ 0 ∧ t = 1
def RCt (h : Hp) (T : Nat → Int → Int) : Prop := (∀ l : Nat, 1 ≤ l → l ≤ 5 → x_TB (h.1 92 l) (T l)) ∧ (∀ l : Nat, (l = 0 ∨ l = 6 ∨ l = 7 ∨ l = 8) → x_ON (h.1 92 l) (T l 0))
def RC (h : Hp) (T : Nat → Int → Int) (D : Nat → Int) : Prop := RCt h T ∧ RCd h D ∧ RCb h D
/-- a frame that leaves the draft and what was told alone -/
def rcS (S : List (Nat × Option Nat)) : Bool := S.all (fun q => decide (q.1 ≠ 92 ∧ (q.1 < 68 ∨ 80 < q.1)))
theorem rcS_no {S : List (Nat × Option Nat)} (hc : rcS S = true) {k i : Nat} (hk : k = 92 ∨ 68 ≤ k ∧ k ≤ 80) : inS S k i = false := by
  unfold inS
  rw [List.any_eq_false]
  intro q hq
  have := of_decide_eq_true (List.all_eq_true.mp hc q hq)
  intro e
  have e2 : q.1 = k := by
    have := (Bool.and_eq_true _ _ ▸ e).1
    exact eq_of_beq this
  omega
theorem RC_fr {S : List (Nat × Option Nat)} {h h' : Hp} {T : Nat → Int → Int} {D : Nat → Int} (f : fr S h h') (hc : rcS S = true) (r : RC h T D) : RC h' T D := by
  have e : ∀ k i : Nat, (k = 92 ∨ 68 ≤ k ∧ k ≤ 80) → h'.1 k i = h.1 k i := fun k i hk => f.1 k i (rcS_no hc hk)
  obtain ⟨r1, r2, r3⟩ := r
  refine ⟨?_, fun k i d hd => ?_, fun i hi => ?_⟩
  · refine ⟨fun l h1 h2 => ?_, fun l hl => ?_⟩
    · rw [e 92 l (Or.inl rfl)]; exact r1.1 l h1 h2
    · rw [e 92 l (Or.inl rfl)]; exact r1.2 l hl
  · have := dof_k hd
    rw [e k i (by (first | decide +kernel | omega))]
    exact r2 k i d hd
  · rw [e 77 i (by (first | decide +kernel | omega)), e 78 i (by (first | decide +kernel | omega)), e 79 i (by (first | decide +kernel | omega))]
    exact r3 i hi
theorem RCd_put {h h' : Hp} {D : Nat → Int} {k i d : Nat} {x : Int32} {v dZ : Int} (r : RCd h D) (e : h' = pI h k i x) (hd : dof k i = some d) (hx : x.toInt = v) (hz : dZ = (d : Int)) : RCd h' (x_up D dZ v) := by
  intro k' i' d' hd'
  subst hz
  unfold x_up
  by_cases q : k' = k ∧ i' = i
  · obtain ⟨rfl, rfl⟩ := q
    rw [hd] at hd'
    cases hd'
    rw [if_pos rfl, kn_put e]
    exact hx
  · have hne : d' ≠ d := fun c => by
      subst c
      have a1 := dofi_of hd
      have a2 := dofi_of hd'
      rw [a1] at a2
      cases a2
      exact q ⟨rfl, rfl⟩
    rw [if_neg (by (first | decide +kernel | omega))]
    have hh : h'.1 k' i' = h.1 k' i' := by
      by_cases c : k' = k
      · subst c
        exact kn_nei e rfl (fun c2 => q ⟨rfl, c2⟩)
      · exact kn_ne e rfl c
    rw [hh]
    exact r k' i' d' hd'
theorem RCd_ne {h h' : Hp} {D : Nat → Int} {k i : Nat} {x : Int32} (r : RCd h D) (e : h' = pI h k i x) (hk : k < 68 ∨ 80 < k ∨ k = 77 ∨ k = 78 ∨ k = 79) : RCd h' D := by
  intro k' i' d' hd'
  have := dof_k hd'
  rw [kn_ne e rfl (show k' ≠ k by (first | decide +kernel | omega))]
  exact r k' i' d' hd'
theorem RCb_put {h h' : Hp} {D : Nat → Int} {k i : Nat} {x : Int32} {dZ v : Int} (r : RCb h D) (e : h' = pI h k i x) (hk : k ≠ 77 ∧ k ≠ 78 ∧ k ≠ 79) (hd : dZ < 86 ∨ 110 < dZ) (hm : ∀ j : Nat, (j : Int) < D 86 → j < 8) : RCb h' (x_up D dZ v) := by
  intro j hj
  unfold x_up at hj ⊢
  rw [if_neg (by (first | decide +kernel | omega))] at hj
  have := hm j hj
  rw [if_neg (by (first | decide +kernel | omega)), if_neg (by (first | decide +kernel | omega)), if_neg (by (first | decide +kernel | omega)), kn_ne e rfl (Ne.symm hk.1), kn_ne e rfl (Ne.symm hk.2.1), kn_ne e rfl (Ne.symm hk.2.2)]
  exact r j hj
theorem RCb_ne {h h' : Hp} {D : Nat → Int} {k i : Nat} {x : Int32} (r : RCb h D) (e : h' = pI h k i x) (hk : k ≠ 77 ∧ k ≠ 78 ∧ k ≠ 79) : RCb h' D := by
  intro j hj
  rw [kn_ne e rfl (Ne.symm hk.1), kn_ne e rfl (Ne.symm hk.2.1), kn_ne e rfl (Ne.symm hk.2.2)]
  exact r j hj
theorem bt_sh : ∀ c : Nat, c < 16 → ((Int32.ofInt (c : Int) &&& 31).toBitVec.smod 32).toNat = c := by decide
theorem x_bt_get (z : Int32) {c : Nat} (hc : c < 16) : x_bt z (c : Int) = if z.toBitVec.getLsbD c = true then 1 else 0 := by
  have h1 : ((z >>> (Int32.ofInt (c : Int) &&& 31)) &&& 1).toBitVec = BitVec.setWidth 32 (BitVec.ofBool (z.toBitVec.getLsbD c)) := by
    rw [Int32.toBitVec_and, Int32.toBitVec_shiftRight]
    show BitVec.sshiftRight' z.toBitVec _ &&& 1#32 = _
    rw [BitVec.and_one_eq_setWidth_ofBool_getLsbD, BitVec.sshiftRight', bt_sh c hc, BitVec.getLsbD_sshiftRight, if_pos (show c + 0 < 32 by (first | decide +kernel | omega))]
    rfl
  unfold x_bt
  rw [← Int32.toInt_toBitVec, h1]
  cases z.toBitVec.getLsbD c <;> decide
theorem bt_one : ∀ v : Nat, v < 16 → ∀ c : Nat, c < 32 → ((1 : Int32) <<< (Int32.ofInt (v : Int) &&& 31)).toBitVec.getLsbD c = decide (c = v) := by decide +kernel
theorem x_TB_set {z z' v : Int32} {t : Int → Int} {V : Int} (tb : x_TB z t) (hV : 0 ≤ V ∧ V ≤ 15) (pv : v.toInt = V) (e : z' = z ||| ((1 : Int32) <<< (v &&& 31))) : x_TB z' (fun j => if j = V then 1 else t j) := by
  obtain ⟨m, rfl⟩ := Int.eq_ofNat_of_zero_le hV.1
  have hv : v = Int32.ofInt (m : Int) := by rw [← pv, Int32.ofInt_toInt]
  have hm : m < 16 := by (first | decide +kernel | omega)
  refine ⟨fun c h0 h1 => ?_, fun i hi => ?_⟩
  · obtain ⟨n, rfl⟩ := Int.eq_ofNat_of_zero_le h0
    have hn : n < 16 := by (first | decide +kernel | omega)
    have g := tb.1 n h0 h1
    rw [x_bt_get z hn] at g
    rw [x_bt_get z' hn, e, Int32.toBitVec_or, BitVec.getLsbD_or, hv, bt_one m hm n (by (first | decide +kernel | omega))]
    by_cases q : n = m
    · subst q
      simp
    · show _ = if ((n : Nat) : Int) = (m : Int) then (1 : Int) else t n
      rw [decide_eq_false q, Bool.or_false, if_neg (show ¬ ((n : Int) = (m : Int)) by (first | decide +kernel | omega))]
      exact g
  · rw [e, Int32.toBitVec_or, BitVec.getLsbD_or, tb.2 i hi, Bool.false_or]
    by_cases h32 : i < 32
    · rw [hv, bt_one m hm i h32]
      exact decide_eq_false (by (first | decide +kernel | omega))
    · exact BitVec.getLsbD_of_ge _ _ (by (first | decide +kernel | omega))
theorem or_one_ne (z : Int32) : (z ||| 1).toInt ≠ 0 := by
  intro h
  have h1 : z ||| 1 = 0 := Int32.toInt_inj.mp (h.trans rfl)
  have h2 : (z ||| 1).toBitVec.getLsbD 0 = false := by rw [h1]; rfl
  rw [Int32.toBitVec_or, BitVec.getLsbD_or] at h2
  have h3 : (1 : Int32).toBitVec.getLsbD 0 = true := rfl
  rw [h3, Bool.or_true] at h2
  cases h2
theorem RCt_ne {h h' : Hp} {T : Nat → Int → Int} {k i : Nat} {x : Int32} (r : RCt h T) (e : h' = pI h k i x) (hk : k ≠ 92) : RCt h' T :=
  ⟨fun l h1 h2 => by rw [kn_ne e rfl (Ne.symm hk)]; exact r.1 l h1 h2, fun l hl => by rw [kn_ne e rfl (Ne.symm hk)]; exact r.2 l hl⟩
theorem x_upT_ne {T : Nat → Int → Int} {l c : Int} {i : Nat} (h : (i : Int) ≠ l) (j : Int) : x_upT T l c i j = T i j := if_neg (fun q => h q.1)
theorem RCt_one {h h' : Hp} {T : Nat → Int → Int} {l : Nat} {x y z a : Int32} {A lZ : Int} (r : RCt h T) (hl : 1 ≤ l ∧ l ≤ 5) (e : h' = pI h 92 l x) (zK : h.1 92 l = z) (ha : 0 ≤ A ∧ A ≤ 15) (pa : a.toInt = A) (e2 : x = z ||| y) (e1 : y = (1 : Int32) <<< (a &&& 31)) (hz : lZ = (l : Int)) : RCt h' (x_upT T lZ A) := by
  subst hz
  refine ⟨fun m h1 h2 => ?_, fun m hm => ?_⟩
  · by_cases q : m = l
    · subst q
      rw [kn_put e]
      have g := r.1 m h1 h2
      rw [zK] at g
      have g2 := x_TB_set g ha pa (e2.trans (by rw [e1]))
      refine x_TB_cg (fun c => ?_) g2
      show _ = (if c = A then (1 : Int) else T m c)
      unfold x_upT
      by_cases qc : c = A
      · rw [if_pos qc, if_pos ⟨rfl, qc⟩]
      · rw [if_neg qc, if_neg (fun w => qc w.2)]
    · rw [kn_nei e rfl q]
      exact x_TB_cg (fun c => x_upT_ne (by (first | decide +kernel | omega)) c) (r.1 m h1 h2)
  · rw [kn_nei e rfl (show m ≠ l by (first | decide +kernel | omega)), x_upT_ne (by (first | decide +kernel | omega))]
    exact r.2 m hm
theorem RCt_once {h h' : Hp} {T : Nat → Int → Int} {l : Nat} {x z : Int32} {lZ : Int} (r : RCt h T) (hl : l = 0 ∨ l = 6 ∨ l = 7 ∨ l = 8) (e : h' = pI h 92 l x) (e2 : x = z ||| 1) (hz : lZ = (l : Int)) : RCt h' (x_upT T lZ 0) := by
  subst hz
  refine ⟨fun m h1 h2 => ?_, fun m hm => ?_⟩
  · rw [kn_nei e rfl (show m ≠ l by (first | decide +kernel | omega))]
    exact x_TB_cg (fun c => x_upT_ne (by (first | decide +kernel | omega)) c) (r.1 m h1 h2)
  · by_cases q : m = l
    · subst q
      rw [kn_put e, e2]
      exact Or.inr ⟨or_one_ne z, if_pos ⟨rfl, rfl⟩⟩
    · rw [kn_nei e rfl q, x_upT_ne (by (first | decide +kernel | omega))]
      exact r.2 m hm
theorem RCt_nine {h h' : Hp} {T : Nat → Int → Int} {x : Int32} (r : RCt h T) (e : h' = pI h 92 9 x) : RCt h' (x_upT T 9 0) := by
  refine ⟨fun m h1 h2 => ?_, fun m hm => ?_⟩
  · rw [kn_nei e rfl (show m ≠ 9 by (first | decide +kernel | omega))]
    exact x_TB_cg (fun c => x_upT_ne (by (first | decide +kernel | omega)) c) (r.1 m h1 h2)
  · rw [kn_nei e rfl (show m ≠ 9 by (first | decide +kernel | omega)), x_upT_ne (by (first | decide +kernel | omega))]
    exact r.2 m hm
theorem RCd_debt {h : Hp} {D : Nat → Int} {T : Nat → Int → Int} (r : RC h T D) {d : Int32} {dZ : Int} (dK : h.1 75 4 = d) (dE : d.toInt = dZ) : dZ = D 86 := by
  have := r.2.1 75 4 86 rfl
  rw [dK, dE] at this
  exact this
theorem dof_row {k i n o : Nat} {A : Int} (hk : (k = 70 ∧ n = 16 ∧ o = 0) ∨ (k = 71 ∧ n = 16 ∧ o = 16) ∨ (k = 72 ∧ n = 16 ∧ o = 32) ∨ (k = 73 ∧ n = 16 ∧ o = 48) ∨ (k = 76 ∧ n = 4 ∧ o = 80)) (hA : 0 ≤ A ∧ A < (n : Int)) (hi : i = A.toNat) : dof k i = some (o + A.toNat) := by
  subst hi
  have h1 : A.toNat < n := by (first | decide +kernel | omega)
  rcases hk with ⟨rfl, rfl, rfl⟩ | ⟨rfl, rfl, rfl⟩ | ⟨rfl, rfl, rfl⟩ | ⟨rfl, rfl, rfl⟩ | ⟨rfl, rfl, rfl⟩
  · unfold dof; rw [if_pos ⟨rfl, h1⟩, Nat.zero_add]
  · unfold dof; rw [if_neg (by (first | decide +kernel | omega)), if_pos ⟨rfl, h1⟩]
  · unfold dof; rw [if_neg (by (first | decide +kernel | omega)), if_neg (by (first | decide +kernel | omega)), if_pos ⟨rfl, h1⟩]
  · unfold dof; rw [if_neg (by (first | decide +kernel | omega)), if_neg (by (first | decide +kernel | omega)), if_neg (by (first | decide +kernel | omega)), if_pos ⟨rfl, h1⟩]
  · unfold dof; rw [if_neg (by (first | decide +kernel | omega)), if_neg (by (first | decide +kernel | omega)), if_neg (by (first | decide +kernel | omega)), if_neg (by (first | decide +kernel | omega)), if_neg (by (first | decide +kernel | omega)), if_pos ⟨rfl, h1⟩]
theorem RC_owe {h h' : Hp} {D : Nat → Int} {T : Nat → Int → Int} {a b v u : Int32} {aZ bZ vZ uZ dZ : Int} (r : RC h T D) (hd : dZ = D 86) (h0 : 0 ≤ dZ ∧ dZ < 8) (ea : a.toInt = aZ) (eb : b.toInt = bZ) (ev : v.toInt = vZ) (eu : u.toInt = uZ) (hu : uZ = dZ + 1) (e : h' = pI (pI (pI (pI h 77 dZ.toNat a) 78 dZ.toNat b) 79 dZ.toNat v) 75 4 u) : RC h' T (x_up (x_up (x_up (x_up D (87 + 3 * D 86) aZ) (88 + 3 * D 86) bZ) (89 + 3 * D 86) vZ) 86 (D 86 + 1)) := by
  obtain ⟨r1, r2, r3⟩ := r
  have c1 : RCt h' T := RCt_ne (RCt_ne (RCt_ne (RCt_ne r1 rfl (by decide)) rfl (by decide)) rfl (by decide)) e (by decide)
  refine ⟨c1, fun k i d hk => ?_, fun i hi => ?_⟩
  · have hb := dof_k hk
    by_cases q : k = 75
    · subst q
      have hi : i = 4 ∧ d = 86 := by
        unfold dof at hk
        rw [if_neg (by (first | decide +kernel | omega)), if_neg (by (first | decide +kernel | omega)), if_neg (by (first | decide +kernel | omega)), if_neg (by (first | decide +kernel | omega)), if_neg (by (first | decide +kernel | omega)), if_neg (by (first | decide +kernel | omega)), if_neg (by (first | decide +kernel | omega)), if_neg (by (first | decide +kernel | omega))] at hk
        split at hk
        · next w => cases hk; exact ⟨w.2, rfl⟩
        · rw [if_neg (by (first | decide +kernel | omega)), if_neg (by (first | decide +kernel | omega))] at hk; cases hk
      obtain ⟨rfl, rfl⟩ := hi
      rw [kn_put e, eu, hu, hd]
      exact (if_pos rfl).symm
    · have hd86 : d ≠ 86 := fun w => by
        subst w
        have := dofi_of hk
        have h2 : dofi 86 = (75, 4) := rfl
        rw [h2] at this
        cases this
        exact q rfl
      rw [kn_ne e rfl q]
      rw [kn_ne (rfl : _ = pI (pI (pI h 77 dZ.toNat a) 78 dZ.toNat b) 79 dZ.toNat v) rfl (show k ≠ 79 by (first | decide +kernel | omega)), kn_ne (rfl : _ = pI (pI h 77 dZ.toNat a) 78 dZ.toNat b) rfl (show k ≠ 78 by (first | decide +kernel | omega)), kn_ne (rfl : _ = pI h 77 dZ.toNat a) rfl (show k ≠ 77 by (first | decide +kernel | omega))]
      rw [r2 k i d hk]
      unfold x_up
      rw [if_neg (by (first | decide +kernel | omega)), if_neg (by (first | decide +kernel | omega)), if_neg (by (first | decide +kernel | omega)), if_neg (by (first | decide +kernel | omega))]
  · have h86 : x_up (x_up (x_up (x_up D (87 + 3 * D 86) aZ) (88 + 3 * D 86) bZ) (89 + 3 * D 86) vZ) 86 (D 86 + 1) 86 = D 86 + 1 := if_pos rfl
    rw [h86] at hi
    by_cases q : i = dZ.toNat
    · subst q
      have e3 : h'.1 79 dZ.toNat = v := by rw [kn_ne e rfl (by decide)]; exact kn_put rfl
      have e2 : h'.1 78 dZ.toNat = b := by rw [kn_ne e rfl (by decide), kn_ne (rfl : _ = pI (pI (pI h 77 dZ.toNat a) 78 dZ.toNat b) 79 dZ.toNat v) rfl (by decide)]; exact kn_put rfl
      have e1 : h'.1 77 dZ.toNat = a := by rw [kn_ne e rfl (by decide), kn_ne (rfl : _ = pI (pI (pI h 77 dZ.toNat a) 78 dZ.toNat b) 79 dZ.toNat v) rfl (by decide), kn_ne (rfl : _ = pI (pI h 77 dZ.toNat a) 78 dZ.toNat b) rfl (by decide)]; exact kn_put rfl
      rw [e1, e2, e3, ea, eb, ev]
      refine ⟨?_, ?_, ?_⟩
      · unfold x_up; rw [if_neg (by (first | decide +kernel | omega)), if_neg (by (first | decide +kernel | omega)), if_neg (by (first | decide +kernel | omega)), if_pos (by (first | decide +kernel | omega))]
      · unfold x_up; rw [if_neg (by (first | decide +kernel | omega)), if_neg (by (first | decide +kernel | omega)), if_pos (by (first | decide +kernel | omega))]
      · unfold x_up; rw [if_neg (by (first | decide +kernel | omega)), if_pos (by (first | decide +kernel | omega))]
    · have hi2 : (i : Int) < D 86 := by (first | decide +kernel | omega)
      have g := r3 i hi2
      have e3 : h'.1 79 i = h.1 79 i := by rw [kn_ne e rfl (by decide), kn_nei (rfl : _ = pI (pI (pI h 77 dZ.toNat a) 78 dZ.toNat b) 79 dZ.toNat v) rfl q, kn_ne (rfl : _ = pI (pI h 77 dZ.toNat a) 78 dZ.toNat b) rfl (by decide)]; exact kn_ne rfl rfl (by decide)
      have e2 : h'.1 78 i = h.1 78 i := by rw [kn_ne e rfl (by decide), kn_ne (rfl : _ = pI (pI (pI h 77 dZ.toNat a) 78 dZ.toNat b) 79 dZ.toNat v) rfl (by decide), kn_nei (rfl : _ = pI (pI h 77 dZ.toNat a) 78 dZ.toNat b) rfl q]; exact kn_ne rfl rfl (by decide)
      have e1 : h'.1 77 i = h.1 77 i := by rw [kn_ne e rfl (by decide), kn_ne (rfl : _ = pI (pI (pI h 77 dZ.toNat a) 78 dZ.toNat b) 79 dZ.toNat v) rfl (by decide), kn_ne (rfl : _ = pI (pI h 77 dZ.toNat a) 78 dZ.toNat b) rfl (by decide)]; exact kn_nei rfl rfl q
      rw [e1, e2, e3, g.1, g.2.1, g.2.2]
      refine ⟨?_, ?_, ?_⟩ <;> (unfold x_up; rw [if_neg (by (first | decide +kernel | omega)), if_neg (by (first | decide +kernel | omega)), if_neg (by (first | decide +kernel | omega)), if_neg (by (first | decide +kernel | omega))])
theorem TB_kn {h : Hp} {k l : Nat} {z : Int32} {t : Int → Int} (e : h.1 k l = z) (r : x_TB (h.1 k l) t) : x_TB z t := by rw [← e]; exact r
end
section
def S_Ledger_addDebtX_4 : List (Nat × Option Nat) := [(75, some 4), (77, none), (78, none), (79, none)]
abbrev q_Ledger_addDebtX_4 (h : Hp) (a : Int32) (aZ : Int) (b : Int32) (bZ : Int) (v : Int32) (vZ : Int) (d : Int32) (dZ : Int) : Option Value → Hp → Prop := pVd (fun h' => Inv h' ∧ fr S_Ledger_addDebtX_4 h h' ∧ ∃ (u : Int32) (uZ : Int), u.toInt = uZ ∧ h'.1 75 4 = u ∧ (h' = pI (pI (pI (pI h 77 dZ.toNat a) 78 dZ.toNat b) 79 dZ.toNat v) 75 4 u ∧ uZ = dZ + 1))
set_option maxRecDepth 100000 in
theorem c_Ledger_addDebtX_4 (h : Hp) (hI : Inv h) (a : Int32) (aZ : Int) (aE : a.toInt = aZ) (b : Int32) (bZ : Int) (bE : b.toInt = bZ) (v : Int32) (vZ : Int) (vE : v.toInt = vZ) (d : Int32) (dZ : Int) (dE : d.toInt = dZ) (dK : h.1 75 4 = d) (hy0 : dZ < 8) : Ct y_Ledger_addDebt b_Ledger_addDebt 4 none 0 0 [.ref 75, .int a, .int b, .int v] h (q_Ledger_addDebtX_4 h a aZ b bZ v vZ d dZ) := by
  refine ct_ow R_Ledger [some (.ref 75), some (.int a), some (.int b), some (.int v)] rfl (by decide) rfl (Nat.le_of_ble_eq_true rfl) ?_
  have f0 : fr S_Ledger_addDebtX_4 h h := fr_rf
  have g1 : 0 ≤ dZ ∧ dZ ≤ 8 := inv_at hI dE dK.symm rfl
  refine V_aload_n 0 d_Ledger_addDebt_0 rfl rfl ?_
  refine N_getK fa_Ledger_30 sk_75 rfl d_Ledger_addDebt_1 dK ?_
  refine V_bipush 8 d_Ledger_addDebt_4 (by decide) ?_
  refine V_icmp_ge 49 dE tc_8 d_Ledger_addDebt_6 (by decide) (fun c2 => ?_) (fun c2 => ?_)
  ·
    exact V_vret rfl d_Ledger_addDebt_49 ⟨rfl, ⟨hI, f0, d, dZ, dE, dK, (by exfalso; omega)⟩⟩
  ·
    refine V_aload_n 0 d_Ledger_addDebt_9 rfl rfl ?_
    refine V_getR fa_Ledger_15 sk_75 rfl d_Ledger_addDebt_10 ?_
    refine V_aload_n 0 d_Ledger_addDebt_13 rfl rfl ?_
    refine N_getK fa_Ledger_30 sk_75 rfl d_Ledger_addDebt_14 dK ?_
    refine V_iload_n 1 d_Ledger_addDebt_17 rfl rfl ?_
    refine N_iast sk_77 dE (by (first | decide +kernel | omega)) d_Ledger_addDebt_18 (fun h3 eh3 => ?_)
    have hI4 : Inv h3 := inv_full hI eh3 rfl
    have f5 : fr S_Ledger_addDebtX_4 h h3 := fr_put f0 eh3 rfl
    refine V_aload_n 0 d_Ledger_addDebt_19 rfl rfl ?_
    refine V_getR fa_Ledger_18 sk_75 rfl d_Ledger_addDebt_20 ?_
    refine V_aload_n 0 d_Ledger_addDebt_23 rfl rfl ?_
    refine N_getK fa_Ledger_30 sk_75 rfl d_Ledger_addDebt_24 (kn_ne eh3 dK (by decide)) ?_
    refine V_iload_n 2 d_Ledger_addDebt_27 rfl rfl ?_
    refine N_iast sk_78 dE (by (first | decide +kernel | omega)) d_Ledger_addDebt_28 (fun h6 eh6 => ?_)
    have hI7 : Inv h6 := inv_full hI4 eh6 rfl
    have f8 : fr S_Ledger_addDebtX_4 h h6 := fr_put f5 eh6 rfl
    refine V_aload_n 0 d_Ledger_addDebt_29 rfl rfl ?_
    refine V_getR fa_Ledger_21 sk_75 rfl d_Ledger_addDebt_30 ?_
    refine V_aload_n 0 d_Ledger_addDebt_33 rfl rfl ?_
    refine N_getK fa_Ledger_30 sk_75 rfl d_Ledger_addDebt_34 (kn_ne eh6 (kn_ne eh3 dK (by decide)) (by decide)) ?_
    refine V_iload_n 3 d_Ledger_addDebt_37 rfl rfl ?_
    refine N_iast sk_79 dE (by (first | decide +kernel | omega)) d_Ledger_addDebt_38 (fun h9 eh9 => ?_)
    have hI10 : Inv h9 := inv_full hI7 eh9 rfl
    have f11 : fr S_Ledger_addDebtX_4 h h9 := fr_put f8 eh9 rfl
    refine V_aload_n 0 d_Ledger_addDebt_39 rfl rfl ?_
    refine V_dup d_Ledger_addDebt_40 rfl ?_
    refine N_getK fa_Ledger_30 sk_75 rfl d_Ledger_addDebt_41 (kn_ne eh9 (kn_ne eh6 (kn_ne eh3 dK (by decide)) (by decide)) (by decide)) ?_
    refine V_iconst 1 d_Ledger_addDebt_44 (by decide) ?_
    refine V_iadd dE tc_1 (by (first | decide +kernel | omega)) d_Ledger_addDebt_45 (fun z12 z12e z12E => ?_)
    refine N_putI fp_Ledger_30 sk_75 rfl d_Ledger_addDebt_46 (fun h13 eh13 => ?_)
    have hI14 : Inv h13 := inv_put (lo := 0) (hi := 8) hI10 eh13 rfl z12E (by (first | decide +kernel | omega))
    have f15 : fr S_Ledger_addDebtX_4 h h13 := fr_put f11 eh13 rfl
    exact V_vret rfl d_Ledger_addDebt_49 ⟨rfl, ⟨hI14, f15, z12, (dZ + 1), z12E, (kn_put eh13), ⟨by rw [eh13, eh9, eh6, eh3], by (first | decide +kernel | omega)⟩⟩⟩
def S_Reader_tellLineX_0 : List (Nat × Option Nat) := [(92, none), (69, none), (70, none), (71, none), (72, none), (73, none), (74, none), (76, none), (68, some 3), (68, some 4), (75, some 4), (77, none), (78, none), (79, none)]
abbrev q_Reader_tellLineX_0 (h : Hp) (T : Nat → Int → Int) (D : Nat → Int) (a : Int32) (aZ : Int) (b : Int32) (bZ : Int) (z : Int32) (zZ : Int) (d : Int32) (dZ : Int) : Option Value → Hp → Prop := pVd (fun h' => Inv h' ∧ fr S_Reader_tellLineX_0 h h' ∧ RC h' (x_upT T 0 0) (x_up (x_up D 144 aZ) 145 bZ))
set_option maxRecDepth 100000 in
theorem c_Reader_tellLineX_0 (h : Hp) (T : Nat → Int → Int) (D : Nat → Int) (hI : Inv h) (a : Int32) (aZ : Int) (aE : a.toInt = aZ) (aK : h.1 91 0 = a) (b : Int32) (bZ : Int) (bE : b.toInt = bZ) (bK : h.1 91 1 = b) (z : Int32) (zZ : Int) (zE : z.toInt = zZ) (zK : h.1 92 0 = z) (d : Int32) (dZ : Int) (dE : d.toInt = dZ) (dK : h.1 75 4 = d) (hy0 : RC h T D) (hy1 : 2 ≤ aZ ∧ aZ ≤ 4) (hy2 : 2 ≤ bZ ∧ bZ ≤ 4) : Ct y_Reader_tellLine b_Reader_tellLine 5 none 1 20 [.ref 88, .int 0] h (q_Reader_tellLineX_0 h T D a aZ b bZ z zZ d dZ) := by
  refine ct_ow R_Reader [some (.ref 88), some (.int 0), none, none, none] rfl (by decide) rfl (Nat.le_of_ble_eq_true rfl) ?_
  have f0 : fr S_Reader_tellLineX_0 h h := fr_rf
  have g1 : 0 ≤ dZ ∧ dZ ≤ 8 := inv_at hI dE dK.symm rfl
  refine V_aload_n 0 d_Reader_tellLine_0 rfl rfl ?_
  refine V_getR fa_Reader_21 sk_88 rfl d_Reader_tellLine_1 ?_
  refine V_getR fa_Reader_71 sk_68 rfl d_Reader_tellLine_4 ?_
  refine V_astore_n 2 [some (.ref 88), some (.int 0), some (.ref 69), none, none] d_Reader_tellLine_7 rfl (by decide) rfl rfl ?_
  refine V_aload_n 0 d_Reader_tellLine_8 rfl rfl ?_
  refine V_getR fa_Reader_25 sk_88 rfl d_Reader_tellLine_9 ?_
  refine V_iconst 0 d_Reader_tellLine_12 (by decide) ?_
  refine N_ialdK sk_91 tc_0 (by (first | decide +kernel | omega)) d_Reader_tellLine_13 aK ?_
  refine V_istore_n 3 [some (.ref 88), some (.int 0), some (.ref 69), some (.int a), none] d_Reader_tellLine_14 rfl (by decide) rfl rfl ?_
  refine V_aload_n 0 d_Reader_tellLine_15 rfl rfl ?_
  refine V_getR fa_Reader_25 sk_88 rfl d_Reader_tellLine_16 ?_
  refine V_iconst 1 d_Reader_tellLine_19 (by decide) ?_
  refine N_ialdK sk_91 tc_1 (by (first | decide +kernel | omega)) d_Reader_tellLine_20 bK ?_
  refine V_istore 4 [some (.ref 88), some (.int 0), some (.ref 69), some (.int a), some (.int b)] d_Reader_tellLine_21 (by decide) rfl rfl ?_
  refine V_aload_n 0 d_Reader_tellLine_23 rfl rfl ?_
  refine V_getR fa_Reader_29 sk_88 rfl d_Reader_tellLine_24 ?_
  refine V_iload_n 1 d_Reader_tellLine_27 rfl rfl ?_
  refine V_dup2 d_Reader_tellLine_28 rfl rfl ?_
  refine N_ialdK sk_92 tc_0 (by (first | decide +kernel | omega)) d_Reader_tellLine_29 zK ?_
  refine V_iload_n 1 d_Reader_tellLine_30 rfl rfl ?_
  refine N_callSI [.int 0] [.int z, .int 0, .ref 92] cs_Reader_131 d_Reader_tellLine_31 rfl (Nat.le_of_ble_eq_true rfl) (by decide) (by decide) (c_Reader_isOfOneX_0 h) (fun z5 h6 z5Z z5E p7 => ?_)
  obtain ⟨eh6, p7⟩ := p7
  subst eh6
  refine V_if_eq 43 z5E d_Reader_tellLine_34 (by decide) (fun c8 => ?_) (fun c8 => ?_)
  ·
    refine V_iconst 1 d_Reader_tellLine_43 (by decide) ?_
    refine N_ior d_Reader_tellLine_44 (fun z9 z9Z z9E z9e => ?_)
    refine N_iast sk_92 tc_0 (by (first | decide +kernel | omega)) d_Reader_tellLine_45 (fun h10 eh10 => ?_)
    have hI11 : Inv h10 := inv_full hI eh10 rfl
    have f12 : fr S_Reader_tellLineX_0 h h10 := fr_put f0 eh10 rfl
    refine V_iload_n 1 d_Reader_tellLine_46 rfl rfl ?_
    refine V_tabIn 96 tc_0 d_Reader_tellLine_47 (by decide) (by decide) rfl (by decide) ?_
    refine V_aload_n 2 d_Reader_tellLine_96 rfl rfl ?_
    refine V_iload_n 3 d_Reader_tellLine_97 rfl rfl ?_
    refine N_putI fp_Reader_134 sk_69 rfl d_Reader_tellLine_98 (fun h13 eh13 => ?_)
    have hI14 : Inv h13 := inv_put (lo := 2) (hi := 4) hI11 eh13 rfl aE (by (first | decide +kernel | omega))
    have f15 : fr S_Reader_tellLineX_0 h h13 := fr_put f12 eh13 rfl
    refine V_aload_n 2 d_Reader_tellLine_101 rfl rfl ?_
    refine V_iload d_Reader_tellLine_102 rfl ?_
    refine N_putI fp_Reader_137 sk_69 rfl d_Reader_tellLine_104 (fun h16 eh16 => ?_)
    have hI17 : Inv h16 := inv_put (lo := 2) (hi := 4) hI14 eh16 rfl bE (by (first | decide +kernel | omega))
    have f18 : fr S_Reader_tellLineX_0 h h16 := fr_put f15 eh16 rfl
    refine V_goto 227 d_Reader_tellLine_107 (by decide) ?_
    exact V_vret rfl d_Reader_tellLine_227 ⟨rfl, ⟨hI17, f18, ⟨RCt_ne (RCt_ne (RCt_once hy0.1 (by decide) eh10 (by assumption) rfl) eh13 (by decide)) eh16 (by decide), RCd_put (RCd_put (RCd_ne hy0.2.1 eh10 (by decide)) eh13 (show dof 69 0 = some 144 from rfl) aE (by (first | decide +kernel | omega))) eh16 (show dof 69 1 = some 145 from rfl) bE (by (first | decide +kernel | omega)), RCb_put (RCb_put (RCb_ne hy0.2.2 eh10 ⟨by decide, by decide, by decide⟩) eh13 ⟨by decide, by decide, by decide⟩ (by (first | decide +kernel | omega)) (fun j hj => by have q0 := RCd_debt hy0 dK dE; omega)) eh16 ⟨by decide, by decide, by decide⟩ (by (first | decide +kernel | omega)) (fun j hj => by have q0 := RCd_debt hy0 dK dE; have q1 := x_up86 (D := D) (k := 144) (v := aZ) (by decide); omega)⟩⟩⟩
  ·
    exact absurd c8 (by (first | decide +kernel | omega))
def S_Reader_tellLineX_1 : List (Nat × Option Nat) := [(92, none), (69, none), (70, none), (71, none), (72, none), (73, none), (74, none), (76, none), (68, some 3), (68, some 4), (75, some 4), (77, none), (78, none), (79, none)]
abbrev q_Reader_tellLineX_1 (h : Hp) (T : Nat → Int → Int) (D : Nat → Int) (a : Int32) (aZ : Int) (b : Int32) (bZ : Int) (z : Int32) (zZ : Int) (d : Int32) (dZ : Int) : Option Value → Hp → Prop := pVd (fun h' => Inv h' ∧ fr S_Reader_tellLineX_1 h h' ∧ RC h' (x_upT T 1 aZ) (x_up D aZ bZ))
set_option maxRecDepth 100000 in
theorem c_Reader_tellLineX_1 (h : Hp) (T : Nat → Int → Int) (D : Nat → Int) (hI : Inv h) (a : Int32) (aZ : Int) (aE : a.toInt = aZ) (aK : h.1 91 0 = a) (b : Int32) (bZ : Int) (bE : b.toInt = bZ) (bK : h.1 91 1 = b) (z : Int32) (zZ : Int) (zE : z.toInt = zZ) (zK : h.1 92 1 = z) (d : Int32) (dZ : Int) (dE : d.toInt = dZ) (dK : h.1 75 4 = d) (hy0 : RC h T D) (hy1 : 0 ≤ aZ ∧ aZ ≤ 15) (hy2 : 1 ≤ bZ ∧ bZ ≤ 9) : Ct y_Reader_tellLine b_Reader_tellLine 5 none 1 20 [.ref 88, .int 1] h (q_Reader_tellLineX_1 h T D a aZ b bZ z zZ d dZ) := by
  refine ct_ow R_Reader [some (.ref 88), some (.int 1), none, none, none] rfl (by decide) rfl (Nat.le_of_ble_eq_true rfl) ?_
  have f0 : fr S_Reader_tellLineX_1 h h := fr_rf
  have g1 : 0 ≤ dZ ∧ dZ ≤ 8 := inv_at hI dE dK.symm rfl
  refine V_aload_n 0 d_Reader_tellLine_0 rfl rfl ?_
  refine V_getR fa_Reader_21 sk_88 rfl d_Reader_tellLine_1 ?_
  refine V_getR fa_Reader_71 sk_68 rfl d_Reader_tellLine_4 ?_
  refine V_astore_n 2 [some (.ref 88), some (.int 1), some (.ref 69), none, none] d_Reader_tellLine_7 rfl (by decide) rfl rfl ?_
  refine V_aload_n 0 d_Reader_tellLine_8 rfl rfl ?_
  refine V_getR fa_Reader_25 sk_88 rfl d_Reader_tellLine_9 ?_
  refine V_iconst 0 d_Reader_tellLine_12 (by decide) ?_
  refine N_ialdK sk_91 tc_0 (by (first | decide +kernel | omega)) d_Reader_tellLine_13 aK ?_
  refine V_istore_n 3 [some (.ref 88), some (.int 1), some (.ref 69), some (.int a), none] d_Reader_tellLine_14 rfl (by decide) rfl rfl ?_
  refine V_aload_n 0 d_Reader_tellLine_15 rfl rfl ?_
  refine V_getR fa_Reader_25 sk_88 rfl d_Reader_tellLine_16 ?_
  refine V_iconst 1 d_Reader_tellLine_19 (by decide) ?_
  refine N_ialdK sk_91 tc_1 (by (first | decide +kernel | omega)) d_Reader_tellLine_20 bK ?_
  refine V_istore 4 [some (.ref 88), some (.int 1), some (.ref 69), some (.int a), some (.int b)] d_Reader_tellLine_21 (by decide) rfl rfl ?_
  refine V_aload_n 0 d_Reader_tellLine_23 rfl rfl ?_
  refine V_getR fa_Reader_29 sk_88 rfl d_Reader_tellLine_24 ?_
  refine V_iload_n 1 d_Reader_tellLine_27 rfl rfl ?_
  refine V_dup2 d_Reader_tellLine_28 rfl rfl ?_
  refine N_ialdK sk_92 tc_1 (by (first | decide +kernel | omega)) d_Reader_tellLine_29 zK ?_
  refine V_iload_n 1 d_Reader_tellLine_30 rfl rfl ?_
  refine N_callSI [.int 1] [.int z, .int 1, .ref 92] cs_Reader_131 d_Reader_tellLine_31 rfl (Nat.le_of_ble_eq_true rfl) (by decide) (by decide) (c_Reader_isOfOneX_1 h) (fun z5 h6 z5Z z5E p7 => ?_)
  obtain ⟨eh6, p7⟩ := p7
  subst eh6
  refine V_if_eq 43 z5E d_Reader_tellLine_34 (by decide) (fun c8 => ?_) (fun c8 => ?_)
  ·
    exact absurd c8 (by (first | decide +kernel | omega))
  ·
    refine V_iconst 1 d_Reader_tellLine_37 (by decide) ?_
    refine V_iload_n 3 d_Reader_tellLine_38 rfl rfl ?_
    refine N_ishl d_Reader_tellLine_39 (fun z9 z9Z z9E z9e => ?_)
    refine V_goto 44 d_Reader_tellLine_40 (by decide) ?_
    refine N_ior d_Reader_tellLine_44 (fun z10 z10Z z10E z10e => ?_)
    refine N_iast sk_92 tc_1 (by (first | decide +kernel | omega)) d_Reader_tellLine_45 (fun h11 eh11 => ?_)
    have hI12 : Inv h11 := inv_full hI eh11 rfl
    have f13 : fr S_Reader_tellLineX_1 h h11 := fr_put f0 eh11 rfl
    refine V_iload_n 1 d_Reader_tellLine_46 rfl rfl ?_
    refine V_tabIn 110 tc_1 d_Reader_tellLine_47 (by decide) (by decide) rfl (by decide) ?_
    refine V_aload_n 2 d_Reader_tellLine_110 rfl rfl ?_
    refine V_getR fa_Reader_140 sk_69 rfl d_Reader_tellLine_111 ?_
    refine V_iload_n 3 d_Reader_tellLine_114 rfl rfl ?_
    refine V_iload d_Reader_tellLine_115 rfl ?_
    refine N_iast sk_70 aE (by (first | decide +kernel | omega)) d_Reader_tellLine_117 (fun h14 eh14 => ?_)
    have hI15 : Inv h14 := inv_full hI12 eh14 rfl
    have f16 : fr S_Reader_tellLineX_1 h h14 := fr_put f13 eh14 rfl
    refine V_goto 227 d_Reader_tellLine_118 (by decide) ?_
    exact V_vret rfl d_Reader_tellLine_227 ⟨rfl, ⟨hI15, f16, ⟨RCt_ne (RCt_one hy0.1 ⟨by decide, by decide⟩ eh11 zK (by (first | decide +kernel | omega)) aE (by assumption) (by assumption) rfl) eh14 (by decide), RCd_put (RCd_ne hy0.2.1 eh11 (by decide)) eh14 (dof_row (k := 70) (n := 16) (o := 0) (A := aZ) (by decide) (by (first | decide +kernel | omega)) rfl) bE (by (first | decide +kernel | omega)), RCb_put (RCb_ne hy0.2.2 eh11 ⟨by decide, by decide, by decide⟩) eh14 ⟨by decide, by decide, by decide⟩ (by (first | decide +kernel | omega)) (fun j hj => by have q0 := RCd_debt hy0 dK dE; omega)⟩⟩⟩
def S_Reader_tellLineX_2 : List (Nat × Option Nat) := [(92, none), (69, none), (70, none), (71, none), (72, none), (73, none), (74, none), (76, none), (68, some 3), (68, some 4), (75, some 4), (77, none), (78, none), (79, none)]
abbrev q_Reader_tellLineX_2 (h : Hp) (T : Nat → Int → Int) (D : Nat → Int) (a : Int32) (aZ : Int) (z : Int32) (zZ : Int) (d : Int32) (dZ : Int) : Option Value → Hp → Prop := pVd (fun h' => Inv h' ∧ fr S_Reader_tellLineX_2 h h' ∧ RC h' (x_upT T 2 aZ) (x_up D (16 + aZ) 1))
set_option maxRecDepth 100000 in
theorem c_Reader_tellLineX_2 (h : Hp) (T : Nat → Int → Int) (D : Nat → Int) (hI : Inv h) (a : Int32) (aZ : Int) (aE : a.toInt = aZ) (aK : h.1 91 0 = a) (z : Int32) (zZ : Int) (zE : z.toInt = zZ) (zK : h.1 92 2 = z) (d : Int32) (dZ : Int) (dE : d.toInt = dZ) (dK : h.1 75 4 = d) (hy0 : RC h T D) (hy1 : 0 ≤ aZ ∧ aZ ≤ 15) : Ct y_Reader_tellLine b_Reader_tellLine 5 none 1 20 [.ref 88, .int 2] h (q_Reader_tellLineX_2 h T D a aZ z zZ d dZ) := by
  refine ct_ow R_Reader [some (.ref 88), some (.int 2), none, none, none] rfl (by decide) rfl (Nat.le_of_ble_eq_true rfl) ?_
  have f0 : fr S_Reader_tellLineX_2 h h := fr_rf
  have g1 : 0 ≤ dZ ∧ dZ ≤ 8 := inv_at hI dE dK.symm rfl
  refine V_aload_n 0 d_Reader_tellLine_0 rfl rfl ?_
  refine V_getR fa_Reader_21 sk_88 rfl d_Reader_tellLine_1 ?_
  refine V_getR fa_Reader_71 sk_68 rfl d_Reader_tellLine_4 ?_
  refine V_astore_n 2 [some (.ref 88), some (.int 2), some (.ref 69), none, none] d_Reader_tellLine_7 rfl (by decide) rfl rfl ?_
  refine V_aload_n 0 d_Reader_tellLine_8 rfl rfl ?_
  refine V_getR fa_Reader_25 sk_88 rfl d_Reader_tellLine_9 ?_
  refine V_iconst 0 d_Reader_tellLine_12 (by decide) ?_
  refine N_ialdK sk_91 tc_0 (by (first | decide +kernel | omega)) d_Reader_tellLine_13 aK ?_
  refine V_istore_n 3 [some (.ref 88), some (.int 2), some (.ref 69), some (.int a), none] d_Reader_tellLine_14 rfl (by decide) rfl rfl ?_
  refine V_aload_n 0 d_Reader_tellLine_15 rfl rfl ?_
  refine V_getR fa_Reader_25 sk_88 rfl d_Reader_tellLine_16 ?_
  refine V_iconst 1 d_Reader_tellLine_19 (by decide) ?_
  refine N_iald sk_91 tc_1 (by (first | decide +kernel | omega)) d_Reader_tellLine_20 (fun z3 z3Z z3E z3e => ?_)
  refine V_istore 4 [some (.ref 88), some (.int 2), some (.ref 69), some (.int a), some (.int z3)] d_Reader_tellLine_21 (by decide) rfl rfl ?_
  refine V_aload_n 0 d_Reader_tellLine_23 rfl rfl ?_
  refine V_getR fa_Reader_29 sk_88 rfl d_Reader_tellLine_24 ?_
  refine V_iload_n 1 d_Reader_tellLine_27 rfl rfl ?_
  refine V_dup2 d_Reader_tellLine_28 rfl rfl ?_
  refine N_ialdK sk_92 tc_2 (by (first | decide +kernel | omega)) d_Reader_tellLine_29 zK ?_
  refine V_iload_n 1 d_Reader_tellLine_30 rfl rfl ?_
  refine N_callSI [.int 2] [.int z, .int 2, .ref 92] cs_Reader_131 d_Reader_tellLine_31 rfl (Nat.le_of_ble_eq_true rfl) (by decide) (by decide) (c_Reader_isOfOneX_2 h) (fun z5 h6 z5Z z5E p7 => ?_)
  obtain ⟨eh6, p7⟩ := p7
  subst eh6
  refine V_if_eq 43 z5E d_Reader_tellLine_34 (by decide) (fun c8 => ?_) (fun c8 => ?_)
  ·
    exact absurd c8 (by (first | decide +kernel | omega))
  ·
    refine V_iconst 1 d_Reader_tellLine_37 (by decide) ?_
    refine V_iload_n 3 d_Reader_tellLine_38 rfl rfl ?_
    refine N_ishl d_Reader_tellLine_39 (fun z9 z9Z z9E z9e => ?_)
    refine V_goto 44 d_Reader_tellLine_40 (by decide) ?_
    refine N_ior d_Reader_tellLine_44 (fun z10 z10Z z10E z10e => ?_)
    refine N_iast sk_92 tc_2 (by (first | decide +kernel | omega)) d_Reader_tellLine_45 (fun h11 eh11 => ?_)
    have hI12 : Inv h11 := inv_full hI eh11 rfl
    have f13 : fr S_Reader_tellLineX_2 h h11 := fr_put f0 eh11 rfl
    refine V_iload_n 1 d_Reader_tellLine_46 rfl rfl ?_
    refine V_tabIn 121 tc_2 d_Reader_tellLine_47 (by decide) (by decide) rfl (by decide) ?_
    refine V_aload_n 2 d_Reader_tellLine_121 rfl rfl ?_
    refine V_getR fa_Reader_143 sk_69 rfl d_Reader_tellLine_122 ?_
    refine V_iload_n 3 d_Reader_tellLine_125 rfl rfl ?_
    refine V_iconst 1 d_Reader_tellLine_126 (by decide) ?_
    refine N_iast sk_71 aE (by (first | decide +kernel | omega)) d_Reader_tellLine_127 (fun h14 eh14 => ?_)
    have hI15 : Inv h14 := inv_full hI12 eh14 rfl
    have f16 : fr S_Reader_tellLineX_2 h h14 := fr_put f13 eh14 rfl
    refine V_goto 227 d_Reader_tellLine_128 (by decide) ?_
    exact V_vret rfl d_Reader_tellLine_227 ⟨rfl, ⟨hI15, f16, ⟨RCt_ne (RCt_one hy0.1 ⟨by decide, by decide⟩ eh11 zK (by (first | decide +kernel | omega)) aE (by assumption) (by assumption) rfl) eh14 (by decide), RCd_put (RCd_ne hy0.2.1 eh11 (by decide)) eh14 (dof_row (k := 71) (n := 16) (o := 16) (A := aZ) (by decide) (by (first | decide +kernel | omega)) rfl) rfl (by (first | decide +kernel | omega)), RCb_put (RCb_ne hy0.2.2 eh11 ⟨by decide, by decide, by decide⟩) eh14 ⟨by decide, by decide, by decide⟩ (by (first | decide +kernel | omega)) (fun j hj => by have q0 := RCd_debt hy0 dK dE; omega)⟩⟩⟩
def S_Reader_tellLineX_3 : List (Nat × Option Nat) := [(92, none), (69, none), (70, none), (71, none), (72, none), (73, none), (74, none), (76, none), (68, some 3), (68, some 4), (75, some 4), (77, none), (78, none), (79, none)]
abbrev q_Reader_tellLineX_3 (h : Hp) (T : Nat → Int → Int) (D : Nat → Int) (a : Int32) (aZ : Int) (b : Int32) (bZ : Int) (z : Int32) (zZ : Int) (d : Int32) (dZ : Int) : Option Value → Hp → Prop := pVd (fun h' => Inv h' ∧ fr S_Reader_tellLineX_3 h h' ∧ RC h' (x_upT T 3 aZ) (x_up D (32 + aZ) bZ))
set_option maxRecDepth 100000 in
theorem c_Reader_tellLineX_3 (h : Hp) (T : Nat → Int → Int) (D : Nat → Int) (hI : Inv h) (a : Int32) (aZ : Int) (aE : a.toInt = aZ) (aK : h.1 91 0 = a) (b : Int32) (bZ : Int) (bE : b.toInt = bZ) (bK : h.1 91 1 = b) (z : Int32) (zZ : Int) (zE : z.toInt = zZ) (zK : h.1 92 3 = z) (d : Int32) (dZ : Int) (dE : d.toInt = dZ) (dK : h.1 75 4 = d) (hy0 : RC h T D) (hy1 : 0 ≤ aZ ∧ aZ ≤ 15) (hy2 : 0 ≤ bZ ∧ bZ ≤ 10) : Ct y_Reader_tellLine b_Reader_tellLine 5 none 1 20 [.ref 88, .int 3] h (q_Reader_tellLineX_3 h T D a aZ b bZ z zZ d dZ) := by
  refine ct_ow R_Reader [some (.ref 88), some (.int 3), none, none, none] rfl (by decide) rfl (Nat.le_of_ble_eq_true rfl) ?_
  have f0 : fr S_Reader_tellLineX_3 h h := fr_rf
  have g1 : 0 ≤ dZ ∧ dZ ≤ 8 := inv_at hI dE dK.symm rfl
  refine V_aload_n 0 d_Reader_tellLine_0 rfl rfl ?_
  refine V_getR fa_Reader_21 sk_88 rfl d_Reader_tellLine_1 ?_
  refine V_getR fa_Reader_71 sk_68 rfl d_Reader_tellLine_4 ?_
  refine V_astore_n 2 [some (.ref 88), some (.int 3), some (.ref 69), none, none] d_Reader_tellLine_7 rfl (by decide) rfl rfl ?_
  refine V_aload_n 0 d_Reader_tellLine_8 rfl rfl ?_
  refine V_getR fa_Reader_25 sk_88 rfl d_Reader_tellLine_9 ?_
  refine V_iconst 0 d_Reader_tellLine_12 (by decide) ?_
  refine N_ialdK sk_91 tc_0 (by (first | decide +kernel | omega)) d_Reader_tellLine_13 aK ?_
  refine V_istore_n 3 [some (.ref 88), some (.int 3), some (.ref 69), some (.int a), none] d_Reader_tellLine_14 rfl (by decide) rfl rfl ?_
  refine V_aload_n 0 d_Reader_tellLine_15 rfl rfl ?_
  refine V_getR fa_Reader_25 sk_88 rfl d_Reader_tellLine_16 ?_
  refine V_iconst 1 d_Reader_tellLine_19 (by decide) ?_
  refine N_ialdK sk_91 tc_1 (by (first | decide +kernel | omega)) d_Reader_tellLine_20 bK ?_
  refine V_istore 4 [some (.ref 88), some (.int 3), some (.ref 69), some (.int a), some (.int b)] d_Reader_tellLine_21 (by decide) rfl rfl ?_
  refine V_aload_n 0 d_Reader_tellLine_23 rfl rfl ?_
  refine V_getR fa_Reader_29 sk_88 rfl d_Reader_tellLine_24 ?_
  refine V_iload_n 1 d_Reader_tellLine_27 rfl rfl ?_
  refine V_dup2 d_Reader_tellLine_28 rfl rfl ?_
  refine N_ialdK sk_92 tc_3 (by (first | decide +kernel | omega)) d_Reader_tellLine_29 zK ?_
  refine V_iload_n 1 d_Reader_tellLine_30 rfl rfl ?_
  refine N_callSI [.int 3] [.int z, .int 3, .ref 92] cs_Reader_131 d_Reader_tellLine_31 rfl (Nat.le_of_ble_eq_true rfl) (by decide) (by decide) (c_Reader_isOfOneX_3 h) (fun z5 h6 z5Z z5E p7 => ?_)
  obtain ⟨eh6, p7⟩ := p7
  subst eh6
  refine V_if_eq 43 z5E d_Reader_tellLine_34 (by decide) (fun c8 => ?_) (fun c8 => ?_)
  ·
    exact absurd c8 (by (first | decide +kernel | omega))
  ·
    refine V_iconst 1 d_Reader_tellLine_37 (by decide) ?_
    refine V_iload_n 3 d_Reader_tellLine_38 rfl rfl ?_
    refine N_ishl d_Reader_tellLine_39 (fun z9 z9Z z9E z9e => ?_)
    refine V_goto 44 d_Reader_tellLine_40 (by decide) ?_
    refine N_ior d_Reader_tellLine_44 (fun z10 z10Z z10E z10e => ?_)
    refine N_iast sk_92 tc_3 (by (first | decide +kernel | omega)) d_Reader_tellLine_45 (fun h11 eh11 => ?_)
    have hI12 : Inv h11 := inv_full hI eh11 rfl
    have f13 : fr S_Reader_tellLineX_3 h h11 := fr_put f0 eh11 rfl
    refine V_iload_n 1 d_Reader_tellLine_46 rfl rfl ?_
    refine V_tabIn 131 tc_3 d_Reader_tellLine_47 (by decide) (by decide) rfl (by decide) ?_
    refine V_aload_n 2 d_Reader_tellLine_131 rfl rfl ?_
    refine V_getR fa_Reader_146 sk_69 rfl d_Reader_tellLine_132 ?_
    refine V_iload_n 3 d_Reader_tellLine_135 rfl rfl ?_
    refine V_iload d_Reader_tellLine_136 rfl ?_
    refine N_iast sk_72 aE (by (first | decide +kernel | omega)) d_Reader_tellLine_138 (fun h14 eh14 => ?_)
    have hI15 : Inv h14 := inv_full hI12 eh14 rfl
    have f16 : fr S_Reader_tellLineX_3 h h14 := fr_put f13 eh14 rfl
    refine V_goto 227 d_Reader_tellLine_139 (by decide) ?_
    exact V_vret rfl d_Reader_tellLine_227 ⟨rfl, ⟨hI15, f16, ⟨RCt_ne (RCt_one hy0.1 ⟨by decide, by decide⟩ eh11 zK (by (first | decide +kernel | omega)) aE (by assumption) (by assumption) rfl) eh14 (by decide), RCd_put (RCd_ne hy0.2.1 eh11 (by decide)) eh14 (dof_row (k := 72) (n := 16) (o := 32) (A := aZ) (by decide) (by (first | decide +kernel | omega)) rfl) bE (by (first | decide +kernel | omega)), RCb_put (RCb_ne hy0.2.2 eh11 ⟨by decide, by decide, by decide⟩) eh14 ⟨by decide, by decide, by decide⟩ (by (first | decide +kernel | omega)) (fun j hj => by have q0 := RCd_debt hy0 dK dE; omega)⟩⟩⟩
def S_Reader_tellLineX_4 : List (Nat × Option Nat) := [(92, none), (69, none), (70, none), (71, none), (72, none), (73, none), (74, none), (76, none), (68, some 3), (68, some 4), (75, some 4), (77, none), (78, none), (79, none)]
abbrev q_Reader_tellLineX_4 (h : Hp) (T : Nat → Int → Int) (D : Nat → Int) (a : Int32) (aZ : Int) (b : Int32) (bZ : Int) (z : Int32) (zZ : Int) (d : Int32) (dZ : Int) : Option Value → Hp → Prop := pVd (fun h' => Inv h' ∧ fr S_Reader_tellLineX_4 h h' ∧ RC h' (x_upT T 4 aZ) (x_up D (48 + aZ) bZ))
set_option maxRecDepth 100000 in
theorem c_Reader_tellLineX_4 (h : Hp) (T : Nat → Int → Int) (D : Nat → Int) (hI : Inv h) (a : Int32) (aZ : Int) (aE : a.toInt = aZ) (aK : h.1 91 0 = a) (b : Int32) (bZ : Int) (bE : b.toInt = bZ) (bK : h.1 91 1 = b) (z : Int32) (zZ : Int) (zE : z.toInt = zZ) (zK : h.1 92 4 = z) (d : Int32) (dZ : Int) (dE : d.toInt = dZ) (dK : h.1 75 4 = d) (hy0 : RC h T D) (hy1 : 0 ≤ aZ ∧ aZ ≤ 15) (hy2 : 0 ≤ bZ ∧ bZ ≤ 3) : Ct y_Reader_tellLine b_Reader_tellLine 5 none 1 20 [.ref 88, .int 4] h (q_Reader_tellLineX_4 h T D a aZ b bZ z zZ d dZ) := by
  refine ct_ow R_Reader [some (.ref 88), some (.int 4), none, none, none] rfl (by decide) rfl (Nat.le_of_ble_eq_true rfl) ?_
  have f0 : fr S_Reader_tellLineX_4 h h := fr_rf
  have g1 : 0 ≤ dZ ∧ dZ ≤ 8 := inv_at hI dE dK.symm rfl
  refine V_aload_n 0 d_Reader_tellLine_0 rfl rfl ?_
  refine V_getR fa_Reader_21 sk_88 rfl d_Reader_tellLine_1 ?_
  refine V_getR fa_Reader_71 sk_68 rfl d_Reader_tellLine_4 ?_
  refine V_astore_n 2 [some (.ref 88), some (.int 4), some (.ref 69), none, none] d_Reader_tellLine_7 rfl (by decide) rfl rfl ?_
  refine V_aload_n 0 d_Reader_tellLine_8 rfl rfl ?_
  refine V_getR fa_Reader_25 sk_88 rfl d_Reader_tellLine_9 ?_
  refine V_iconst 0 d_Reader_tellLine_12 (by decide) ?_
  refine N_ialdK sk_91 tc_0 (by (first | decide +kernel | omega)) d_Reader_tellLine_13 aK ?_
  refine V_istore_n 3 [some (.ref 88), some (.int 4), some (.ref 69), some (.int a), none] d_Reader_tellLine_14 rfl (by decide) rfl rfl ?_
  refine V_aload_n 0 d_Reader_tellLine_15 rfl rfl ?_
  refine V_getR fa_Reader_25 sk_88 rfl d_Reader_tellLine_16 ?_
  refine V_iconst 1 d_Reader_tellLine_19 (by decide) ?_
  refine N_ialdK sk_91 tc_1 (by (first | decide +kernel | omega)) d_Reader_tellLine_20 bK ?_
  refine V_istore 4 [some (.ref 88), some (.int 4), some (.ref 69), some (.int a), some (.int b)] d_Reader_tellLine_21 (by decide) rfl rfl ?_
  refine V_aload_n 0 d_Reader_tellLine_23 rfl rfl ?_
  refine V_getR fa_Reader_29 sk_88 rfl d_Reader_tellLine_24 ?_
  refine V_iload_n 1 d_Reader_tellLine_27 rfl rfl ?_
  refine V_dup2 d_Reader_tellLine_28 rfl rfl ?_
  refine N_ialdK sk_92 tc_4 (by (first | decide +kernel | omega)) d_Reader_tellLine_29 zK ?_
  refine V_iload_n 1 d_Reader_tellLine_30 rfl rfl ?_
  refine N_callSI [.int 4] [.int z, .int 4, .ref 92] cs_Reader_131 d_Reader_tellLine_31 rfl (Nat.le_of_ble_eq_true rfl) (by decide) (by decide) (c_Reader_isOfOneX_4 h) (fun z5 h6 z5Z z5E p7 => ?_)
  obtain ⟨eh6, p7⟩ := p7
  subst eh6
  refine V_if_eq 43 z5E d_Reader_tellLine_34 (by decide) (fun c8 => ?_) (fun c8 => ?_)
  ·
    exact absurd c8 (by (first | decide +kernel | omega))
  ·
    refine V_iconst 1 d_Reader_tellLine_37 (by decide) ?_
    refine V_iload_n 3 d_Reader_tellLine_38 rfl rfl ?_
    refine N_ishl d_Reader_tellLine_39 (fun z9 z9Z z9E z9e => ?_)
    refine V_goto 44 d_Reader_tellLine_40 (by decide) ?_
    refine N_ior d_Reader_tellLine_44 (fun z10 z10Z z10E z10e => ?_)
    refine N_iast sk_92 tc_4 (by (first | decide +kernel | omega)) d_Reader_tellLine_45 (fun h11 eh11 => ?_)
    have hI12 : Inv h11 := inv_full hI eh11 rfl
    have f13 : fr S_Reader_tellLineX_4 h h11 := fr_put f0 eh11 rfl
    refine V_iload_n 1 d_Reader_tellLine_46 rfl rfl ?_
    refine V_tabIn 142 tc_4 d_Reader_tellLine_47 (by decide) (by decide) rfl (by decide) ?_
    refine V_aload_n 2 d_Reader_tellLine_142 rfl rfl ?_
    refine V_getR fa_Reader_149 sk_69 rfl d_Reader_tellLine_143 ?_
    refine V_iload_n 3 d_Reader_tellLine_146 rfl rfl ?_
    refine V_iload d_Reader_tellLine_147 rfl ?_
    refine N_iast sk_73 aE (by (first | decide +kernel | omega)) d_Reader_tellLine_149 (fun h14 eh14 => ?_)
    have hI15 : Inv h14 := inv_full hI12 eh14 rfl
    have f16 : fr S_Reader_tellLineX_4 h h14 := fr_put f13 eh14 rfl
    refine V_goto 227 d_Reader_tellLine_150 (by decide) ?_
    exact V_vret rfl d_Reader_tellLine_227 ⟨rfl, ⟨hI15, f16, ⟨RCt_ne (RCt_one hy0.1 ⟨by decide, by decide⟩ eh11 zK (by (first | decide +kernel | omega)) aE (by assumption) (by assumption) rfl) eh14 (by decide), RCd_put (RCd_ne hy0.2.1 eh11 (by decide)) eh14 (dof_row (k := 73) (n := 16) (o := 48) (A := aZ) (by decide) (by (first | decide +kernel | omega)) rfl) bE (by (first | decide +kernel | omega)), RCb_put (RCb_ne hy0.2.2 eh11 ⟨by decide, by decide, by decide⟩) eh14 ⟨by decide, by decide, by decide⟩ (by (first | decide +kernel | omega)) (fun j hj => by have q0 := RCd_debt hy0 dK dE; omega)⟩⟩⟩
def S_Reader_tellLineX_5 : List (Nat × Option Nat) := [(92, none), (69, none), (70, none), (71, none), (72, none), (73, none), (74, none), (76, none), (68, some 3), (68, some 4), (75, some 4), (77, none), (78, none), (79, none)]
abbrev q_Reader_tellLineX_5 (h : Hp) (T : Nat → Int → Int) (D : Nat → Int) (a : Int32) (aZ : Int) (b : Int32) (bZ : Int) (z : Int32) (zZ : Int) (d : Int32) (dZ : Int) : Option Value → Hp → Prop := pVd (fun h' => Inv h' ∧ fr S_Reader_tellLineX_5 h h' ∧ RC h' (x_upT T 5 aZ) (x_up D (80 + aZ) bZ))
set_option maxRecDepth 100000 in
theorem c_Reader_tellLineX_5 (h : Hp) (T : Nat → Int → Int) (D : Nat → Int) (hI : Inv h) (a : Int32) (aZ : Int) (aE : a.toInt = aZ) (aK : h.1 91 0 = a) (b : Int32) (bZ : Int) (bE : b.toInt = bZ) (bK : h.1 91 1 = b) (z : Int32) (zZ : Int) (zE : z.toInt = zZ) (zK : h.1 92 5 = z) (d : Int32) (dZ : Int) (dE : d.toInt = dZ) (dK : h.1 75 4 = d) (hy0 : RC h T D) (hy1 : 0 ≤ aZ ∧ aZ ≤ 3) (hy2 : 0 ≤ bZ ∧ bZ ≤ 99) : Ct y_Reader_tellLine b_Reader_tellLine 5 none 1 20 [.ref 88, .int 5] h (q_Reader_tellLineX_5 h T D a aZ b bZ z zZ d dZ) := by
  refine ct_ow R_Reader [some (.ref 88), some (.int 5), none, none, none] rfl (by decide) rfl (Nat.le_of_ble_eq_true rfl) ?_
  have f0 : fr S_Reader_tellLineX_5 h h := fr_rf
  have g1 : 0 ≤ dZ ∧ dZ ≤ 8 := inv_at hI dE dK.symm rfl
  refine V_aload_n 0 d_Reader_tellLine_0 rfl rfl ?_
  refine V_getR fa_Reader_21 sk_88 rfl d_Reader_tellLine_1 ?_
  refine V_getR fa_Reader_71 sk_68 rfl d_Reader_tellLine_4 ?_
  refine V_astore_n 2 [some (.ref 88), some (.int 5), some (.ref 69), none, none] d_Reader_tellLine_7 rfl (by decide) rfl rfl ?_
  refine V_aload_n 0 d_Reader_tellLine_8 rfl rfl ?_
  refine V_getR fa_Reader_25 sk_88 rfl d_Reader_tellLine_9 ?_
  refine V_iconst 0 d_Reader_tellLine_12 (by decide) ?_
  refine N_ialdK sk_91 tc_0 (by (first | decide +kernel | omega)) d_Reader_tellLine_13 aK ?_
  refine V_istore_n 3 [some (.ref 88), some (.int 5), some (.ref 69), some (.int a), none] d_Reader_tellLine_14 rfl (by decide) rfl rfl ?_
  refine V_aload_n 0 d_Reader_tellLine_15 rfl rfl ?_
  refine V_getR fa_Reader_25 sk_88 rfl d_Reader_tellLine_16 ?_
  refine V_iconst 1 d_Reader_tellLine_19 (by decide) ?_
  refine N_ialdK sk_91 tc_1 (by (first | decide +kernel | omega)) d_Reader_tellLine_20 bK ?_
  refine V_istore 4 [some (.ref 88), some (.int 5), some (.ref 69), some (.int a), some (.int b)] d_Reader_tellLine_21 (by decide) rfl rfl ?_
  refine V_aload_n 0 d_Reader_tellLine_23 rfl rfl ?_
  refine V_getR fa_Reader_29 sk_88 rfl d_Reader_tellLine_24 ?_
  refine V_iload_n 1 d_Reader_tellLine_27 rfl rfl ?_
  refine V_dup2 d_Reader_tellLine_28 rfl rfl ?_
  refine N_ialdK sk_92 tc_5 (by (first | decide +kernel | omega)) d_Reader_tellLine_29 zK ?_
  refine V_iload_n 1 d_Reader_tellLine_30 rfl rfl ?_
  refine N_callSI [.int 5] [.int z, .int 5, .ref 92] cs_Reader_131 d_Reader_tellLine_31 rfl (Nat.le_of_ble_eq_true rfl) (by decide) (by decide) (c_Reader_isOfOneX_5 h) (fun z5 h6 z5Z z5E p7 => ?_)
  obtain ⟨eh6, p7⟩ := p7
  subst eh6
  refine V_if_eq 43 z5E d_Reader_tellLine_34 (by decide) (fun c8 => ?_) (fun c8 => ?_)
  ·
    exact absurd c8 (by (first | decide +kernel | omega))
  ·
    refine V_iconst 1 d_Reader_tellLine_37 (by decide) ?_
    refine V_iload_n 3 d_Reader_tellLine_38 rfl rfl ?_
    refine N_ishl d_Reader_tellLine_39 (fun z9 z9Z z9E z9e => ?_)
    refine V_goto 44 d_Reader_tellLine_40 (by decide) ?_
    refine N_ior d_Reader_tellLine_44 (fun z10 z10Z z10E z10e => ?_)
    refine N_iast sk_92 tc_5 (by (first | decide +kernel | omega)) d_Reader_tellLine_45 (fun h11 eh11 => ?_)
    have hI12 : Inv h11 := inv_full hI eh11 rfl
    have f13 : fr S_Reader_tellLineX_5 h h11 := fr_put f0 eh11 rfl
    refine V_iload_n 1 d_Reader_tellLine_46 rfl rfl ?_
    refine V_tabIn 153 tc_5 d_Reader_tellLine_47 (by decide) (by decide) rfl (by decide) ?_
    refine V_aload_n 0 d_Reader_tellLine_153 rfl rfl ?_
    refine V_getR fa_Reader_21 sk_88 rfl d_Reader_tellLine_154 ?_
    refine V_getR fa_Reader_94 sk_68 rfl d_Reader_tellLine_157 ?_
    refine V_getR fa_Reader_152 sk_75 rfl d_Reader_tellLine_160 ?_
    refine V_iload_n 3 d_Reader_tellLine_163 rfl rfl ?_
    refine V_iload d_Reader_tellLine_164 rfl ?_
    refine N_iast sk_76 aE (by (first | decide +kernel | omega)) d_Reader_tellLine_166 (fun h14 eh14 => ?_)
    have hI15 : Inv h14 := inv_full hI12 eh14 rfl
    have f16 : fr S_Reader_tellLineX_5 h h14 := fr_put f13 eh14 rfl
    refine V_goto 227 d_Reader_tellLine_167 (by decide) ?_
    exact V_vret rfl d_Reader_tellLine_227 ⟨rfl, ⟨hI15, f16, ⟨RCt_ne (RCt_one hy0.1 ⟨by decide, by decide⟩ eh11 zK (by (first | decide +kernel | omega)) aE (by assumption) (by assumption) rfl) eh14 (by decide), RCd_put (RCd_ne hy0.2.1 eh11 (by decide)) eh14 (dof_row (k := 76) (n := 4) (o := 80) (A := aZ) (by decide) (by (first | decide +kernel | omega)) rfl) bE (by (first | decide +kernel | omega)), RCb_put (RCb_ne hy0.2.2 eh11 ⟨by decide, by decide, by decide⟩) eh14 ⟨by decide, by decide, by decide⟩ (by (first | decide +kernel | omega)) (fun j hj => by have q0 := RCd_debt hy0 dK dE; omega)⟩⟩⟩
def S_Reader_tellLineX_6 : List (Nat × Option Nat) := [(92, none), (69, none), (70, none), (71, none), (72, none), (73, none), (74, none), (76, none), (68, some 3), (68, some 4), (75, some 4), (77, none), (78, none), (79, none)]
abbrev q_Reader_tellLineX_6 (h : Hp) (T : Nat → Int → Int) (D : Nat → Int) (a : Int32) (aZ : Int) (z : Int32) (zZ : Int) (d : Int32) (dZ : Int) : Option Value → Hp → Prop := pVd (fun h' => Inv h' ∧ fr S_Reader_tellLineX_6 h h' ∧ RC h' (x_upT T 6 0) (x_up D 146 aZ))
set_option maxRecDepth 100000 in
theorem c_Reader_tellLineX_6 (h : Hp) (T : Nat → Int → Int) (D : Nat → Int) (hI : Inv h) (a : Int32) (aZ : Int) (aE : a.toInt = aZ) (aK : h.1 91 0 = a) (z : Int32) (zZ : Int) (zE : z.toInt = zZ) (zK : h.1 92 6 = z) (d : Int32) (dZ : Int) (dE : d.toInt = dZ) (dK : h.1 75 4 = d) (hy0 : RC h T D) (hy1 : 1 ≤ aZ ∧ aZ ≤ 9) : Ct y_Reader_tellLine b_Reader_tellLine 5 none 1 20 [.ref 88, .int 6] h (q_Reader_tellLineX_6 h T D a aZ z zZ d dZ) := by
  refine ct_ow R_Reader [some (.ref 88), some (.int 6), none, none, none] rfl (by decide) rfl (Nat.le_of_ble_eq_true rfl) ?_
  have f0 : fr S_Reader_tellLineX_6 h h := fr_rf
  have g1 : 0 ≤ dZ ∧ dZ ≤ 8 := inv_at hI dE dK.symm rfl
  refine V_aload_n 0 d_Reader_tellLine_0 rfl rfl ?_
  refine V_getR fa_Reader_21 sk_88 rfl d_Reader_tellLine_1 ?_
  refine V_getR fa_Reader_71 sk_68 rfl d_Reader_tellLine_4 ?_
  refine V_astore_n 2 [some (.ref 88), some (.int 6), some (.ref 69), none, none] d_Reader_tellLine_7 rfl (by decide) rfl rfl ?_
  refine V_aload_n 0 d_Reader_tellLine_8 rfl rfl ?_
  refine V_getR fa_Reader_25 sk_88 rfl d_Reader_tellLine_9 ?_
  refine V_iconst 0 d_Reader_tellLine_12 (by decide) ?_
  refine N_ialdK sk_91 tc_0 (by (first | decide +kernel | omega)) d_Reader_tellLine_13 aK ?_
  refine V_istore_n 3 [some (.ref 88), some (.int 6), some (.ref 69), some (.int a), none] d_Reader_tellLine_14 rfl (by decide) rfl rfl ?_
  refine V_aload_n 0 d_Reader_tellLine_15 rfl rfl ?_
  refine V_getR fa_Reader_25 sk_88 rfl d_Reader_tellLine_16 ?_
  refine V_iconst 1 d_Reader_tellLine_19 (by decide) ?_
  refine N_iald sk_91 tc_1 (by (first | decide +kernel | omega)) d_Reader_tellLine_20 (fun z3 z3Z z3E z3e => ?_)
  refine V_istore 4 [some (.ref 88), some (.int 6), some (.ref 69), some (.int a), some (.int z3)] d_Reader_tellLine_21 (by decide) rfl rfl ?_
  refine V_aload_n 0 d_Reader_tellLine_23 rfl rfl ?_
  refine V_getR fa_Reader_29 sk_88 rfl d_Reader_tellLine_24 ?_
  refine V_iload_n 1 d_Reader_tellLine_27 rfl rfl ?_
  refine V_dup2 d_Reader_tellLine_28 rfl rfl ?_
  refine N_ialdK sk_92 tc_6 (by (first | decide +kernel | omega)) d_Reader_tellLine_29 zK ?_
  refine V_iload_n 1 d_Reader_tellLine_30 rfl rfl ?_
  refine N_callSI [.int 6] [.int z, .int 6, .ref 92] cs_Reader_131 d_Reader_tellLine_31 rfl (Nat.le_of_ble_eq_true rfl) (by decide) (by decide) (c_Reader_isOfOneX_6 h) (fun z5 h6 z5Z z5E p7 => ?_)
  obtain ⟨eh6, p7⟩ := p7
  subst eh6
  refine V_if_eq 43 z5E d_Reader_tellLine_34 (by decide) (fun c8 => ?_) (fun c8 => ?_)
  ·
    refine V_iconst 1 d_Reader_tellLine_43 (by decide) ?_
    refine N_ior d_Reader_tellLine_44 (fun z9 z9Z z9E z9e => ?_)
    refine N_iast sk_92 tc_6 (by (first | decide +kernel | omega)) d_Reader_tellLine_45 (fun h10 eh10 => ?_)
    have hI11 : Inv h10 := inv_full hI eh10 rfl
    have f12 : fr S_Reader_tellLineX_6 h h10 := fr_put f0 eh10 rfl
    refine V_iload_n 1 d_Reader_tellLine_46 rfl rfl ?_
    refine V_tabIn 170 tc_6 d_Reader_tellLine_47 (by decide) (by decide) rfl (by decide) ?_
    refine V_aload_n 2 d_Reader_tellLine_170 rfl rfl ?_
    refine V_iload_n 3 d_Reader_tellLine_171 rfl rfl ?_
    refine N_putI fp_Reader_155 sk_69 rfl d_Reader_tellLine_172 (fun h13 eh13 => ?_)
    have hI14 : Inv h13 := inv_full hI11 eh13 rfl
    have f15 : fr S_Reader_tellLineX_6 h h13 := fr_put f12 eh13 rfl
    refine V_goto 227 d_Reader_tellLine_175 (by decide) ?_
    exact V_vret rfl d_Reader_tellLine_227 ⟨rfl, ⟨hI14, f15, ⟨RCt_ne (RCt_once hy0.1 (by decide) eh10 (by assumption) rfl) eh13 (by decide), RCd_put (RCd_ne hy0.2.1 eh10 (by decide)) eh13 (show dof 69 2 = some 146 from rfl) aE (by (first | decide +kernel | omega)), RCb_put (RCb_ne hy0.2.2 eh10 ⟨by decide, by decide, by decide⟩) eh13 ⟨by decide, by decide, by decide⟩ (by (first | decide +kernel | omega)) (fun j hj => by have q0 := RCd_debt hy0 dK dE; omega)⟩⟩⟩
  ·
    exact absurd c8 (by (first | decide +kernel | omega))
def S_Reader_tellLineX_7 : List (Nat × Option Nat) := [(92, none), (69, none), (70, none), (71, none), (72, none), (73, none), (74, none), (76, none), (68, some 3), (68, some 4), (75, some 4), (77, none), (78, none), (79, none)]
abbrev q_Reader_tellLineX_7 (h : Hp) (T : Nat → Int → Int) (D : Nat → Int) (a : Int32) (aZ : Int) (z : Int32) (zZ : Int) (d : Int32) (dZ : Int) : Option Value → Hp → Prop := pVd (fun h' => Inv h' ∧ fr S_Reader_tellLineX_7 h h' ∧ RC h' (x_upT T 7 0) (x_up D 147 aZ))
set_option maxRecDepth 100000 in
theorem c_Reader_tellLineX_7 (h : Hp) (T : Nat → Int → Int) (D : Nat → Int) (hI : Inv h) (a : Int32) (aZ : Int) (aE : a.toInt = aZ) (aK : h.1 91 0 = a) (z : Int32) (zZ : Int) (zE : z.toInt = zZ) (zK : h.1 92 7 = z) (d : Int32) (dZ : Int) (dE : d.toInt = dZ) (dK : h.1 75 4 = d) (hy0 : RC h T D) (hy1 : 1 ≤ aZ ∧ aZ ≤ 99) : Ct y_Reader_tellLine b_Reader_tellLine 5 none 1 20 [.ref 88, .int 7] h (q_Reader_tellLineX_7 h T D a aZ z zZ d dZ) := by
  refine ct_ow R_Reader [some (.ref 88), some (.int 7), none, none, none] rfl (by decide) rfl (Nat.le_of_ble_eq_true rfl) ?_
  have f0 : fr S_Reader_tellLineX_7 h h := fr_rf
  have g1 : 0 ≤ dZ ∧ dZ ≤ 8 := inv_at hI dE dK.symm rfl
  refine V_aload_n 0 d_Reader_tellLine_0 rfl rfl ?_
  refine V_getR fa_Reader_21 sk_88 rfl d_Reader_tellLine_1 ?_
  refine V_getR fa_Reader_71 sk_68 rfl d_Reader_tellLine_4 ?_
  refine V_astore_n 2 [some (.ref 88), some (.int 7), some (.ref 69), none, none] d_Reader_tellLine_7 rfl (by decide) rfl rfl ?_
  refine V_aload_n 0 d_Reader_tellLine_8 rfl rfl ?_
  refine V_getR fa_Reader_25 sk_88 rfl d_Reader_tellLine_9 ?_
  refine V_iconst 0 d_Reader_tellLine_12 (by decide) ?_
  refine N_ialdK sk_91 tc_0 (by (first | decide +kernel | omega)) d_Reader_tellLine_13 aK ?_
  refine V_istore_n 3 [some (.ref 88), some (.int 7), some (.ref 69), some (.int a), none] d_Reader_tellLine_14 rfl (by decide) rfl rfl ?_
  refine V_aload_n 0 d_Reader_tellLine_15 rfl rfl ?_
  refine V_getR fa_Reader_25 sk_88 rfl d_Reader_tellLine_16 ?_
  refine V_iconst 1 d_Reader_tellLine_19 (by decide) ?_
  refine N_iald sk_91 tc_1 (by (first | decide +kernel | omega)) d_Reader_tellLine_20 (fun z3 z3Z z3E z3e => ?_)
  refine V_istore 4 [some (.ref 88), some (.int 7), some (.ref 69), some (.int a), some (.int z3)] d_Reader_tellLine_21 (by decide) rfl rfl ?_
  refine V_aload_n 0 d_Reader_tellLine_23 rfl rfl ?_
  refine V_getR fa_Reader_29 sk_88 rfl d_Reader_tellLine_24 ?_
  refine V_iload_n 1 d_Reader_tellLine_27 rfl rfl ?_
  refine V_dup2 d_Reader_tellLine_28 rfl rfl ?_
  refine N_ialdK sk_92 tc_7 (by (first | decide +kernel | omega)) d_Reader_tellLine_29 zK ?_
  refine V_iload_n 1 d_Reader_tellLine_30 rfl rfl ?_
  refine N_callSI [.int 7] [.int z, .int 7, .ref 92] cs_Reader_131 d_Reader_tellLine_31 rfl (Nat.le_of_ble_eq_true rfl) (by decide) (by decide) (c_Reader_isOfOneX_7 h) (fun z5 h6 z5Z z5E p7 => ?_)
  obtain ⟨eh6, p7⟩ := p7
  subst eh6
  refine V_if_eq 43 z5E d_Reader_tellLine_34 (by decide) (fun c8 => ?_) (fun c8 => ?_)
  ·
    refine V_iconst 1 d_Reader_tellLine_43 (by decide) ?_
    refine N_ior d_Reader_tellLine_44 (fun z9 z9Z z9E z9e => ?_)
    refine N_iast sk_92 tc_7 (by (first | decide +kernel | omega)) d_Reader_tellLine_45 (fun h10 eh10 => ?_)
    have hI11 : Inv h10 := inv_full hI eh10 rfl
    have f12 : fr S_Reader_tellLineX_7 h h10 := fr_put f0 eh10 rfl
    refine V_iload_n 1 d_Reader_tellLine_46 rfl rfl ?_
    refine V_tabIn 178 tc_7 d_Reader_tellLine_47 (by decide) (by decide) rfl (by decide) ?_
    refine V_aload_n 2 d_Reader_tellLine_178 rfl rfl ?_
    refine V_iload_n 3 d_Reader_tellLine_179 rfl rfl ?_
    refine N_putI fp_Reader_158 sk_69 rfl d_Reader_tellLine_180 (fun h13 eh13 => ?_)
    have hI14 : Inv h13 := inv_full hI11 eh13 rfl
    have f15 : fr S_Reader_tellLineX_7 h h13 := fr_put f12 eh13 rfl
    refine V_goto 227 d_Reader_tellLine_183 (by decide) ?_
    exact V_vret rfl d_Reader_tellLine_227 ⟨rfl, ⟨hI14, f15, ⟨RCt_ne (RCt_once hy0.1 (by decide) eh10 (by assumption) rfl) eh13 (by decide), RCd_put (RCd_ne hy0.2.1 eh10 (by decide)) eh13 (show dof 69 3 = some 147 from rfl) aE (by (first | decide +kernel | omega)), RCb_put (RCb_ne hy0.2.2 eh10 ⟨by decide, by decide, by decide⟩) eh13 ⟨by decide, by decide, by decide⟩ (by (first | decide +kernel | omega)) (fun j hj => by have q0 := RCd_debt hy0 dK dE; omega)⟩⟩⟩
  ·
    exact absurd c8 (by (first | decide +kernel | omega))
def S_Reader_tellLineX_8 : List (Nat × Option Nat) := [(92, none), (69, none), (70, none), (71, none), (72, none), (73, none), (74, none), (76, none), (68, some 3), (68, some 4), (75, some 4), (77, none), (78, none), (79, none)]
abbrev q_Reader_tellLineX_8 (h : Hp) (T : Nat → Int → Int) (D : Nat → Int) (a : Int32) (aZ : Int) (z : Int32) (zZ : Int) (d : Int32) (dZ : Int) (n : Int32) (nZ : Int) : Option Value → Hp → Prop := pVd (fun h' => Inv h' ∧ fr S_Reader_tellLineX_8 h h' ∧ RC h' (x_upT T 8 0) (x_up (x_up D 84 nZ) 85 aZ))
set_option maxRecDepth 100000 in
theorem c_Reader_tellLineX_8 (h : Hp) (T : Nat → Int → Int) (D : Nat → Int) (hI : Inv h) (a : Int32) (aZ : Int) (aE : a.toInt = aZ) (aK : h.1 91 0 = a) (z : Int32) (zZ : Int) (zE : z.toInt = zZ) (zK : h.1 92 8 = z) (d : Int32) (dZ : Int) (dE : d.toInt = dZ) (dK : h.1 75 4 = d) (n : Int32) (nZ : Int) (nE : n.toInt = nZ) (nK : h.1 88 4 = n) (hy0 : RC h T D) (hy1 : 1 ≤ aZ ∧ aZ ≤ 9) : Ct y_Reader_tellLine b_Reader_tellLine 5 none 1 20 [.ref 88, .int 8] h (q_Reader_tellLineX_8 h T D a aZ z zZ d dZ n nZ) := by
  refine ct_ow R_Reader [some (.ref 88), some (.int 8), none, none, none] rfl (by decide) rfl (Nat.le_of_ble_eq_true rfl) ?_
  have f0 : fr S_Reader_tellLineX_8 h h := fr_rf
  have g1 : 0 ≤ dZ ∧ dZ ≤ 8 := inv_at hI dE dK.symm rfl
  refine V_aload_n 0 d_Reader_tellLine_0 rfl rfl ?_
  refine V_getR fa_Reader_21 sk_88 rfl d_Reader_tellLine_1 ?_
  refine V_getR fa_Reader_71 sk_68 rfl d_Reader_tellLine_4 ?_
  refine V_astore_n 2 [some (.ref 88), some (.int 8), some (.ref 69), none, none] d_Reader_tellLine_7 rfl (by decide) rfl rfl ?_
  refine V_aload_n 0 d_Reader_tellLine_8 rfl rfl ?_
  refine V_getR fa_Reader_25 sk_88 rfl d_Reader_tellLine_9 ?_
  refine V_iconst 0 d_Reader_tellLine_12 (by decide) ?_
  refine N_ialdK sk_91 tc_0 (by (first | decide +kernel | omega)) d_Reader_tellLine_13 aK ?_
  refine V_istore_n 3 [some (.ref 88), some (.int 8), some (.ref 69), some (.int a), none] d_Reader_tellLine_14 rfl (by decide) rfl rfl ?_
  refine V_aload_n 0 d_Reader_tellLine_15 rfl rfl ?_
  refine V_getR fa_Reader_25 sk_88 rfl d_Reader_tellLine_16 ?_
  refine V_iconst 1 d_Reader_tellLine_19 (by decide) ?_
  refine N_iald sk_91 tc_1 (by (first | decide +kernel | omega)) d_Reader_tellLine_20 (fun z3 z3Z z3E z3e => ?_)
  refine V_istore 4 [some (.ref 88), some (.int 8), some (.ref 69), some (.int a), some (.int z3)] d_Reader_tellLine_21 (by decide) rfl rfl ?_
  refine V_aload_n 0 d_Reader_tellLine_23 rfl rfl ?_
  refine V_getR fa_Reader_29 sk_88 rfl d_Reader_tellLine_24 ?_
  refine V_iload_n 1 d_Reader_tellLine_27 rfl rfl ?_
  refine V_dup2 d_Reader_tellLine_28 rfl rfl ?_
  refine N_ialdK sk_92 tc_8 (by (first | decide +kernel | omega)) d_Reader_tellLine_29 zK ?_
  refine V_iload_n 1 d_Reader_tellLine_30 rfl rfl ?_
  refine N_callSI [.int 8] [.int z, .int 8, .ref 92] cs_Reader_131 d_Reader_tellLine_31 rfl (Nat.le_of_ble_eq_true rfl) (by decide) (by decide) (c_Reader_isOfOneX_8 h) (fun z5 h6 z5Z z5E p7 => ?_)
  obtain ⟨eh6, p7⟩ := p7
  subst eh6
  refine V_if_eq 43 z5E d_Reader_tellLine_34 (by decide) (fun c8 => ?_) (fun c8 => ?_)
  ·
    refine V_iconst 1 d_Reader_tellLine_43 (by decide) ?_
    refine N_ior d_Reader_tellLine_44 (fun z9 z9Z z9E z9e => ?_)
    refine N_iast sk_92 tc_8 (by (first | decide +kernel | omega)) d_Reader_tellLine_45 (fun h10 eh10 => ?_)
    have hI11 : Inv h10 := inv_full hI eh10 rfl
    have f12 : fr S_Reader_tellLineX_8 h h10 := fr_put f0 eh10 rfl
    refine V_iload_n 1 d_Reader_tellLine_46 rfl rfl ?_
    refine V_tabIn 186 tc_8 d_Reader_tellLine_47 (by decide) (by decide) rfl (by decide) ?_
    refine V_aload_n 0 d_Reader_tellLine_186 rfl rfl ?_
    refine V_getR fa_Reader_21 sk_88 rfl d_Reader_tellLine_187 ?_
    refine V_aload_n 0 d_Reader_tellLine_190 rfl rfl ?_
    refine N_getK fa_Reader_119 sk_88 rfl d_Reader_tellLine_191 (kn_ne eh10 nK (by decide)) ?_
    refine N_putI fp_Reader_161 sk_68 rfl d_Reader_tellLine_194 (fun h13 eh13 => ?_)
    have hI14 : Inv h13 := inv_full hI11 eh13 rfl
    have f15 : fr S_Reader_tellLineX_8 h h13 := fr_put f12 eh13 rfl
    refine V_aload_n 0 d_Reader_tellLine_197 rfl rfl ?_
    refine V_getR fa_Reader_21 sk_88 rfl d_Reader_tellLine_198 ?_
    refine V_iload_n 3 d_Reader_tellLine_201 rfl rfl ?_
    refine N_putI fp_Reader_164 sk_68 rfl d_Reader_tellLine_202 (fun h16 eh16 => ?_)
    have hI17 : Inv h16 := inv_full hI14 eh16 rfl
    have f18 : fr S_Reader_tellLineX_8 h h16 := fr_put f15 eh16 rfl
    refine V_goto 227 d_Reader_tellLine_205 (by decide) ?_
    exact V_vret rfl d_Reader_tellLine_227 ⟨rfl, ⟨hI17, f18, ⟨RCt_ne (RCt_ne (RCt_once hy0.1 (by decide) eh10 (by assumption) rfl) eh13 (by decide)) eh16 (by decide), RCd_put (RCd_put (RCd_ne hy0.2.1 eh10 (by decide)) eh13 (show dof 68 3 = some 84 from rfl) nE (by (first | decide +kernel | omega))) eh16 (show dof 68 4 = some 85 from rfl) aE (by (first | decide +kernel | omega)), RCb_put (RCb_put (RCb_ne hy0.2.2 eh10 ⟨by decide, by decide, by decide⟩) eh13 ⟨by decide, by decide, by decide⟩ (by (first | decide +kernel | omega)) (fun j hj => by have q0 := RCd_debt hy0 dK dE; omega)) eh16 ⟨by decide, by decide, by decide⟩ (by (first | decide +kernel | omega)) (fun j hj => by have q0 := RCd_debt hy0 dK dE; have q1 := x_up86 (D := D) (k := 84) (v := nZ) (by decide); omega)⟩⟩⟩
  ·
    exact absurd c8 (by (first | decide +kernel | omega))
def S_Reader_tellLineX_9 : List (Nat × Option Nat) := [(92, none), (69, none), (70, none), (71, none), (72, none), (73, none), (74, none), (76, none), (68, some 3), (68, some 4), (75, some 4), (77, none), (78, none), (79, none)]
abbrev q_Reader_tellLineX_9 (h : Hp) (T : Nat → Int → Int) (D : Nat → Int) (a : Int32) (aZ : Int) (b : Int32) (bZ : Int) (c : Int32) (cZ : Int) (z : Int32) (zZ : Int) (d : Int32) (dZ : Int) : Option Value → Hp → Prop := pVd (fun h' => Inv h' ∧ fr S_Reader_tellLineX_9 h h' ∧ RC h' (x_upT T 9 0) (x_up (x_up (x_up (x_up D (87 + 3 * D 86) aZ) (88 + 3 * D 86) bZ) (89 + 3 * D 86) cZ) 86 (D 86 + 1)))
set_option maxRecDepth 100000 in
theorem c_Reader_tellLineX_9 (h : Hp) (T : Nat → Int → Int) (D : Nat → Int) (hI : Inv h) (a : Int32) (aZ : Int) (aE : a.toInt = aZ) (aK : h.1 91 0 = a) (b : Int32) (bZ : Int) (bE : b.toInt = bZ) (bK : h.1 91 1 = b) (c : Int32) (cZ : Int) (cE : c.toInt = cZ) (cK : h.1 91 2 = c) (z : Int32) (zZ : Int) (zE : z.toInt = zZ) (zK : h.1 92 9 = z) (d : Int32) (dZ : Int) (dE : d.toInt = dZ) (dK : h.1 75 4 = d) (hy0 : RC h T D) (hy1 : 0 ≤ aZ ∧ aZ ≤ 3) (hy2 : 0 ≤ bZ ∧ bZ ≤ 3) (hy3 : 1 ≤ cZ ∧ cZ ≤ 99) (hy4 : dZ < 8) : Ct y_Reader_tellLine b_Reader_tellLine 5 none 1 23 [.ref 88, .int 9] h (q_Reader_tellLineX_9 h T D a aZ b bZ c cZ z zZ d dZ) := by
  refine ct_ow R_Reader [some (.ref 88), some (.int 9), none, none, none] rfl (by decide) rfl (Nat.le_of_ble_eq_true rfl) ?_
  have f0 : fr S_Reader_tellLineX_9 h h := fr_rf
  have g1 : 0 ≤ dZ ∧ dZ ≤ 8 := inv_at hI dE dK.symm rfl
  refine V_aload_n 0 d_Reader_tellLine_0 rfl rfl ?_
  refine V_getR fa_Reader_21 sk_88 rfl d_Reader_tellLine_1 ?_
  refine V_getR fa_Reader_71 sk_68 rfl d_Reader_tellLine_4 ?_
  refine V_astore_n 2 [some (.ref 88), some (.int 9), some (.ref 69), none, none] d_Reader_tellLine_7 rfl (by decide) rfl rfl ?_
  refine V_aload_n 0 d_Reader_tellLine_8 rfl rfl ?_
  refine V_getR fa_Reader_25 sk_88 rfl d_Reader_tellLine_9 ?_
  refine V_iconst 0 d_Reader_tellLine_12 (by decide) ?_
  refine N_ialdK sk_91 tc_0 (by (first | decide +kernel | omega)) d_Reader_tellLine_13 aK ?_
  refine V_istore_n 3 [some (.ref 88), some (.int 9), some (.ref 69), some (.int a), none] d_Reader_tellLine_14 rfl (by decide) rfl rfl ?_
  refine V_aload_n 0 d_Reader_tellLine_15 rfl rfl ?_
  refine V_getR fa_Reader_25 sk_88 rfl d_Reader_tellLine_16 ?_
  refine V_iconst 1 d_Reader_tellLine_19 (by decide) ?_
  refine N_ialdK sk_91 tc_1 (by (first | decide +kernel | omega)) d_Reader_tellLine_20 bK ?_
  refine V_istore 4 [some (.ref 88), some (.int 9), some (.ref 69), some (.int a), some (.int b)] d_Reader_tellLine_21 (by decide) rfl rfl ?_
  refine V_aload_n 0 d_Reader_tellLine_23 rfl rfl ?_
  refine V_getR fa_Reader_29 sk_88 rfl d_Reader_tellLine_24 ?_
  refine V_iload_n 1 d_Reader_tellLine_27 rfl rfl ?_
  refine V_dup2 d_Reader_tellLine_28 rfl rfl ?_
  refine N_ialdK sk_92 tc_9 (by (first | decide +kernel | omega)) d_Reader_tellLine_29 zK ?_
  refine V_iload_n 1 d_Reader_tellLine_30 rfl rfl ?_
  refine N_callSI [.int 9] [.int z, .int 9, .ref 92] cs_Reader_131 d_Reader_tellLine_31 rfl (Nat.le_of_ble_eq_true rfl) (by decide) (by decide) (c_Reader_isOfOneX_9 h) (fun z5 h6 z5Z z5E p7 => ?_)
  obtain ⟨eh6, p7⟩ := p7
  subst eh6
  refine V_if_eq 43 z5E d_Reader_tellLine_34 (by decide) (fun c8 => ?_) (fun c8 => ?_)
  ·
    refine V_iconst 1 d_Reader_tellLine_43 (by decide) ?_
    refine N_ior d_Reader_tellLine_44 (fun z9 z9Z z9E z9e => ?_)
    refine N_iast sk_92 tc_9 (by (first | decide +kernel | omega)) d_Reader_tellLine_45 (fun h10 eh10 => ?_)
    have hI11 : Inv h10 := inv_full hI eh10 rfl
    have f12 : fr S_Reader_tellLineX_9 h h10 := fr_put f0 eh10 rfl
    refine V_iload_n 1 d_Reader_tellLine_46 rfl rfl ?_
    refine V_tabOut 208 tc_9 d_Reader_tellLine_47 (by decide) (by decide) ?_
    refine V_aload_n 0 d_Reader_tellLine_208 rfl rfl ?_
    refine V_getR fa_Reader_21 sk_88 rfl d_Reader_tellLine_209 ?_
    refine V_getR fa_Reader_94 sk_68 rfl d_Reader_tellLine_212 ?_
    refine V_iload_n 3 d_Reader_tellLine_215 rfl rfl ?_
    refine V_iload d_Reader_tellLine_216 rfl ?_
    refine V_aload_n 0 d_Reader_tellLine_218 rfl rfl ?_
    refine V_getR fa_Reader_25 sk_88 rfl d_Reader_tellLine_219 ?_
    refine V_iconst 2 d_Reader_tellLine_222 (by decide) ?_
    refine N_ialdK sk_91 tc_2 (by (first | decide +kernel | omega)) d_Reader_tellLine_223 (kn_ne eh10 cK (by decide)) ?_
    refine N_callVV [.int a, .int b, .int c] [] cv_Reader_167 sk_75 rfl d_Reader_tellLine_224 rfl (Nat.le_of_ble_eq_true rfl) (by decide) (by decide) (c_Ledger_addDebtX_4 h10 hI11 a aZ aE b bZ bE c cZ cE d dZ dE (kn_ne eh10 dK (by decide)) (by (first | decide +kernel | omega))) (fun h15 p16 => ?_)
    obtain ⟨hI17, fh15, o19, o19Z, o19E, o19K, p16⟩ := p16
    have f18 : fr S_Reader_tellLineX_9 h h15 := fr_call f12 fh15 rfl
    have g20 : 0 ≤ o19Z ∧ o19Z ≤ 8 := inv_at hI17 o19E o19K.symm rfl
    have qD := p16
    exact V_vret rfl d_Reader_tellLine_227 ⟨rfl, ⟨hI17, f18, (RC_owe ⟨RCt_nine hy0.1 eh10, RCd_ne hy0.2.1 eh10 (by decide), RCb_ne hy0.2.2 eh10 ⟨by decide, by decide, by decide⟩⟩ (RCd_debt hy0 dK dE) ⟨by (first | decide +kernel | omega), by (first | decide +kernel | omega)⟩ aE bE cE o19E qD.2 qD.1)⟩⟩
  ·
    exact absurd c8 (by (first | decide +kernel | omega))
end
section
def S_Reader_readLineX : List (Nat × Option Nat) := [(89, some 2), (89, some 3), (89, some 4), (89, some 5), (88, some 5), (88, some 6), (88, some 4), (91, none), (92, none), (69, none), (70, none), (71, none), (72, none), (73, none), (74, none), (76, none), (68, some 3), (68, some 4), (75, some 4), (77, none), (78, none), (79, none)]
abbrev q_Reader_readLineX (h : Hp) (b : Int → Int) (T : Nat → Int → Int) (D : Nat → Int) (p0 : Int) (s : Int32) (sZ : Int) (q : Int32) (qZ : Int) (f : Int32) (fZ : Int) (u : Int32) (uZ : Int) (a : Int32) (aZ : Int) (w : Int32) (wZ : Int) : Option Value → Hp → Prop := pInt (fun r h' => Inv h' ∧ fr S_Reader_readLineX h h' ∧ ∃ (x : Int32) (xZ : Int), x.toInt = xZ ∧ h'.1 89 4 = x ∧ ∃ (e : Int32) (eZ : Int), e.toInt = eZ ∧ h'.1 88 6 = e ∧ ∃ (y : Int32) (yZ : Int), y.toInt = yZ ∧ h'.1 88 5 = y ∧ (r.toInt = 1 ∧ x_line b T (D 86) p0 = (0, xZ) ∧ eZ = 0 ∧ uZ < xZ ∧ xZ ≤ sZ ∧ RC h' (x_T b T p0) (x_D b D p0) ∨ r.toInt = 0 ∧ x_line b T (D 86) p0 = (eZ, yZ) ∧ eZ ≠ 0))
set_option maxRecDepth 100000 in
theorem c_Reader_readLineX (h : Hp) (b : Int → Int) (T : Nat → Int → Int) (D : Nat → Int) (p0 : Int) (hI : Inv h) (s : Int32) (sZ : Int) (sE : s.toInt = sZ) (sK : h.1 89 1 = s) (q : Int32) (qZ : Int) (qE : q.toInt = qZ) (qK : h.1 89 2 = q) (f : Int32) (fZ : Int) (fE : f.toInt = fZ) (fK : h.1 89 3 = f) (u : Int32) (uZ : Int) (uE : u.toInt = uZ) (uK : h.1 89 4 = u) (a : Int32) (aZ : Int) (aE : a.toInt = aZ) (aK : h.1 88 5 = a) (w : Int32) (wZ : Int) (wE : w.toInt = wZ) (wK : h.1 88 6 = w) (hy0 : TP h 90 sZ b) (hy1 : 0 ≤ fZ ∧ fZ ≤ uZ ∧ uZ ≤ sZ ∧ wZ = 0) (hy2 : RC h T D) (hy3 : qZ = x_kd b p0 ∧ fZ = x_fr b p0 ∧ (qZ = 4 ∨ uZ = x_en b p0)) : Ct y_Reader_readLine b_Reader_readLine 3 (some .boolean) 7 149 [.ref 88] h (q_Reader_readLineX h b T D p0 s sZ q qZ f fZ u uZ a aZ w wZ) := by
  refine ct_ow R_Reader [some (.ref 88), none, none] rfl (by decide) rfl (Nat.le_of_ble_eq_true rfl) ?_
  have f0 : fr S_Reader_readLineX h h := fr_rf
  have g1 : 0 ≤ sZ ∧ sZ ≤ 160 := inv_at hI sE sK.symm rfl
  have g2 : 0 ≤ fZ ∧ fZ ≤ 160 := inv_at hI fE fK.symm rfl
  have g3 : 0 ≤ uZ ∧ uZ ≤ 160 := inv_at hI uE uK.symm rfl
  refine V_aload_n 0 d_Reader_readLine_0 rfl rfl ?_
  refine V_iconst 1 d_Reader_readLine_1 (by decide) ?_
  refine N_callVI [.int 1] [] cv_Reader_84 sk_88 rfl d_Reader_readLine_2 rfl (Nat.le_of_ble_eq_true rfl) (by decide) (by decide) (c_Reader_isKindX h hI 1 1 tc_1 q qZ qE qK f fZ fE fK a aZ aE aK w wZ wE wK) (fun z4 h5 z4Z z4E p6 => ?_)
  obtain ⟨hI7, fh5, o9, o9Z, o9E, o9K, o10, o10Z, o10E, o10K, p6⟩ := p6
  have f8 : fr S_Reader_readLineX h h5 := fr_call f0 fh5 rfl
  have R11 : RC h5 T D := RC_fr fh5 rfl hy2
  refine V_if_ne 10 z4E d_Reader_readLine_5 (by decide) (fun c12 => ?_) (fun c12 => ?_)
  ·
    replace p6 := kd_y p6 (by (first | decide +kernel | omega))
    replace hy3 : qZ = x_kd b p0 ∧ fZ = x_fr b p0 ∧ uZ = x_en b p0 := ⟨hy3.1, hy3.2.1, hy3.2.2.resolve_left (by (first | decide +kernel | omega))⟩
    refine V_aload_n 0 d_Reader_readLine_10 rfl rfl ?_
    refine N_callVI [] [] cv_Reader_88 sk_88 rfl d_Reader_readLine_11 rfl (Nat.le_of_ble_eq_true rfl) (by decide) (by decide) (c_Reader_lineBegunX h5 b hI7 s sZ sE (kn_call fh5 sK rfl) q qZ qE (kn_call fh5 qK rfl) f fZ fE (kn_call fh5 fK rfl) u uZ uE (kn_call fh5 uK rfl) (TP_fr f8 (fun _ => rfl) hy0) (by (first | decide +kernel | omega))) (fun z13 h14 z13Z z13E p15 => ?_)
    obtain ⟨eh14, p15⟩ := p15
    subst eh14
    refine V_istore_n 1 [some (.ref 88), some (.int z13), none] d_Reader_readLine_14 rfl (by decide) rfl rfl ?_
    replace p15 := p15.resolve_left (fun q => by (first | decide +kernel | omega))
    have g16 := x_ln_b b fZ uZ
    have hX : x_li b p0 = x_ln b fZ uZ := by unfold x_li; rw [show x_fr b p0 = fZ by (first | decide +kernel | omega), show x_en b p0 = uZ by (first | decide +kernel | omega)]
    refine V_iload_n 1 d_Reader_readLine_15 rfl rfl ?_
    refine V_if_ge 32 z13E d_Reader_readLine_16 (by decide) (fun c17 => ?_) (fun c17 => ?_)
    ·
      rcases (by (first | decide +kernel | omega) : z13Z = 0 ∨ z13Z = 1 ∨ z13Z = 2 ∨ z13Z = 3 ∨ z13Z = 4 ∨ z13Z = 5 ∨ z13Z = 6 ∨ z13Z = 7 ∨ z13Z = 8 ∨ z13Z = 9) with c18 | c18 | c18 | c18 | c18 | c18 | c18 | c18 | c18 | c18
      ·
        obtain rfl : z13 = 0 := (ti_eq z13E tc_0).mpr c18
        subst c18
        have hL : x_li b p0 = 0 := by (first | decide +kernel | omega)
        refine V_iload_n 1 d_Reader_readLine_32 rfl rfl ?_
        refine N_callSI [.int 0] [] cs_Reader_91 d_Reader_readLine_33 rfl (Nat.le_of_ble_eq_true rfl) (by decide) (by decide) (c_Reader_isOnceOnlyX_0 h5) (fun z19 h20 z19Z z19E p21 => ?_)
        obtain ⟨eh20, p21⟩ := p21
        subst eh20
        refine V_if_eq 61 z19E d_Reader_readLine_36 (by decide) (fun c22 => ?_) (fun c22 => ?_)
        ·
          exact absurd c22 (by (first | decide +kernel | omega))
        ·
          refine V_aload_n 0 d_Reader_readLine_39 rfl rfl ?_
          refine V_getR fa_Reader_29 sk_88 rfl d_Reader_readLine_40 ?_
          refine V_iload_n 1 d_Reader_readLine_43 rfl rfl ?_
          refine N_iald sk_92 tc_0 (by (first | decide +kernel | omega)) d_Reader_readLine_44 (fun z23 z23Z z23E z23e => ?_)
          have g24 : z23Z = 0 ∧ T 0 0 = 0 ∨ z23Z ≠ 0 ∧ T 0 0 = 1 := by have q := R11.1.2 0 (by decide); unfold x_ON at q; rw [show h5.1 92 0 = z23 from z23e.symm, z23E] at q; exact q
          refine V_if_eq 61 z23E d_Reader_readLine_45 (by decide) (fun c25 => ?_) (fun c25 => ?_)
          ·
            replace g24 := g24.resolve_right (by (first | decide +kernel | omega))
            refine V_iload_n 1 d_Reader_readLine_61 rfl rfl ?_
            refine V_bipush 9 d_Reader_readLine_62 (by decide) ?_
            refine V_icmp_ne 95 tc_0 tc_9 d_Reader_readLine_64 (by decide) (fun c26 => ?_) (fun c26 => ?_)
            ·
              have hH : x_cH b T (D 86) p0 = 0 := cH_0 (by (first | decide +kernel | omega)) (by (first | decide +kernel | omega)) (by rw [hL]; omega) (by (first | decide +kernel | omega))
              refine V_iload_n 1 d_Reader_readLine_95 rfl rfl ?_
              refine V_bipush 8 d_Reader_readLine_96 (by decide) ?_
              refine V_icmp_ne 110 tc_0 tc_8 d_Reader_readLine_98 (by decide) (fun c27 => ?_) (fun c27 => ?_)
              ·
                refine V_iconst 0 d_Reader_readLine_110 (by decide) ?_
                refine V_istore_n 2 [some (.ref 88), some (.int 0), some (.int 0)] d_Reader_readLine_111 rfl (by decide) rfl rfl ?_
                refine V_iload_n 2 d_Reader_readLine_112 rfl rfl ?_
                refine V_gets (v := .ref 132) zN ws_Reader_106 d_Reader_readLine_113 ?_
                refine V_iload_n 1 d_Reader_readLine_116 rfl rfl ?_
                refine V_tald roN tc_0 (by decide) d_Reader_readLine_117 (fun z28 z28Z z28E z28e => ?_)
                obtain rfl : z28 = 2 := z28e.trans rfl
                refine V_icmp_ge 138 tc_0 tc_2 d_Reader_readLine_118 (by decide) (fun c29 => ?_) (fun c29 => ?_)
                ·
                  exact absurd c29 (by decide)
                ·
                  refine V_aload_n 0 d_Reader_readLine_121 rfl rfl ?_
                  refine V_iload_n 1 d_Reader_readLine_122 rfl rfl ?_
                  refine V_iload_n 2 d_Reader_readLine_123 rfl rfl ?_
                  refine N_callVI [.int 0, .int 0] [] cv_Reader_109 sk_88 rfl d_Reader_readLine_124 rfl (Nat.le_of_ble_eq_true rfl) (by decide) (by decide) (c_Reader_readNumberX_0_0 h5 b T hI7 s sZ sE (kn_call fh5 sK rfl) u uZ uE (kn_call fh5 uK rfl) o10 o10Z o10E o10K o9 o9Z o9E o9K (TP_fr f8 (fun _ => rfl) hy0) (by (first | decide +kernel | omega))) (fun z30 h31 z30Z z30E p32 => ?_)
                  obtain ⟨hI33, fh31, o35, o35Z, o35E, o35K, o36, o36Z, o36E, o36K, o37, o37Z, o37E, o37K, o38, o38Z, o38E, o38K, o39, o39Z, o39E, o39K, o40, o40Z, o40E, o40K, o41, o41Z, o41E, o41K, p32⟩ := p32
                  have f34 : fr S_Reader_readLineX h h31 := fr_call f8 fh31 rfl
                  have R42 : RC h31 T D := RC_fr fh31 rfl R11
                  have g43 : 0 ≤ o36Z ∧ o36Z ≤ 160 := inv_at hI33 o36E o36K.symm rfl
                  have g44 : 0 ≤ o37Z ∧ o37Z ≤ 160 := inv_at hI33 o37E o37K.symm rfl
                  refine V_if_ne 132 z30E d_Reader_readLine_127 (by decide) (fun c45 => ?_) (fun c45 => ?_)
                  ·
                    replace p32 := p32.resolve_right (fun q => by (first | decide +kernel | omega))
                    obtain rfl : o37Z = x_en b uZ := by (first | decide +kernel | omega)
                    obtain rfl : o41Z = x_vl b uZ := by (first | decide +kernel | omega)
                    refine V_iinc (v := 1) 2 [some (.ref 88), some (.int 0), some (.int 1)] d_Reader_readLine_132 rfl (by decide) (by decide) rfl rfl ?_
                    refine V_goto 112 d_Reader_readLine_135 (by decide) ?_
                    refine V_iload_n 2 d_Reader_readLine_112 rfl rfl ?_
                    refine V_gets (v := .ref 132) zN ws_Reader_106 d_Reader_readLine_113 ?_
                    refine V_iload_n 1 d_Reader_readLine_116 rfl rfl ?_
                    refine V_tald roN tc_0 (by decide) d_Reader_readLine_117 (fun z47 z47Z z47E z47e => ?_)
                    obtain rfl : z47 = 2 := z47e.trans rfl
                    refine V_icmp_ge 138 tc_1 tc_2 d_Reader_readLine_118 (by decide) (fun c48 => ?_) (fun c48 => ?_)
                    ·
                      exact absurd c48 (by decide)
                    ·
                      refine V_aload_n 0 d_Reader_readLine_121 rfl rfl ?_
                      refine V_iload_n 1 d_Reader_readLine_122 rfl rfl ?_
                      refine V_iload_n 2 d_Reader_readLine_123 rfl rfl ?_
                      refine N_callVI [.int 0, .int 1] [] cv_Reader_109 sk_88 rfl d_Reader_readLine_124 rfl (Nat.le_of_ble_eq_true rfl) (by decide) (by decide) (c_Reader_readNumberX_0_1 h31 b T hI33 s sZ sE (kn_call fh31 (kn_call fh5 sK rfl) rfl) o37 ((x_en b uZ)) o37E o37K o40 o40Z o40E o40K o39 o39Z o39E o39K (TP_fr f34 (fun _ => rfl) hy0) (by (first | decide +kernel | omega))) (fun z49 h50 z49Z z49E p51 => ?_)
                      obtain ⟨hI52, fh50, o54, o54Z, o54E, o54K, o55, o55Z, o55E, o55K, o56, o56Z, o56E, o56K, o57, o57Z, o57E, o57K, o58, o58Z, o58E, o58K, o59, o59Z, o59E, o59K, o60, o60Z, o60E, o60K, p51⟩ := p51
                      have f53 : fr S_Reader_readLineX h h50 := fr_call f34 fh50 rfl
                      have R61 : RC h50 T D := RC_fr fh50 rfl R42
                      have g62 : 0 ≤ o55Z ∧ o55Z ≤ 160 := inv_at hI52 o55E o55K.symm rfl
                      have g63 : 0 ≤ o56Z ∧ o56Z ≤ 160 := inv_at hI52 o56E o56K.symm rfl
                      refine V_if_ne 132 z49E d_Reader_readLine_127 (by decide) (fun c64 => ?_) (fun c64 => ?_)
                      ·
                        replace p51 := p51.resolve_right (fun q => by (first | decide +kernel | omega))
                        obtain rfl : o56Z = x_en b ((x_en b uZ)) := by (first | decide +kernel | omega)
                        obtain rfl : o60Z = x_vl b ((x_en b uZ)) := by (first | decide +kernel | omega)
                        refine V_iinc (v := 2) 2 [some (.ref 88), some (.int 0), some (.int 2)] d_Reader_readLine_132 rfl (by decide) (by decide) rfl rfl ?_
                        refine V_goto 112 d_Reader_readLine_135 (by decide) ?_
                        refine V_iload_n 2 d_Reader_readLine_112 rfl rfl ?_
                        refine V_gets (v := .ref 132) zN ws_Reader_106 d_Reader_readLine_113 ?_
                        refine V_iload_n 1 d_Reader_readLine_116 rfl rfl ?_
                        refine V_tald roN tc_0 (by decide) d_Reader_readLine_117 (fun z66 z66Z z66E z66e => ?_)
                        obtain rfl : z66 = 2 := z66e.trans rfl
                        refine V_icmp_ge 138 tc_2 tc_2 d_Reader_readLine_118 (by decide) (fun c67 => ?_) (fun c67 => ?_)
                        ·
                          refine V_aload_n 0 d_Reader_readLine_138 rfl rfl ?_
                          refine V_getR fa_Reader_12 sk_88 rfl d_Reader_readLine_139 ?_
                          refine N_callVV [] [] cv_Reader_48 sk_89 rfl d_Reader_readLine_142 rfl (Nat.le_of_ble_eq_true rfl) (by decide) (by decide) (c_Tape_advanceX h50 b hI52 s sZ sE (kn_call fh50 (kn_call fh31 (kn_call fh5 sK rfl) rfl) rfl) o56 ((x_en b ((x_en b uZ)))) o56E o56K (TP_fr f53 (fun _ => rfl) hy0) (by (first | decide +kernel | omega))) (fun h69 p70 => ?_)
                          obtain ⟨hI71, fh69, o73, o73Z, o73E, o73K, o74, o74Z, o74E, o74K, o75, o75Z, o75E, o75K, o76, o76Z, o76E, o76K, p70⟩ := p70
                          have f72 : fr S_Reader_readLineX h h69 := fr_call f53 fh69 rfl
                          have R77 : RC h69 T D := RC_fr fh69 rfl R61
                          have g78 : 0 ≤ o74Z ∧ o74Z ≤ 160 := inv_at hI71 o74E o74K.symm rfl
                          have g79 : 0 ≤ o75Z ∧ o75Z ≤ 160 := inv_at hI71 o75E o75K.symm rfl
                          refine V_aload_n 0 d_Reader_readLine_145 rfl rfl ?_
                          refine V_iconst 3 d_Reader_readLine_146 (by decide) ?_
                          refine N_callVI [.int 3] [] cv_Reader_84 sk_88 rfl d_Reader_readLine_147 rfl (Nat.le_of_ble_eq_true rfl) (by decide) (by decide) (c_Reader_isKindX h69 hI71 3 3 tc_3 o73 o73Z o73E o73K o74 o74Z o74E o74K o59 o59Z o59E (kn_call fh69 o59K rfl) o58 o58Z o58E (kn_call fh69 o58K rfl)) (fun z80 h81 z80Z z80E p82 => ?_)
                          obtain ⟨hI83, fh81, o85, o85Z, o85E, o85K, o86, o86Z, o86E, o86K, p82⟩ := p82
                          have f84 : fr S_Reader_readLineX h h81 := fr_call f72 fh81 rfl
                          have R87 : RC h81 T D := RC_fr fh81 rfl R77
                          refine V_if_ne 155 z80E d_Reader_readLine_150 (by decide) (fun c88 => ?_) (fun c88 => ?_)
                          ·
                            replace p82 := kd_y p82 (by (first | decide +kernel | omega))
                            replace p70 := adv_m 3 p70 (by (first | decide +kernel | omega)) (by decide)
                            have hS : x_cS b (x_en b ((x_en b uZ))) = 0 := cS_of p70.2.2.1
                            have g89 := cN_0 (show x_cN b uZ 2 4 = 0 by (first | decide +kernel | omega))
                            have g92 := cN_0 (show x_cN b (x_en b uZ) 2 4 = 0 by (first | decide +kernel | omega))
                            refine V_aload_n 0 d_Reader_readLine_155 rfl rfl ?_
                            refine V_iload_n 1 d_Reader_readLine_156 rfl rfl ?_
                            obtain ⟨z101, z101Z, z101E, z101e⟩ : ∃ (y : Int32) (Y : Int), y.toInt = Y ∧ y = h81.1 75 4 := ⟨_, _, rfl, rfl⟩
                            have g102 : 0 ≤ z101Z ∧ z101Z ≤ 8 := inv_at hI83 z101E z101e rfl
                            refine N_callVV [.int 0] [] cv_Reader_112 sk_88 rfl d_Reader_readLine_157 rfl (Nat.le_of_ble_eq_true rfl) (by decide) (by decide) (c_Reader_tellLineX_0 h81 T D hI83 o41 ((x_vl b uZ)) o41E (kn_call fh81 (kn_call fh69 (kn_call fh50 o41K rfl) rfl) rfl) o60 ((x_vl b ((x_en b uZ)))) o60E (kn_call fh81 (kn_call fh69 o60K rfl) rfl) z23 z23Z z23E (kn_call fh81 (kn_call fh69 (kn_call fh50 (kn_call fh31 z23e.symm rfl) rfl) rfl) rfl) z101 z101Z z101E z101e.symm R87 (by (first | decide +kernel | omega)) (by (first | decide +kernel | omega))) (fun h104 p105 => ?_)
                            obtain ⟨hI106, fh104, p105⟩ := p105
                            have f107 : fr S_Reader_readLineX h h104 := fr_call f84 fh104 rfl
                            have qR := p105
                            refine V_iconst 1 d_Reader_readLine_160 (by decide) ?_
                            exact V_zret rfl (by decide) d_Reader_readLine_161 ⟨1, rfl, ⟨hI106, f107, o75, o75Z, o75E, (kn_call fh104 (kn_call fh81 o75K rfl) rfl), o85, o85Z, o85E, (kn_call fh104 o85K rfl), o86, o86Z, o86E, (kn_call fh104 o86K rfl), (Or.inl ⟨rfl, ((x_line_0 (u := uZ) (by (first | decide +kernel | omega)) hH hL).trans (by unfold x_l0; rw [x_sq_n (c := x_cN b uZ 2 4) (by (first | decide +kernel | omega)), x_sq_n (c := x_cN b (x_en b uZ) 2 4) (by (first | decide +kernel | omega)), x_sq_n (c := x_cS b (x_en b (x_en b uZ))) (by (first | decide +kernel | omega))])).trans (pq rfl (by (first | decide +kernel | omega))), by (first | decide +kernel | omega), by (first | decide +kernel | omega), by (first | decide +kernel | omega), by rw [x_T_0 T (u := uZ) (by (first | decide +kernel | omega)) hL, x_D_0 D (u := uZ) (by (first | decide +kernel | omega)) hL]; exact qR⟩)⟩⟩
                          ·
                            replace p82 := kd_n p82 (by (first | decide +kernel | omega))
                            replace p70 := adv_0 p70
                            refine V_iconst 0 d_Reader_readLine_153 (by decide) ?_
                            exact V_zret rfl (by decide) d_Reader_readLine_154 ⟨0, rfl, ⟨hI83, f84, o75, o75Z, o75E, (kn_call fh81 o75K rfl), o85, o85Z, o85E, o85K, o86, o86Z, o86E, o86K, (by have q := x_cS_s b (x_en b (x_en b uZ)); exact Or.inr ⟨tc_0, ((x_line_0 (u := uZ) (by (first | decide +kernel | omega)) hH hL).trans (by unfold x_l0; rw [x_sq_n (c := x_cN b uZ 2 4) (by (first | decide +kernel | omega)), x_sq_n (c := x_cN b (x_en b uZ) 2 4) (by (first | decide +kernel | omega)), x_sq_y (c := x_cS b (x_en b (x_en b uZ))) (by (first | decide +kernel | omega))])).trans (pq (by (first | decide +kernel | omega)) (by (first | decide +kernel | omega))), by (first | decide +kernel | omega)⟩)⟩⟩
                        ·
                          exact absurd c67 (by decide)
                      ·
                        replace p51 := p51.resolve_left (fun q => by (first | decide +kernel | omega))
                        refine V_iconst 0 d_Reader_readLine_130 (by decide) ?_
                        exact V_zret rfl (by decide) d_Reader_readLine_131 ⟨0, rfl, ⟨hI52, f53, o56, o56Z, o56E, o56K, o58, o58Z, o58E, o58K, o59, o59Z, o59E, o59K, (by exact Or.inr ⟨tc_0, ((x_line_0 (u := uZ) (by (first | decide +kernel | omega)) hH hL).trans (by unfold x_l0; rw [x_sq_n (c := x_cN b uZ 2 4) (by (first | decide +kernel | omega)), x_sq_y (c := x_cN b (x_en b uZ) 2 4) (by (first | decide +kernel | omega))])).trans (pq (by (first | decide +kernel | omega)) (by (first | decide +kernel | omega))), by (first | decide +kernel | omega)⟩)⟩⟩
                  ·
                    replace p32 := p32.resolve_left (fun q => by (first | decide +kernel | omega))
                    refine V_iconst 0 d_Reader_readLine_130 (by decide) ?_
                    exact V_zret rfl (by decide) d_Reader_readLine_131 ⟨0, rfl, ⟨hI33, f34, o37, o37Z, o37E, o37K, o39, o39Z, o39E, o39K, o40, o40Z, o40E, o40K, (by exact Or.inr ⟨tc_0, ((x_line_0 (u := uZ) (by (first | decide +kernel | omega)) hH hL).trans (by unfold x_l0; rw [x_sq_y (c := x_cN b uZ 2 4) (by (first | decide +kernel | omega))])).trans (pq (by (first | decide +kernel | omega)) (by (first | decide +kernel | omega))), by (first | decide +kernel | omega)⟩)⟩⟩
              ·
                exact absurd c27 (by decide)
            ·
              exact absurd c26 (by decide)
          ·
            replace g24 := g24.resolve_left (by (first | decide +kernel | omega))
            refine V_aload_n 0 d_Reader_readLine_48 rfl rfl ?_
            refine V_iconst 4 d_Reader_readLine_49 (by decide) ?_
            refine V_aload_n 0 d_Reader_readLine_50 rfl rfl ?_
            refine V_getR fa_Reader_12 sk_88 rfl d_Reader_readLine_51 ?_
            refine N_getK fa_Reader_81 sk_89 rfl d_Reader_readLine_54 (kn_call fh5 fK rfl) ?_
            refine N_callVI [.int 4, .int f] [] cv_Reader_64 sk_88 rfl d_Reader_readLine_57 rfl (Nat.le_of_ble_eq_true rfl) (by decide) (by decide) (c_Reader_isRefusedX h5 hI7 4 4 tc_4 f fZ fE) (fun z108 h109 z108Z z108E p110 => ?_)
            obtain ⟨hI111, fh109, o113, o113Z, o113E, o113K, o114, o114Z, o114E, o114K, p110⟩ := p110
            have f112 : fr S_Reader_readLineX h h109 := fr_call f8 fh109 rfl
            have R115 : RC h109 T D := RC_fr fh109 rfl R11
            exact V_zret rfl (by rw [z108E]; omega) d_Reader_readLine_60 ⟨z108, rfl, ⟨hI111, f112, u, uZ, uE, (kn_call fh109 (kn_call fh5 uK rfl) rfl), o113, o113Z, o113E, o113K, o114, o114Z, o114E, o114K, (by have hc9 : x_cH b T (D 86) p0 = 4 := cH_4 (by (first | decide +kernel | omega)) (by (first | decide +kernel | omega)) (by rw [hL]; omega); exact Or.inr ⟨by (first | decide +kernel | omega), (x_line_H (by rw [hc9]; decide)).trans (pq (by rw [hc9]; omega) (by (first | decide +kernel | omega))), by (first | decide +kernel | omega)⟩)⟩⟩
      ·
        obtain rfl : z13 = 1 := (ti_eq z13E tc_1).mpr c18
        subst c18
        have hL : x_li b p0 = 1 := by (first | decide +kernel | omega)
        refine V_iload_n 1 d_Reader_readLine_32 rfl rfl ?_
        refine N_callSI [.int 1] [] cs_Reader_91 d_Reader_readLine_33 rfl (Nat.le_of_ble_eq_true rfl) (by decide) (by decide) (c_Reader_isOnceOnlyX_1 h5) (fun z116 h117 z116Z z116E p118 => ?_)
        obtain ⟨eh117, p118⟩ := p118
        subst eh117
        refine V_if_eq 61 z116E d_Reader_readLine_36 (by decide) (fun c119 => ?_) (fun c119 => ?_)
        ·
          refine V_iload_n 1 d_Reader_readLine_61 rfl rfl ?_
          refine V_bipush 9 d_Reader_readLine_62 (by decide) ?_
          refine V_icmp_ne 95 tc_1 tc_9 d_Reader_readLine_64 (by decide) (fun c120 => ?_) (fun c120 => ?_)
          ·
            have hH : x_cH b T (D 86) p0 = 0 := cH_0 (by (first | decide +kernel | omega)) (by (first | decide +kernel | omega)) (by rw [hL]; omega) (by (first | decide +kernel | omega))
            refine V_iload_n 1 d_Reader_readLine_95 rfl rfl ?_
            refine V_bipush 8 d_Reader_readLine_96 (by decide) ?_
            refine V_icmp_ne 110 tc_1 tc_8 d_Reader_readLine_98 (by decide) (fun c121 => ?_) (fun c121 => ?_)
            ·
              refine V_iconst 0 d_Reader_readLine_110 (by decide) ?_
              refine V_istore_n 2 [some (.ref 88), some (.int 1), some (.int 0)] d_Reader_readLine_111 rfl (by decide) rfl rfl ?_
              refine V_iload_n 2 d_Reader_readLine_112 rfl rfl ?_
              refine V_gets (v := .ref 132) zN ws_Reader_106 d_Reader_readLine_113 ?_
              refine V_iload_n 1 d_Reader_readLine_116 rfl rfl ?_
              refine V_tald roN tc_1 (by decide) d_Reader_readLine_117 (fun z122 z122Z z122E z122e => ?_)
              obtain rfl : z122 = 2 := z122e.trans rfl
              refine V_icmp_ge 138 tc_0 tc_2 d_Reader_readLine_118 (by decide) (fun c123 => ?_) (fun c123 => ?_)
              ·
                exact absurd c123 (by decide)
              ·
                refine V_aload_n 0 d_Reader_readLine_121 rfl rfl ?_
                refine V_iload_n 1 d_Reader_readLine_122 rfl rfl ?_
                refine V_iload_n 2 d_Reader_readLine_123 rfl rfl ?_
                obtain ⟨z124, z124Z, z124E, z124e⟩ : ∃ (y : Int32) (Y : Int), y.toInt = Y ∧ y = h5.1 92 1 := ⟨_, _, rfl, rfl⟩
                refine N_callVI [.int 1, .int 0] [] cv_Reader_109 sk_88 rfl d_Reader_readLine_124 rfl (Nat.le_of_ble_eq_true rfl) (by decide) (by decide) (c_Reader_readNumberX_1_0 h5 b T hI7 s sZ sE (kn_call fh5 sK rfl) u uZ uE (kn_call fh5 uK rfl) o10 o10Z o10E o10K o9 o9Z o9E o9K z124 z124Z z124E z124e.symm (TP_fr f8 (fun _ => rfl) hy0) (by (first | decide +kernel | omega)) (TB_kn z124e.symm (R11.1.1 1 (by decide) (by decide)))) (fun z125 h126 z125Z z125E p127 => ?_)
                obtain ⟨hI128, fh126, o130, o130Z, o130E, o130K, o131, o131Z, o131E, o131K, o132, o132Z, o132E, o132K, o133, o133Z, o133E, o133K, o134, o134Z, o134E, o134K, o135, o135Z, o135E, o135K, o136, o136Z, o136E, o136K, p127⟩ := p127
                have f129 : fr S_Reader_readLineX h h126 := fr_call f8 fh126 rfl
                have R137 : RC h126 T D := RC_fr fh126 rfl R11
                have g138 : 0 ≤ o131Z ∧ o131Z ≤ 160 := inv_at hI128 o131E o131K.symm rfl
                have g139 : 0 ≤ o132Z ∧ o132Z ≤ 160 := inv_at hI128 o132E o132K.symm rfl
                refine V_if_ne 132 z125E d_Reader_readLine_127 (by decide) (fun c140 => ?_) (fun c140 => ?_)
                ·
                  replace p127 := p127.resolve_right (fun q => by (first | decide +kernel | omega))
                  obtain rfl : o132Z = x_en b uZ := by (first | decide +kernel | omega)
                  obtain rfl : o136Z = x_vl b uZ := by (first | decide +kernel | omega)
                  refine V_iinc (v := 1) 2 [some (.ref 88), some (.int 1), some (.int 1)] d_Reader_readLine_132 rfl (by decide) (by decide) rfl rfl ?_
                  refine V_goto 112 d_Reader_readLine_135 (by decide) ?_
                  refine V_iload_n 2 d_Reader_readLine_112 rfl rfl ?_
                  refine V_gets (v := .ref 132) zN ws_Reader_106 d_Reader_readLine_113 ?_
                  refine V_iload_n 1 d_Reader_readLine_116 rfl rfl ?_
                  refine V_tald roN tc_1 (by decide) d_Reader_readLine_117 (fun z142 z142Z z142E z142e => ?_)
                  obtain rfl : z142 = 2 := z142e.trans rfl
                  refine V_icmp_ge 138 tc_1 tc_2 d_Reader_readLine_118 (by decide) (fun c143 => ?_) (fun c143 => ?_)
                  ·
                    exact absurd c143 (by decide)
                  ·
                    refine V_aload_n 0 d_Reader_readLine_121 rfl rfl ?_
                    refine V_iload_n 1 d_Reader_readLine_122 rfl rfl ?_
                    refine V_iload_n 2 d_Reader_readLine_123 rfl rfl ?_
                    refine N_callVI [.int 1, .int 1] [] cv_Reader_109 sk_88 rfl d_Reader_readLine_124 rfl (Nat.le_of_ble_eq_true rfl) (by decide) (by decide) (c_Reader_readNumberX_1_1 h126 b T hI128 s sZ sE (kn_call fh126 (kn_call fh5 sK rfl) rfl) o132 ((x_en b uZ)) o132E o132K o135 o135Z o135E o135K o134 o134Z o134E o134K (TP_fr f129 (fun _ => rfl) hy0) (by (first | decide +kernel | omega))) (fun z144 h145 z144Z z144E p146 => ?_)
                    obtain ⟨hI147, fh145, o149, o149Z, o149E, o149K, o150, o150Z, o150E, o150K, o151, o151Z, o151E, o151K, o152, o152Z, o152E, o152K, o153, o153Z, o153E, o153K, o154, o154Z, o154E, o154K, o155, o155Z, o155E, o155K, p146⟩ := p146
                    have f148 : fr S_Reader_readLineX h h145 := fr_call f129 fh145 rfl
                    have R156 : RC h145 T D := RC_fr fh145 rfl R137
                    have g157 : 0 ≤ o150Z ∧ o150Z ≤ 160 := inv_at hI147 o150E o150K.symm rfl
                    have g158 : 0 ≤ o151Z ∧ o151Z ≤ 160 := inv_at hI147 o151E o151K.symm rfl
                    refine V_if_ne 132 z144E d_Reader_readLine_127 (by decide) (fun c159 => ?_) (fun c159 => ?_)
                    ·
                      replace p146 := p146.resolve_right (fun q => by (first | decide +kernel | omega))
                      obtain rfl : o151Z = x_en b ((x_en b uZ)) := by (first | decide +kernel | omega)
                      obtain rfl : o155Z = x_vl b ((x_en b uZ)) := by (first | decide +kernel | omega)
                      refine V_iinc (v := 2) 2 [some (.ref 88), some (.int 1), some (.int 2)] d_Reader_readLine_132 rfl (by decide) (by decide) rfl rfl ?_
                      refine V_goto 112 d_Reader_readLine_135 (by decide) ?_
                      refine V_iload_n 2 d_Reader_readLine_112 rfl rfl ?_
                      refine V_gets (v := .ref 132) zN ws_Reader_106 d_Reader_readLine_113 ?_
                      refine V_iload_n 1 d_Reader_readLine_116 rfl rfl ?_
                      refine V_tald roN tc_1 (by decide) d_Reader_readLine_117 (fun z161 z161Z z161E z161e => ?_)
                      obtain rfl : z161 = 2 := z161e.trans rfl
                      refine V_icmp_ge 138 tc_2 tc_2 d_Reader_readLine_118 (by decide) (fun c162 => ?_) (fun c162 => ?_)
                      ·
                        refine V_aload_n 0 d_Reader_readLine_138 rfl rfl ?_
                        refine V_getR fa_Reader_12 sk_88 rfl d_Reader_readLine_139 ?_
                        refine N_callVV [] [] cv_Reader_48 sk_89 rfl d_Reader_readLine_142 rfl (Nat.le_of_ble_eq_true rfl) (by decide) (by decide) (c_Tape_advanceX h145 b hI147 s sZ sE (kn_call fh145 (kn_call fh126 (kn_call fh5 sK rfl) rfl) rfl) o151 ((x_en b ((x_en b uZ)))) o151E o151K (TP_fr f148 (fun _ => rfl) hy0) (by (first | decide +kernel | omega))) (fun h164 p165 => ?_)
                        obtain ⟨hI166, fh164, o168, o168Z, o168E, o168K, o169, o169Z, o169E, o169K, o170, o170Z, o170E, o170K, o171, o171Z, o171E, o171K, p165⟩ := p165
                        have f167 : fr S_Reader_readLineX h h164 := fr_call f148 fh164 rfl
                        have R172 : RC h164 T D := RC_fr fh164 rfl R156
                        have g173 : 0 ≤ o169Z ∧ o169Z ≤ 160 := inv_at hI166 o169E o169K.symm rfl
                        have g174 : 0 ≤ o170Z ∧ o170Z ≤ 160 := inv_at hI166 o170E o170K.symm rfl
                        refine V_aload_n 0 d_Reader_readLine_145 rfl rfl ?_
                        refine V_iconst 3 d_Reader_readLine_146 (by decide) ?_
                        refine N_callVI [.int 3] [] cv_Reader_84 sk_88 rfl d_Reader_readLine_147 rfl (Nat.le_of_ble_eq_true rfl) (by decide) (by decide) (c_Reader_isKindX h164 hI166 3 3 tc_3 o168 o168Z o168E o168K o169 o169Z o169E o169K o154 o154Z o154E (kn_call fh164 o154K rfl) o153 o153Z o153E (kn_call fh164 o153K rfl)) (fun z175 h176 z175Z z175E p177 => ?_)
                        obtain ⟨hI178, fh176, o180, o180Z, o180E, o180K, o181, o181Z, o181E, o181K, p177⟩ := p177
                        have f179 : fr S_Reader_readLineX h h176 := fr_call f167 fh176 rfl
                        have R182 : RC h176 T D := RC_fr fh176 rfl R172
                        refine V_if_ne 155 z175E d_Reader_readLine_150 (by decide) (fun c183 => ?_) (fun c183 => ?_)
                        ·
                          replace p177 := kd_y p177 (by (first | decide +kernel | omega))
                          replace p165 := adv_m 3 p165 (by (first | decide +kernel | omega)) (by decide)
                          have hS : x_cS b (x_en b ((x_en b uZ))) = 0 := cS_of p165.2.2.1
                          have g184 := cN_0 (show x_cN b uZ 0 15 = 0 by (first | decide +kernel | omega))
                          have g187 := cN_0 (show x_cN b (x_en b uZ) 1 9 = 0 by (first | decide +kernel | omega))
                          refine V_aload_n 0 d_Reader_readLine_155 rfl rfl ?_
                          refine V_iload_n 1 d_Reader_readLine_156 rfl rfl ?_
                          obtain ⟨z196, z196Z, z196E, z196e⟩ : ∃ (y : Int32) (Y : Int), y.toInt = Y ∧ y = h176.1 75 4 := ⟨_, _, rfl, rfl⟩
                          have g197 : 0 ≤ z196Z ∧ z196Z ≤ 8 := inv_at hI178 z196E z196e rfl
                          refine N_callVV [.int 1] [] cv_Reader_112 sk_88 rfl d_Reader_readLine_157 rfl (Nat.le_of_ble_eq_true rfl) (by decide) (by decide) (c_Reader_tellLineX_1 h176 T D hI178 o136 ((x_vl b uZ)) o136E (kn_call fh176 (kn_call fh164 (kn_call fh145 o136K rfl) rfl) rfl) o155 ((x_vl b ((x_en b uZ)))) o155E (kn_call fh176 (kn_call fh164 o155K rfl) rfl) z124 z124Z z124E (kn_call fh176 (kn_call fh164 (kn_call fh145 (kn_call fh126 z124e.symm rfl) rfl) rfl) rfl) z196 z196Z z196E z196e.symm R182 (by (first | decide +kernel | omega)) (by (first | decide +kernel | omega))) (fun h199 p200 => ?_)
                          obtain ⟨hI201, fh199, p200⟩ := p200
                          have f202 : fr S_Reader_readLineX h h199 := fr_call f179 fh199 rfl
                          have qR := p200
                          refine V_iconst 1 d_Reader_readLine_160 (by decide) ?_
                          exact V_zret rfl (by decide) d_Reader_readLine_161 ⟨1, rfl, ⟨hI201, f202, o170, o170Z, o170E, (kn_call fh199 (kn_call fh176 o170K rfl) rfl), o180, o180Z, o180E, (kn_call fh199 o180K rfl), o181, o181Z, o181E, (kn_call fh199 o181K rfl), (Or.inl ⟨rfl, ((x_line_1 (u := uZ) (by (first | decide +kernel | omega)) hH hL).trans (by unfold x_l1; rw [x_sq_n (c := x_cN b uZ 0 15) (by (first | decide +kernel | omega)), x_sq_n (c := x_c4 (T 1 (x_vl b uZ))) (by (first | decide +kernel | omega)), x_sq_n (c := x_cN b (x_en b uZ) 1 9) (by (first | decide +kernel | omega)), x_sq_n (c := x_cS b (x_en b (x_en b uZ))) (by (first | decide +kernel | omega))])).trans (pq rfl (by (first | decide +kernel | omega))), by (first | decide +kernel | omega), by (first | decide +kernel | omega), by (first | decide +kernel | omega), by rw [x_T_1 T (u := uZ) (by (first | decide +kernel | omega)) hL, x_D_1 D (u := uZ) (by (first | decide +kernel | omega)) hL]; exact qR⟩)⟩⟩
                        ·
                          replace p177 := kd_n p177 (by (first | decide +kernel | omega))
                          replace p165 := adv_0 p165
                          refine V_iconst 0 d_Reader_readLine_153 (by decide) ?_
                          exact V_zret rfl (by decide) d_Reader_readLine_154 ⟨0, rfl, ⟨hI178, f179, o170, o170Z, o170E, (kn_call fh176 o170K rfl), o180, o180Z, o180E, o180K, o181, o181Z, o181E, o181K, (by have q := x_cS_s b (x_en b (x_en b uZ)); exact Or.inr ⟨tc_0, ((x_line_1 (u := uZ) (by (first | decide +kernel | omega)) hH hL).trans (by unfold x_l1; rw [x_sq_n (c := x_cN b uZ 0 15) (by (first | decide +kernel | omega)), x_sq_n (c := x_c4 (T 1 (x_vl b uZ))) (by (first | decide +kernel | omega)), x_sq_n (c := x_cN b (x_en b uZ) 1 9) (by (first | decide +kernel | omega)), x_sq_y (c := x_cS b (x_en b (x_en b uZ))) (by (first | decide +kernel | omega))])).trans (pq (by (first | decide +kernel | omega)) (by (first | decide +kernel | omega))), by (first | decide +kernel | omega)⟩)⟩⟩
                      ·
                        exact absurd c162 (by decide)
                    ·
                      replace p146 := p146.resolve_left (fun q => by (first | decide +kernel | omega))
                      refine V_iconst 0 d_Reader_readLine_130 (by decide) ?_
                      exact V_zret rfl (by decide) d_Reader_readLine_131 ⟨0, rfl, ⟨hI147, f148, o151, o151Z, o151E, o151K, o153, o153Z, o153E, o153K, o154, o154Z, o154E, o154K, (by exact Or.inr ⟨tc_0, ((x_line_1 (u := uZ) (by (first | decide +kernel | omega)) hH hL).trans (by unfold x_l1; rw [x_sq_n (c := x_cN b uZ 0 15) (by (first | decide +kernel | omega)), x_sq_n (c := x_c4 (T 1 (x_vl b uZ))) (by (first | decide +kernel | omega)), x_sq_y (c := x_cN b (x_en b uZ) 1 9) (by (first | decide +kernel | omega))])).trans (pq (by (first | decide +kernel | omega)) (by (first | decide +kernel | omega))), by (first | decide +kernel | omega)⟩)⟩⟩
                ·
                  replace p127 := p127.resolve_left (fun q => by (first | decide +kernel | omega))
                  refine V_iconst 0 d_Reader_readLine_130 (by decide) ?_
                  exact V_zret rfl (by decide) d_Reader_readLine_131 ⟨0, rfl, ⟨hI128, f129, o132, o132Z, o132E, o132K, o134, o134Z, o134E, o134K, o135, o135Z, o135E, o135K, (if q9 : x_cN b uZ 0 15 = 0 then Or.inr ⟨tc_0, ((x_line_1 (u := uZ) (by (first | decide +kernel | omega)) hH hL).trans (by unfold x_l1; rw [x_sq_n (c := x_cN b uZ 0 15) (by (first | decide +kernel | omega)), x_sq_y (c := x_c4 (T 1 (x_vl b uZ))) (by (first | decide +kernel | omega))])).trans (pq (by (first | decide +kernel | omega)) (by (first | decide +kernel | omega))), by (first | decide +kernel | omega)⟩ else Or.inr ⟨tc_0, ((x_line_1 (u := uZ) (by (first | decide +kernel | omega)) hH hL).trans (by unfold x_l1; rw [x_sq_y (c := x_cN b uZ 0 15) (by (first | decide +kernel | omega))])).trans (pq (by (first | decide +kernel | omega)) (by (first | decide +kernel | omega))), by (first | decide +kernel | omega)⟩)⟩⟩
            ·
              exact absurd c121 (by decide)
          ·
            exact absurd c120 (by decide)
        ·
          exact absurd c119 (by (first | decide +kernel | omega))
      ·
        obtain rfl : z13 = 2 := (ti_eq z13E tc_2).mpr c18
        subst c18
        have hL : x_li b p0 = 2 := by (first | decide +kernel | omega)
        refine V_iload_n 1 d_Reader_readLine_32 rfl rfl ?_
        refine N_callSI [.int 2] [] cs_Reader_91 d_Reader_readLine_33 rfl (Nat.le_of_ble_eq_true rfl) (by decide) (by decide) (c_Reader_isOnceOnlyX_2 h5) (fun z203 h204 z203Z z203E p205 => ?_)
        obtain ⟨eh204, p205⟩ := p205
        subst eh204
        refine V_if_eq 61 z203E d_Reader_readLine_36 (by decide) (fun c206 => ?_) (fun c206 => ?_)
        ·
          refine V_iload_n 1 d_Reader_readLine_61 rfl rfl ?_
          refine V_bipush 9 d_Reader_readLine_62 (by decide) ?_
          refine V_icmp_ne 95 tc_2 tc_9 d_Reader_readLine_64 (by decide) (fun c207 => ?_) (fun c207 => ?_)
          ·
            have hH : x_cH b T (D 86) p0 = 0 := cH_0 (by (first | decide +kernel | omega)) (by (first | decide +kernel | omega)) (by rw [hL]; omega) (by (first | decide +kernel | omega))
            refine V_iload_n 1 d_Reader_readLine_95 rfl rfl ?_
            refine V_bipush 8 d_Reader_readLine_96 (by decide) ?_
            refine V_icmp_ne 110 tc_2 tc_8 d_Reader_readLine_98 (by decide) (fun c208 => ?_) (fun c208 => ?_)
            ·
              refine V_iconst 0 d_Reader_readLine_110 (by decide) ?_
              refine V_istore_n 2 [some (.ref 88), some (.int 2), some (.int 0)] d_Reader_readLine_111 rfl (by decide) rfl rfl ?_
              refine V_iload_n 2 d_Reader_readLine_112 rfl rfl ?_
              refine V_gets (v := .ref 132) zN ws_Reader_106 d_Reader_readLine_113 ?_
              refine V_iload_n 1 d_Reader_readLine_116 rfl rfl ?_
              refine V_tald roN tc_2 (by decide) d_Reader_readLine_117 (fun z209 z209Z z209E z209e => ?_)
              obtain rfl : z209 = 1 := z209e.trans rfl
              refine V_icmp_ge 138 tc_0 tc_1 d_Reader_readLine_118 (by decide) (fun c210 => ?_) (fun c210 => ?_)
              ·
                exact absurd c210 (by decide)
              ·
                refine V_aload_n 0 d_Reader_readLine_121 rfl rfl ?_
                refine V_iload_n 1 d_Reader_readLine_122 rfl rfl ?_
                refine V_iload_n 2 d_Reader_readLine_123 rfl rfl ?_
                obtain ⟨z211, z211Z, z211E, z211e⟩ : ∃ (y : Int32) (Y : Int), y.toInt = Y ∧ y = h5.1 92 2 := ⟨_, _, rfl, rfl⟩
                refine N_callVI [.int 2, .int 0] [] cv_Reader_109 sk_88 rfl d_Reader_readLine_124 rfl (Nat.le_of_ble_eq_true rfl) (by decide) (by decide) (c_Reader_readNumberX_2_0 h5 b T hI7 s sZ sE (kn_call fh5 sK rfl) u uZ uE (kn_call fh5 uK rfl) o10 o10Z o10E o10K o9 o9Z o9E o9K z211 z211Z z211E z211e.symm (TP_fr f8 (fun _ => rfl) hy0) (by (first | decide +kernel | omega)) (TB_kn z211e.symm (R11.1.1 2 (by decide) (by decide)))) (fun z212 h213 z212Z z212E p214 => ?_)
                obtain ⟨hI215, fh213, o217, o217Z, o217E, o217K, o218, o218Z, o218E, o218K, o219, o219Z, o219E, o219K, o220, o220Z, o220E, o220K, o221, o221Z, o221E, o221K, o222, o222Z, o222E, o222K, o223, o223Z, o223E, o223K, p214⟩ := p214
                have f216 : fr S_Reader_readLineX h h213 := fr_call f8 fh213 rfl
                have R224 : RC h213 T D := RC_fr fh213 rfl R11
                have g225 : 0 ≤ o218Z ∧ o218Z ≤ 160 := inv_at hI215 o218E o218K.symm rfl
                have g226 : 0 ≤ o219Z ∧ o219Z ≤ 160 := inv_at hI215 o219E o219K.symm rfl
                refine V_if_ne 132 z212E d_Reader_readLine_127 (by decide) (fun c227 => ?_) (fun c227 => ?_)
                ·
                  replace p214 := p214.resolve_right (fun q => by (first | decide +kernel | omega))
                  obtain rfl : o219Z = x_en b uZ := by (first | decide +kernel | omega)
                  obtain rfl : o223Z = x_vl b uZ := by (first | decide +kernel | omega)
                  refine V_iinc (v := 1) 2 [some (.ref 88), some (.int 2), some (.int 1)] d_Reader_readLine_132 rfl (by decide) (by decide) rfl rfl ?_
                  refine V_goto 112 d_Reader_readLine_135 (by decide) ?_
                  refine V_iload_n 2 d_Reader_readLine_112 rfl rfl ?_
                  refine V_gets (v := .ref 132) zN ws_Reader_106 d_Reader_readLine_113 ?_
                  refine V_iload_n 1 d_Reader_readLine_116 rfl rfl ?_
                  refine V_tald roN tc_2 (by decide) d_Reader_readLine_117 (fun z229 z229Z z229E z229e => ?_)
                  obtain rfl : z229 = 1 := z229e.trans rfl
                  refine V_icmp_ge 138 tc_1 tc_1 d_Reader_readLine_118 (by decide) (fun c230 => ?_) (fun c230 => ?_)
                  ·
                    refine V_aload_n 0 d_Reader_readLine_138 rfl rfl ?_
                    refine V_getR fa_Reader_12 sk_88 rfl d_Reader_readLine_139 ?_
                    refine N_callVV [] [] cv_Reader_48 sk_89 rfl d_Reader_readLine_142 rfl (Nat.le_of_ble_eq_true rfl) (by decide) (by decide) (c_Tape_advanceX h213 b hI215 s sZ sE (kn_call fh213 (kn_call fh5 sK rfl) rfl) o219 ((x_en b uZ)) o219E o219K (TP_fr f216 (fun _ => rfl) hy0) (by (first | decide +kernel | omega))) (fun h232 p233 => ?_)
                    obtain ⟨hI234, fh232, o236, o236Z, o236E, o236K, o237, o237Z, o237E, o237K, o238, o238Z, o238E, o238K, o239, o239Z, o239E, o239K, p233⟩ := p233
                    have f235 : fr S_Reader_readLineX h h232 := fr_call f216 fh232 rfl
                    have R240 : RC h232 T D := RC_fr fh232 rfl R224
                    have g241 : 0 ≤ o237Z ∧ o237Z ≤ 160 := inv_at hI234 o237E o237K.symm rfl
                    have g242 : 0 ≤ o238Z ∧ o238Z ≤ 160 := inv_at hI234 o238E o238K.symm rfl
                    refine V_aload_n 0 d_Reader_readLine_145 rfl rfl ?_
                    refine V_iconst 3 d_Reader_readLine_146 (by decide) ?_
                    refine N_callVI [.int 3] [] cv_Reader_84 sk_88 rfl d_Reader_readLine_147 rfl (Nat.le_of_ble_eq_true rfl) (by decide) (by decide) (c_Reader_isKindX h232 hI234 3 3 tc_3 o236 o236Z o236E o236K o237 o237Z o237E o237K o222 o222Z o222E (kn_call fh232 o222K rfl) o221 o221Z o221E (kn_call fh232 o221K rfl)) (fun z243 h244 z243Z z243E p245 => ?_)
                    obtain ⟨hI246, fh244, o248, o248Z, o248E, o248K, o249, o249Z, o249E, o249K, p245⟩ := p245
                    have f247 : fr S_Reader_readLineX h h244 := fr_call f235 fh244 rfl
                    have R250 : RC h244 T D := RC_fr fh244 rfl R240
                    refine V_if_ne 155 z243E d_Reader_readLine_150 (by decide) (fun c251 => ?_) (fun c251 => ?_)
                    ·
                      replace p245 := kd_y p245 (by (first | decide +kernel | omega))
                      replace p233 := adv_m 3 p233 (by (first | decide +kernel | omega)) (by decide)
                      have hS : x_cS b (x_en b uZ) = 0 := cS_of p233.2.2.1
                      have g252 := cN_0 (show x_cN b uZ 0 15 = 0 by (first | decide +kernel | omega))
                      refine V_aload_n 0 d_Reader_readLine_155 rfl rfl ?_
                      refine V_iload_n 1 d_Reader_readLine_156 rfl rfl ?_
                      obtain ⟨z258, z258Z, z258E, z258e⟩ : ∃ (y : Int32) (Y : Int), y.toInt = Y ∧ y = h244.1 75 4 := ⟨_, _, rfl, rfl⟩
                      have g259 : 0 ≤ z258Z ∧ z258Z ≤ 8 := inv_at hI246 z258E z258e rfl
                      refine N_callVV [.int 2] [] cv_Reader_112 sk_88 rfl d_Reader_readLine_157 rfl (Nat.le_of_ble_eq_true rfl) (by decide) (by decide) (c_Reader_tellLineX_2 h244 T D hI246 o223 ((x_vl b uZ)) o223E (kn_call fh244 (kn_call fh232 o223K rfl) rfl) z211 z211Z z211E (kn_call fh244 (kn_call fh232 (kn_call fh213 z211e.symm rfl) rfl) rfl) z258 z258Z z258E z258e.symm R250 (by (first | decide +kernel | omega))) (fun h261 p262 => ?_)
                      obtain ⟨hI263, fh261, p262⟩ := p262
                      have f264 : fr S_Reader_readLineX h h261 := fr_call f247 fh261 rfl
                      have qR := p262
                      refine V_iconst 1 d_Reader_readLine_160 (by decide) ?_
                      exact V_zret rfl (by decide) d_Reader_readLine_161 ⟨1, rfl, ⟨hI263, f264, o238, o238Z, o238E, (kn_call fh261 (kn_call fh244 o238K rfl) rfl), o248, o248Z, o248E, (kn_call fh261 o248K rfl), o249, o249Z, o249E, (kn_call fh261 o249K rfl), (Or.inl ⟨rfl, ((x_line_2 (u := uZ) (by (first | decide +kernel | omega)) hH hL).trans (by unfold x_l2; rw [x_sq_n (c := x_cN b uZ 0 15) (by (first | decide +kernel | omega)), x_sq_n (c := x_c4 (T 2 (x_vl b uZ))) (by (first | decide +kernel | omega)), x_sq_n (c := x_cS b (x_en b uZ)) (by (first | decide +kernel | omega))])).trans (pq rfl (by (first | decide +kernel | omega))), by (first | decide +kernel | omega), by (first | decide +kernel | omega), by (first | decide +kernel | omega), by rw [x_T_2 T (u := uZ) (by (first | decide +kernel | omega)) hL, x_D_2 D (u := uZ) (by (first | decide +kernel | omega)) hL]; exact qR⟩)⟩⟩
                    ·
                      replace p245 := kd_n p245 (by (first | decide +kernel | omega))
                      replace p233 := adv_0 p233
                      refine V_iconst 0 d_Reader_readLine_153 (by decide) ?_
                      exact V_zret rfl (by decide) d_Reader_readLine_154 ⟨0, rfl, ⟨hI246, f247, o238, o238Z, o238E, (kn_call fh244 o238K rfl), o248, o248Z, o248E, o248K, o249, o249Z, o249E, o249K, (by have q := x_cS_s b (x_en b uZ); exact Or.inr ⟨tc_0, ((x_line_2 (u := uZ) (by (first | decide +kernel | omega)) hH hL).trans (by unfold x_l2; rw [x_sq_n (c := x_cN b uZ 0 15) (by (first | decide +kernel | omega)), x_sq_n (c := x_c4 (T 2 (x_vl b uZ))) (by (first | decide +kernel | omega)), x_sq_y (c := x_cS b (x_en b uZ)) (by (first | decide +kernel | omega))])).trans (pq (by (first | decide +kernel | omega)) (by (first | decide +kernel | omega))), by (first | decide +kernel | omega)⟩)⟩⟩
                  ·
                    exact absurd c230 (by decide)
                ·
                  replace p214 := p214.resolve_left (fun q => by (first | decide +kernel | omega))
                  refine V_iconst 0 d_Reader_readLine_130 (by decide) ?_
                  exact V_zret rfl (by decide) d_Reader_readLine_131 ⟨0, rfl, ⟨hI215, f216, o219, o219Z, o219E, o219K, o221, o221Z, o221E, o221K, o222, o222Z, o222E, o222K, (if q9 : x_cN b uZ 0 15 = 0 then Or.inr ⟨tc_0, ((x_line_2 (u := uZ) (by (first | decide +kernel | omega)) hH hL).trans (by unfold x_l2; rw [x_sq_n (c := x_cN b uZ 0 15) (by (first | decide +kernel | omega)), x_sq_y (c := x_c4 (T 2 (x_vl b uZ))) (by (first | decide +kernel | omega))])).trans (pq (by (first | decide +kernel | omega)) (by (first | decide +kernel | omega))), by (first | decide +kernel | omega)⟩ else Or.inr ⟨tc_0, ((x_line_2 (u := uZ) (by (first | decide +kernel | omega)) hH hL).trans (by unfold x_l2; rw [x_sq_y (c := x_cN b uZ 0 15) (by (first | decide +kernel | omega))])).trans (pq (by (first | decide +kernel | omega)) (by (first | decide +kernel | omega))), by (first | decide +kernel | omega)⟩)⟩⟩
            ·
              exact absurd c208 (by decide)
          ·
            exact absurd c207 (by decide)
        ·
          exact absurd c206 (by (first | decide +kernel | omega))
      ·
        obtain rfl : z13 = 3 := (ti_eq z13E tc_3).mpr c18
        subst c18
        have hL : x_li b p0 = 3 := by (first | decide +kernel | omega)
        refine V_iload_n 1 d_Reader_readLine_32 rfl rfl ?_
        refine N_callSI [.int 3] [] cs_Reader_91 d_Reader_readLine_33 rfl (Nat.le_of_ble_eq_true rfl) (by decide) (by decide) (c_Reader_isOnceOnlyX_3 h5) (fun z265 h266 z265Z z265E p267 => ?_)
        obtain ⟨eh266, p267⟩ := p267
        subst eh266
        refine V_if_eq 61 z265E d_Reader_readLine_36 (by decide) (fun c268 => ?_) (fun c268 => ?_)
        ·
          refine V_iload_n 1 d_Reader_readLine_61 rfl rfl ?_
          refine V_bipush 9 d_Reader_readLine_62 (by decide) ?_
          refine V_icmp_ne 95 tc_3 tc_9 d_Reader_readLine_64 (by decide) (fun c269 => ?_) (fun c269 => ?_)
          ·
            have hH : x_cH b T (D 86) p0 = 0 := cH_0 (by (first | decide +kernel | omega)) (by (first | decide +kernel | omega)) (by rw [hL]; omega) (by (first | decide +kernel | omega))
            refine V_iload_n 1 d_Reader_readLine_95 rfl rfl ?_
            refine V_bipush 8 d_Reader_readLine_96 (by decide) ?_
            refine V_icmp_ne 110 tc_3 tc_8 d_Reader_readLine_98 (by decide) (fun c270 => ?_) (fun c270 => ?_)
            ·
              refine V_iconst 0 d_Reader_readLine_110 (by decide) ?_
              refine V_istore_n 2 [some (.ref 88), some (.int 3), some (.int 0)] d_Reader_readLine_111 rfl (by decide) rfl rfl ?_
              refine V_iload_n 2 d_Reader_readLine_112 rfl rfl ?_
              refine V_gets (v := .ref 132) zN ws_Reader_106 d_Reader_readLine_113 ?_
              refine V_iload_n 1 d_Reader_readLine_116 rfl rfl ?_
              refine V_tald roN tc_3 (by decide) d_Reader_readLine_117 (fun z271 z271Z z271E z271e => ?_)
              obtain rfl : z271 = 2 := z271e.trans rfl
              refine V_icmp_ge 138 tc_0 tc_2 d_Reader_readLine_118 (by decide) (fun c272 => ?_) (fun c272 => ?_)
              ·
                exact absurd c272 (by decide)
              ·
                refine V_aload_n 0 d_Reader_readLine_121 rfl rfl ?_
                refine V_iload_n 1 d_Reader_readLine_122 rfl rfl ?_
                refine V_iload_n 2 d_Reader_readLine_123 rfl rfl ?_
                obtain ⟨z273, z273Z, z273E, z273e⟩ : ∃ (y : Int32) (Y : Int), y.toInt = Y ∧ y = h5.1 92 3 := ⟨_, _, rfl, rfl⟩
                refine N_callVI [.int 3, .int 0] [] cv_Reader_109 sk_88 rfl d_Reader_readLine_124 rfl (Nat.le_of_ble_eq_true rfl) (by decide) (by decide) (c_Reader_readNumberX_3_0 h5 b T hI7 s sZ sE (kn_call fh5 sK rfl) u uZ uE (kn_call fh5 uK rfl) o10 o10Z o10E o10K o9 o9Z o9E o9K z273 z273Z z273E z273e.symm (TP_fr f8 (fun _ => rfl) hy0) (by (first | decide +kernel | omega)) (TB_kn z273e.symm (R11.1.1 3 (by decide) (by decide)))) (fun z274 h275 z274Z z274E p276 => ?_)
                obtain ⟨hI277, fh275, o279, o279Z, o279E, o279K, o280, o280Z, o280E, o280K, o281, o281Z, o281E, o281K, o282, o282Z, o282E, o282K, o283, o283Z, o283E, o283K, o284, o284Z, o284E, o284K, o285, o285Z, o285E, o285K, p276⟩ := p276
                have f278 : fr S_Reader_readLineX h h275 := fr_call f8 fh275 rfl
                have R286 : RC h275 T D := RC_fr fh275 rfl R11
                have g287 : 0 ≤ o280Z ∧ o280Z ≤ 160 := inv_at hI277 o280E o280K.symm rfl
                have g288 : 0 ≤ o281Z ∧ o281Z ≤ 160 := inv_at hI277 o281E o281K.symm rfl
                refine V_if_ne 132 z274E d_Reader_readLine_127 (by decide) (fun c289 => ?_) (fun c289 => ?_)
                ·
                  replace p276 := p276.resolve_right (fun q => by (first | decide +kernel | omega))
                  obtain rfl : o281Z = x_en b uZ := by (first | decide +kernel | omega)
                  obtain rfl : o285Z = x_vl b uZ := by (first | decide +kernel | omega)
                  refine V_iinc (v := 1) 2 [some (.ref 88), some (.int 3), some (.int 1)] d_Reader_readLine_132 rfl (by decide) (by decide) rfl rfl ?_
                  refine V_goto 112 d_Reader_readLine_135 (by decide) ?_
                  refine V_iload_n 2 d_Reader_readLine_112 rfl rfl ?_
                  refine V_gets (v := .ref 132) zN ws_Reader_106 d_Reader_readLine_113 ?_
                  refine V_iload_n 1 d_Reader_readLine_116 rfl rfl ?_
                  refine V_tald roN tc_3 (by decide) d_Reader_readLine_117 (fun z291 z291Z z291E z291e => ?_)
                  obtain rfl : z291 = 2 := z291e.trans rfl
                  refine V_icmp_ge 138 tc_1 tc_2 d_Reader_readLine_118 (by decide) (fun c292 => ?_) (fun c292 => ?_)
                  ·
                    exact absurd c292 (by decide)
                  ·
                    refine V_aload_n 0 d_Reader_readLine_121 rfl rfl ?_
                    refine V_iload_n 1 d_Reader_readLine_122 rfl rfl ?_
                    refine V_iload_n 2 d_Reader_readLine_123 rfl rfl ?_
                    refine N_callVI [.int 3, .int 1] [] cv_Reader_109 sk_88 rfl d_Reader_readLine_124 rfl (Nat.le_of_ble_eq_true rfl) (by decide) (by decide) (c_Reader_readNumberX_3_1 h275 b T hI277 s sZ sE (kn_call fh275 (kn_call fh5 sK rfl) rfl) o281 ((x_en b uZ)) o281E o281K o284 o284Z o284E o284K o283 o283Z o283E o283K (TP_fr f278 (fun _ => rfl) hy0) (by (first | decide +kernel | omega))) (fun z293 h294 z293Z z293E p295 => ?_)
                    obtain ⟨hI296, fh294, o298, o298Z, o298E, o298K, o299, o299Z, o299E, o299K, o300, o300Z, o300E, o300K, o301, o301Z, o301E, o301K, o302, o302Z, o302E, o302K, o303, o303Z, o303E, o303K, o304, o304Z, o304E, o304K, p295⟩ := p295
                    have f297 : fr S_Reader_readLineX h h294 := fr_call f278 fh294 rfl
                    have R305 : RC h294 T D := RC_fr fh294 rfl R286
                    have g306 : 0 ≤ o299Z ∧ o299Z ≤ 160 := inv_at hI296 o299E o299K.symm rfl
                    have g307 : 0 ≤ o300Z ∧ o300Z ≤ 160 := inv_at hI296 o300E o300K.symm rfl
                    refine V_if_ne 132 z293E d_Reader_readLine_127 (by decide) (fun c308 => ?_) (fun c308 => ?_)
                    ·
                      replace p295 := p295.resolve_right (fun q => by (first | decide +kernel | omega))
                      obtain rfl : o300Z = x_en b ((x_en b uZ)) := by (first | decide +kernel | omega)
                      obtain rfl : o304Z = x_vl b ((x_en b uZ)) := by (first | decide +kernel | omega)
                      refine V_iinc (v := 2) 2 [some (.ref 88), some (.int 3), some (.int 2)] d_Reader_readLine_132 rfl (by decide) (by decide) rfl rfl ?_
                      refine V_goto 112 d_Reader_readLine_135 (by decide) ?_
                      refine V_iload_n 2 d_Reader_readLine_112 rfl rfl ?_
                      refine V_gets (v := .ref 132) zN ws_Reader_106 d_Reader_readLine_113 ?_
                      refine V_iload_n 1 d_Reader_readLine_116 rfl rfl ?_
                      refine V_tald roN tc_3 (by decide) d_Reader_readLine_117 (fun z310 z310Z z310E z310e => ?_)
                      obtain rfl : z310 = 2 := z310e.trans rfl
                      refine V_icmp_ge 138 tc_2 tc_2 d_Reader_readLine_118 (by decide) (fun c311 => ?_) (fun c311 => ?_)
                      ·
                        refine V_aload_n 0 d_Reader_readLine_138 rfl rfl ?_
                        refine V_getR fa_Reader_12 sk_88 rfl d_Reader_readLine_139 ?_
                        refine N_callVV [] [] cv_Reader_48 sk_89 rfl d_Reader_readLine_142 rfl (Nat.le_of_ble_eq_true rfl) (by decide) (by decide) (c_Tape_advanceX h294 b hI296 s sZ sE (kn_call fh294 (kn_call fh275 (kn_call fh5 sK rfl) rfl) rfl) o300 ((x_en b ((x_en b uZ)))) o300E o300K (TP_fr f297 (fun _ => rfl) hy0) (by (first | decide +kernel | omega))) (fun h313 p314 => ?_)
                        obtain ⟨hI315, fh313, o317, o317Z, o317E, o317K, o318, o318Z, o318E, o318K, o319, o319Z, o319E, o319K, o320, o320Z, o320E, o320K, p314⟩ := p314
                        have f316 : fr S_Reader_readLineX h h313 := fr_call f297 fh313 rfl
                        have R321 : RC h313 T D := RC_fr fh313 rfl R305
                        have g322 : 0 ≤ o318Z ∧ o318Z ≤ 160 := inv_at hI315 o318E o318K.symm rfl
                        have g323 : 0 ≤ o319Z ∧ o319Z ≤ 160 := inv_at hI315 o319E o319K.symm rfl
                        refine V_aload_n 0 d_Reader_readLine_145 rfl rfl ?_
                        refine V_iconst 3 d_Reader_readLine_146 (by decide) ?_
                        refine N_callVI [.int 3] [] cv_Reader_84 sk_88 rfl d_Reader_readLine_147 rfl (Nat.le_of_ble_eq_true rfl) (by decide) (by decide) (c_Reader_isKindX h313 hI315 3 3 tc_3 o317 o317Z o317E o317K o318 o318Z o318E o318K o303 o303Z o303E (kn_call fh313 o303K rfl) o302 o302Z o302E (kn_call fh313 o302K rfl)) (fun z324 h325 z324Z z324E p326 => ?_)
                        obtain ⟨hI327, fh325, o329, o329Z, o329E, o329K, o330, o330Z, o330E, o330K, p326⟩ := p326
                        have f328 : fr S_Reader_readLineX h h325 := fr_call f316 fh325 rfl
                        have R331 : RC h325 T D := RC_fr fh325 rfl R321
                        refine V_if_ne 155 z324E d_Reader_readLine_150 (by decide) (fun c332 => ?_) (fun c332 => ?_)
                        ·
                          replace p326 := kd_y p326 (by (first | decide +kernel | omega))
                          replace p314 := adv_m 3 p314 (by (first | decide +kernel | omega)) (by decide)
                          have hS : x_cS b (x_en b ((x_en b uZ))) = 0 := cS_of p314.2.2.1
                          have g333 := cN_0 (show x_cN b uZ 0 15 = 0 by (first | decide +kernel | omega))
                          have g336 := cN_0 (show x_cN b (x_en b uZ) 0 10 = 0 by (first | decide +kernel | omega))
                          refine V_aload_n 0 d_Reader_readLine_155 rfl rfl ?_
                          refine V_iload_n 1 d_Reader_readLine_156 rfl rfl ?_
                          obtain ⟨z345, z345Z, z345E, z345e⟩ : ∃ (y : Int32) (Y : Int), y.toInt = Y ∧ y = h325.1 75 4 := ⟨_, _, rfl, rfl⟩
                          have g346 : 0 ≤ z345Z ∧ z345Z ≤ 8 := inv_at hI327 z345E z345e rfl
                          refine N_callVV [.int 3] [] cv_Reader_112 sk_88 rfl d_Reader_readLine_157 rfl (Nat.le_of_ble_eq_true rfl) (by decide) (by decide) (c_Reader_tellLineX_3 h325 T D hI327 o285 ((x_vl b uZ)) o285E (kn_call fh325 (kn_call fh313 (kn_call fh294 o285K rfl) rfl) rfl) o304 ((x_vl b ((x_en b uZ)))) o304E (kn_call fh325 (kn_call fh313 o304K rfl) rfl) z273 z273Z z273E (kn_call fh325 (kn_call fh313 (kn_call fh294 (kn_call fh275 z273e.symm rfl) rfl) rfl) rfl) z345 z345Z z345E z345e.symm R331 (by (first | decide +kernel | omega)) (by (first | decide +kernel | omega))) (fun h348 p349 => ?_)
                          obtain ⟨hI350, fh348, p349⟩ := p349
                          have f351 : fr S_Reader_readLineX h h348 := fr_call f328 fh348 rfl
                          have qR := p349
                          refine V_iconst 1 d_Reader_readLine_160 (by decide) ?_
                          exact V_zret rfl (by decide) d_Reader_readLine_161 ⟨1, rfl, ⟨hI350, f351, o319, o319Z, o319E, (kn_call fh348 (kn_call fh325 o319K rfl) rfl), o329, o329Z, o329E, (kn_call fh348 o329K rfl), o330, o330Z, o330E, (kn_call fh348 o330K rfl), (Or.inl ⟨rfl, ((x_line_3 (u := uZ) (by (first | decide +kernel | omega)) hH hL).trans (by unfold x_l3; rw [x_sq_n (c := x_cN b uZ 0 15) (by (first | decide +kernel | omega)), x_sq_n (c := x_c4 (T 3 (x_vl b uZ))) (by (first | decide +kernel | omega)), x_sq_n (c := x_cN b (x_en b uZ) 0 10) (by (first | decide +kernel | omega)), x_sq_n (c := x_cS b (x_en b (x_en b uZ))) (by (first | decide +kernel | omega))])).trans (pq rfl (by (first | decide +kernel | omega))), by (first | decide +kernel | omega), by (first | decide +kernel | omega), by (first | decide +kernel | omega), by rw [x_T_3 T (u := uZ) (by (first | decide +kernel | omega)) hL, x_D_3 D (u := uZ) (by (first | decide +kernel | omega)) hL]; exact qR⟩)⟩⟩
                        ·
                          replace p326 := kd_n p326 (by (first | decide +kernel | omega))
                          replace p314 := adv_0 p314
                          refine V_iconst 0 d_Reader_readLine_153 (by decide) ?_
                          exact V_zret rfl (by decide) d_Reader_readLine_154 ⟨0, rfl, ⟨hI327, f328, o319, o319Z, o319E, (kn_call fh325 o319K rfl), o329, o329Z, o329E, o329K, o330, o330Z, o330E, o330K, (by have q := x_cS_s b (x_en b (x_en b uZ)); exact Or.inr ⟨tc_0, ((x_line_3 (u := uZ) (by (first | decide +kernel | omega)) hH hL).trans (by unfold x_l3; rw [x_sq_n (c := x_cN b uZ 0 15) (by (first | decide +kernel | omega)), x_sq_n (c := x_c4 (T 3 (x_vl b uZ))) (by (first | decide +kernel | omega)), x_sq_n (c := x_cN b (x_en b uZ) 0 10) (by (first | decide +kernel | omega)), x_sq_y (c := x_cS b (x_en b (x_en b uZ))) (by (first | decide +kernel | omega))])).trans (pq (by (first | decide +kernel | omega)) (by (first | decide +kernel | omega))), by (first | decide +kernel | omega)⟩)⟩⟩
                      ·
                        exact absurd c311 (by decide)
                    ·
                      replace p295 := p295.resolve_left (fun q => by (first | decide +kernel | omega))
                      refine V_iconst 0 d_Reader_readLine_130 (by decide) ?_
                      exact V_zret rfl (by decide) d_Reader_readLine_131 ⟨0, rfl, ⟨hI296, f297, o300, o300Z, o300E, o300K, o302, o302Z, o302E, o302K, o303, o303Z, o303E, o303K, (by exact Or.inr ⟨tc_0, ((x_line_3 (u := uZ) (by (first | decide +kernel | omega)) hH hL).trans (by unfold x_l3; rw [x_sq_n (c := x_cN b uZ 0 15) (by (first | decide +kernel | omega)), x_sq_n (c := x_c4 (T 3 (x_vl b uZ))) (by (first | decide +kernel | omega)), x_sq_y (c := x_cN b (x_en b uZ) 0 10) (by (first | decide +kernel | omega))])).trans (pq (by (first | decide +kernel | omega)) (by (first | decide +kernel | omega))), by (first | decide +kernel | omega)⟩)⟩⟩
                ·
                  replace p276 := p276.resolve_left (fun q => by (first | decide +kernel | omega))
                  refine V_iconst 0 d_Reader_readLine_130 (by decide) ?_
                  exact V_zret rfl (by decide) d_Reader_readLine_131 ⟨0, rfl, ⟨hI277, f278, o281, o281Z, o281E, o281K, o283, o283Z, o283E, o283K, o284, o284Z, o284E, o284K, (if q9 : x_cN b uZ 0 15 = 0 then Or.inr ⟨tc_0, ((x_line_3 (u := uZ) (by (first | decide +kernel | omega)) hH hL).trans (by unfold x_l3; rw [x_sq_n (c := x_cN b uZ 0 15) (by (first | decide +kernel | omega)), x_sq_y (c := x_c4 (T 3 (x_vl b uZ))) (by (first | decide +kernel | omega))])).trans (pq (by (first | decide +kernel | omega)) (by (first | decide +kernel | omega))), by (first | decide +kernel | omega)⟩ else Or.inr ⟨tc_0, ((x_line_3 (u := uZ) (by (first | decide +kernel | omega)) hH hL).trans (by unfold x_l3; rw [x_sq_y (c := x_cN b uZ 0 15) (by (first | decide +kernel | omega))])).trans (pq (by (first | decide +kernel | omega)) (by (first | decide +kernel | omega))), by (first | decide +kernel | omega)⟩)⟩⟩
            ·
              exact absurd c270 (by decide)
          ·
            exact absurd c269 (by decide)
        ·
          exact absurd c268 (by (first | decide +kernel | omega))
      ·
        obtain rfl : z13 = 4 := (ti_eq z13E tc_4).mpr c18
        subst c18
        have hL : x_li b p0 = 4 := by (first | decide +kernel | omega)
        refine V_iload_n 1 d_Reader_readLine_32 rfl rfl ?_
        refine N_callSI [.int 4] [] cs_Reader_91 d_Reader_readLine_33 rfl (Nat.le_of_ble_eq_true rfl) (by decide) (by decide) (c_Reader_isOnceOnlyX_4 h5) (fun z352 h353 z352Z z352E p354 => ?_)
        obtain ⟨eh353, p354⟩ := p354
        subst eh353
        refine V_if_eq 61 z352E d_Reader_readLine_36 (by decide) (fun c355 => ?_) (fun c355 => ?_)
        ·
          refine V_iload_n 1 d_Reader_readLine_61 rfl rfl ?_
          refine V_bipush 9 d_Reader_readLine_62 (by decide) ?_
          refine V_icmp_ne 95 tc_4 tc_9 d_Reader_readLine_64 (by decide) (fun c356 => ?_) (fun c356 => ?_)
          ·
            have hH : x_cH b T (D 86) p0 = 0 := cH_0 (by (first | decide +kernel | omega)) (by (first | decide +kernel | omega)) (by rw [hL]; omega) (by (first | decide +kernel | omega))
            refine V_iload_n 1 d_Reader_readLine_95 rfl rfl ?_
            refine V_bipush 8 d_Reader_readLine_96 (by decide) ?_
            refine V_icmp_ne 110 tc_4 tc_8 d_Reader_readLine_98 (by decide) (fun c357 => ?_) (fun c357 => ?_)
            ·
              refine V_iconst 0 d_Reader_readLine_110 (by decide) ?_
              refine V_istore_n 2 [some (.ref 88), some (.int 4), some (.int 0)] d_Reader_readLine_111 rfl (by decide) rfl rfl ?_
              refine V_iload_n 2 d_Reader_readLine_112 rfl rfl ?_
              refine V_gets (v := .ref 132) zN ws_Reader_106 d_Reader_readLine_113 ?_
              refine V_iload_n 1 d_Reader_readLine_116 rfl rfl ?_
              refine V_tald roN tc_4 (by decide) d_Reader_readLine_117 (fun z358 z358Z z358E z358e => ?_)
              obtain rfl : z358 = 2 := z358e.trans rfl
              refine V_icmp_ge 138 tc_0 tc_2 d_Reader_readLine_118 (by decide) (fun c359 => ?_) (fun c359 => ?_)
              ·
                exact absurd c359 (by decide)
              ·
                refine V_aload_n 0 d_Reader_readLine_121 rfl rfl ?_
                refine V_iload_n 1 d_Reader_readLine_122 rfl rfl ?_
                refine V_iload_n 2 d_Reader_readLine_123 rfl rfl ?_
                obtain ⟨z360, z360Z, z360E, z360e⟩ : ∃ (y : Int32) (Y : Int), y.toInt = Y ∧ y = h5.1 92 4 := ⟨_, _, rfl, rfl⟩
                refine N_callVI [.int 4, .int 0] [] cv_Reader_109 sk_88 rfl d_Reader_readLine_124 rfl (Nat.le_of_ble_eq_true rfl) (by decide) (by decide) (c_Reader_readNumberX_4_0 h5 b T hI7 s sZ sE (kn_call fh5 sK rfl) u uZ uE (kn_call fh5 uK rfl) o10 o10Z o10E o10K o9 o9Z o9E o9K z360 z360Z z360E z360e.symm (TP_fr f8 (fun _ => rfl) hy0) (by (first | decide +kernel | omega)) (TB_kn z360e.symm (R11.1.1 4 (by decide) (by decide)))) (fun z361 h362 z361Z z361E p363 => ?_)
                obtain ⟨hI364, fh362, o366, o366Z, o366E, o366K, o367, o367Z, o367E, o367K, o368, o368Z, o368E, o368K, o369, o369Z, o369E, o369K, o370, o370Z, o370E, o370K, o371, o371Z, o371E, o371K, o372, o372Z, o372E, o372K, p363⟩ := p363
                have f365 : fr S_Reader_readLineX h h362 := fr_call f8 fh362 rfl
                have R373 : RC h362 T D := RC_fr fh362 rfl R11
                have g374 : 0 ≤ o367Z ∧ o367Z ≤ 160 := inv_at hI364 o367E o367K.symm rfl
                have g375 : 0 ≤ o368Z ∧ o368Z ≤ 160 := inv_at hI364 o368E o368K.symm rfl
                refine V_if_ne 132 z361E d_Reader_readLine_127 (by decide) (fun c376 => ?_) (fun c376 => ?_)
                ·
                  replace p363 := p363.resolve_right (fun q => by (first | decide +kernel | omega))
                  obtain rfl : o368Z = x_en b uZ := by (first | decide +kernel | omega)
                  obtain rfl : o372Z = x_vl b uZ := by (first | decide +kernel | omega)
                  refine V_iinc (v := 1) 2 [some (.ref 88), some (.int 4), some (.int 1)] d_Reader_readLine_132 rfl (by decide) (by decide) rfl rfl ?_
                  refine V_goto 112 d_Reader_readLine_135 (by decide) ?_
                  refine V_iload_n 2 d_Reader_readLine_112 rfl rfl ?_
                  refine V_gets (v := .ref 132) zN ws_Reader_106 d_Reader_readLine_113 ?_
                  refine V_iload_n 1 d_Reader_readLine_116 rfl rfl ?_
                  refine V_tald roN tc_4 (by decide) d_Reader_readLine_117 (fun z378 z378Z z378E z378e => ?_)
                  obtain rfl : z378 = 2 := z378e.trans rfl
                  refine V_icmp_ge 138 tc_1 tc_2 d_Reader_readLine_118 (by decide) (fun c379 => ?_) (fun c379 => ?_)
                  ·
                    exact absurd c379 (by decide)
                  ·
                    refine V_aload_n 0 d_Reader_readLine_121 rfl rfl ?_
                    refine V_iload_n 1 d_Reader_readLine_122 rfl rfl ?_
                    refine V_iload_n 2 d_Reader_readLine_123 rfl rfl ?_
                    refine N_callVI [.int 4, .int 1] [] cv_Reader_109 sk_88 rfl d_Reader_readLine_124 rfl (Nat.le_of_ble_eq_true rfl) (by decide) (by decide) (c_Reader_readNumberX_4_1 h362 b T hI364 s sZ sE (kn_call fh362 (kn_call fh5 sK rfl) rfl) o368 ((x_en b uZ)) o368E o368K o371 o371Z o371E o371K o370 o370Z o370E o370K (TP_fr f365 (fun _ => rfl) hy0) (by (first | decide +kernel | omega))) (fun z380 h381 z380Z z380E p382 => ?_)
                    obtain ⟨hI383, fh381, o385, o385Z, o385E, o385K, o386, o386Z, o386E, o386K, o387, o387Z, o387E, o387K, o388, o388Z, o388E, o388K, o389, o389Z, o389E, o389K, o390, o390Z, o390E, o390K, o391, o391Z, o391E, o391K, p382⟩ := p382
                    have f384 : fr S_Reader_readLineX h h381 := fr_call f365 fh381 rfl
                    have R392 : RC h381 T D := RC_fr fh381 rfl R373
                    have g393 : 0 ≤ o386Z ∧ o386Z ≤ 160 := inv_at hI383 o386E o386K.symm rfl
                    have g394 : 0 ≤ o387Z ∧ o387Z ≤ 160 := inv_at hI383 o387E o387K.symm rfl
                    refine V_if_ne 132 z380E d_Reader_readLine_127 (by decide) (fun c395 => ?_) (fun c395 => ?_)
                    ·
                      replace p382 := p382.resolve_right (fun q => by (first | decide +kernel | omega))
                      obtain rfl : o387Z = x_en b ((x_en b uZ)) := by (first | decide +kernel | omega)
                      obtain rfl : o391Z = x_vl b ((x_en b uZ)) := by (first | decide +kernel | omega)
                      refine V_iinc (v := 2) 2 [some (.ref 88), some (.int 4), some (.int 2)] d_Reader_readLine_132 rfl (by decide) (by decide) rfl rfl ?_
                      refine V_goto 112 d_Reader_readLine_135 (by decide) ?_
                      refine V_iload_n 2 d_Reader_readLine_112 rfl rfl ?_
                      refine V_gets (v := .ref 132) zN ws_Reader_106 d_Reader_readLine_113 ?_
                      refine V_iload_n 1 d_Reader_readLine_116 rfl rfl ?_
                      refine V_tald roN tc_4 (by decide) d_Reader_readLine_117 (fun z397 z397Z z397E z397e => ?_)
                      obtain rfl : z397 = 2 := z397e.trans rfl
                      refine V_icmp_ge 138 tc_2 tc_2 d_Reader_readLine_118 (by decide) (fun c398 => ?_) (fun c398 => ?_)
                      ·
                        refine V_aload_n 0 d_Reader_readLine_138 rfl rfl ?_
                        refine V_getR fa_Reader_12 sk_88 rfl d_Reader_readLine_139 ?_
                        refine N_callVV [] [] cv_Reader_48 sk_89 rfl d_Reader_readLine_142 rfl (Nat.le_of_ble_eq_true rfl) (by decide) (by decide) (c_Tape_advanceX h381 b hI383 s sZ sE (kn_call fh381 (kn_call fh362 (kn_call fh5 sK rfl) rfl) rfl) o387 ((x_en b ((x_en b uZ)))) o387E o387K (TP_fr f384 (fun _ => rfl) hy0) (by (first | decide +kernel | omega))) (fun h400 p401 => ?_)
                        obtain ⟨hI402, fh400, o404, o404Z, o404E, o404K, o405, o405Z, o405E, o405K, o406, o406Z, o406E, o406K, o407, o407Z, o407E, o407K, p401⟩ := p401
                        have f403 : fr S_Reader_readLineX h h400 := fr_call f384 fh400 rfl
                        have R408 : RC h400 T D := RC_fr fh400 rfl R392
                        have g409 : 0 ≤ o405Z ∧ o405Z ≤ 160 := inv_at hI402 o405E o405K.symm rfl
                        have g410 : 0 ≤ o406Z ∧ o406Z ≤ 160 := inv_at hI402 o406E o406K.symm rfl
                        refine V_aload_n 0 d_Reader_readLine_145 rfl rfl ?_
                        refine V_iconst 3 d_Reader_readLine_146 (by decide) ?_
                        refine N_callVI [.int 3] [] cv_Reader_84 sk_88 rfl d_Reader_readLine_147 rfl (Nat.le_of_ble_eq_true rfl) (by decide) (by decide) (c_Reader_isKindX h400 hI402 3 3 tc_3 o404 o404Z o404E o404K o405 o405Z o405E o405K o390 o390Z o390E (kn_call fh400 o390K rfl) o389 o389Z o389E (kn_call fh400 o389K rfl)) (fun z411 h412 z411Z z411E p413 => ?_)
                        obtain ⟨hI414, fh412, o416, o416Z, o416E, o416K, o417, o417Z, o417E, o417K, p413⟩ := p413
                        have f415 : fr S_Reader_readLineX h h412 := fr_call f403 fh412 rfl
                        have R418 : RC h412 T D := RC_fr fh412 rfl R408
                        refine V_if_ne 155 z411E d_Reader_readLine_150 (by decide) (fun c419 => ?_) (fun c419 => ?_)
                        ·
                          replace p413 := kd_y p413 (by (first | decide +kernel | omega))
                          replace p401 := adv_m 3 p401 (by (first | decide +kernel | omega)) (by decide)
                          have hS : x_cS b (x_en b ((x_en b uZ))) = 0 := cS_of p401.2.2.1
                          have g420 := cN_0 (show x_cN b uZ 0 15 = 0 by (first | decide +kernel | omega))
                          have g423 := cN_0 (show x_cN b (x_en b uZ) 0 3 = 0 by (first | decide +kernel | omega))
                          refine V_aload_n 0 d_Reader_readLine_155 rfl rfl ?_
                          refine V_iload_n 1 d_Reader_readLine_156 rfl rfl ?_
                          obtain ⟨z432, z432Z, z432E, z432e⟩ : ∃ (y : Int32) (Y : Int), y.toInt = Y ∧ y = h412.1 75 4 := ⟨_, _, rfl, rfl⟩
                          have g433 : 0 ≤ z432Z ∧ z432Z ≤ 8 := inv_at hI414 z432E z432e rfl
                          refine N_callVV [.int 4] [] cv_Reader_112 sk_88 rfl d_Reader_readLine_157 rfl (Nat.le_of_ble_eq_true rfl) (by decide) (by decide) (c_Reader_tellLineX_4 h412 T D hI414 o372 ((x_vl b uZ)) o372E (kn_call fh412 (kn_call fh400 (kn_call fh381 o372K rfl) rfl) rfl) o391 ((x_vl b ((x_en b uZ)))) o391E (kn_call fh412 (kn_call fh400 o391K rfl) rfl) z360 z360Z z360E (kn_call fh412 (kn_call fh400 (kn_call fh381 (kn_call fh362 z360e.symm rfl) rfl) rfl) rfl) z432 z432Z z432E z432e.symm R418 (by (first | decide +kernel | omega)) (by (first | decide +kernel | omega))) (fun h435 p436 => ?_)
                          obtain ⟨hI437, fh435, p436⟩ := p436
                          have f438 : fr S_Reader_readLineX h h435 := fr_call f415 fh435 rfl
                          have qR := p436
                          refine V_iconst 1 d_Reader_readLine_160 (by decide) ?_
                          exact V_zret rfl (by decide) d_Reader_readLine_161 ⟨1, rfl, ⟨hI437, f438, o406, o406Z, o406E, (kn_call fh435 (kn_call fh412 o406K rfl) rfl), o416, o416Z, o416E, (kn_call fh435 o416K rfl), o417, o417Z, o417E, (kn_call fh435 o417K rfl), (Or.inl ⟨rfl, ((x_line_4 (u := uZ) (by (first | decide +kernel | omega)) hH hL).trans (by unfold x_l4; rw [x_sq_n (c := x_cN b uZ 0 15) (by (first | decide +kernel | omega)), x_sq_n (c := x_c4 (T 4 (x_vl b uZ))) (by (first | decide +kernel | omega)), x_sq_n (c := x_cN b (x_en b uZ) 0 3) (by (first | decide +kernel | omega)), x_sq_n (c := x_cS b (x_en b (x_en b uZ))) (by (first | decide +kernel | omega))])).trans (pq rfl (by (first | decide +kernel | omega))), by (first | decide +kernel | omega), by (first | decide +kernel | omega), by (first | decide +kernel | omega), by rw [x_T_4 T (u := uZ) (by (first | decide +kernel | omega)) hL, x_D_4 D (u := uZ) (by (first | decide +kernel | omega)) hL]; exact qR⟩)⟩⟩
                        ·
                          replace p413 := kd_n p413 (by (first | decide +kernel | omega))
                          replace p401 := adv_0 p401
                          refine V_iconst 0 d_Reader_readLine_153 (by decide) ?_
                          exact V_zret rfl (by decide) d_Reader_readLine_154 ⟨0, rfl, ⟨hI414, f415, o406, o406Z, o406E, (kn_call fh412 o406K rfl), o416, o416Z, o416E, o416K, o417, o417Z, o417E, o417K, (by have q := x_cS_s b (x_en b (x_en b uZ)); exact Or.inr ⟨tc_0, ((x_line_4 (u := uZ) (by (first | decide +kernel | omega)) hH hL).trans (by unfold x_l4; rw [x_sq_n (c := x_cN b uZ 0 15) (by (first | decide +kernel | omega)), x_sq_n (c := x_c4 (T 4 (x_vl b uZ))) (by (first | decide +kernel | omega)), x_sq_n (c := x_cN b (x_en b uZ) 0 3) (by (first | decide +kernel | omega)), x_sq_y (c := x_cS b (x_en b (x_en b uZ))) (by (first | decide +kernel | omega))])).trans (pq (by (first | decide +kernel | omega)) (by (first | decide +kernel | omega))), by (first | decide +kernel | omega)⟩)⟩⟩
                      ·
                        exact absurd c398 (by decide)
                    ·
                      replace p382 := p382.resolve_left (fun q => by (first | decide +kernel | omega))
                      refine V_iconst 0 d_Reader_readLine_130 (by decide) ?_
                      exact V_zret rfl (by decide) d_Reader_readLine_131 ⟨0, rfl, ⟨hI383, f384, o387, o387Z, o387E, o387K, o389, o389Z, o389E, o389K, o390, o390Z, o390E, o390K, (by exact Or.inr ⟨tc_0, ((x_line_4 (u := uZ) (by (first | decide +kernel | omega)) hH hL).trans (by unfold x_l4; rw [x_sq_n (c := x_cN b uZ 0 15) (by (first | decide +kernel | omega)), x_sq_n (c := x_c4 (T 4 (x_vl b uZ))) (by (first | decide +kernel | omega)), x_sq_y (c := x_cN b (x_en b uZ) 0 3) (by (first | decide +kernel | omega))])).trans (pq (by (first | decide +kernel | omega)) (by (first | decide +kernel | omega))), by (first | decide +kernel | omega)⟩)⟩⟩
                ·
                  replace p363 := p363.resolve_left (fun q => by (first | decide +kernel | omega))
                  refine V_iconst 0 d_Reader_readLine_130 (by decide) ?_
                  exact V_zret rfl (by decide) d_Reader_readLine_131 ⟨0, rfl, ⟨hI364, f365, o368, o368Z, o368E, o368K, o370, o370Z, o370E, o370K, o371, o371Z, o371E, o371K, (if q9 : x_cN b uZ 0 15 = 0 then Or.inr ⟨tc_0, ((x_line_4 (u := uZ) (by (first | decide +kernel | omega)) hH hL).trans (by unfold x_l4; rw [x_sq_n (c := x_cN b uZ 0 15) (by (first | decide +kernel | omega)), x_sq_y (c := x_c4 (T 4 (x_vl b uZ))) (by (first | decide +kernel | omega))])).trans (pq (by (first | decide +kernel | omega)) (by (first | decide +kernel | omega))), by (first | decide +kernel | omega)⟩ else Or.inr ⟨tc_0, ((x_line_4 (u := uZ) (by (first | decide +kernel | omega)) hH hL).trans (by unfold x_l4; rw [x_sq_y (c := x_cN b uZ 0 15) (by (first | decide +kernel | omega))])).trans (pq (by (first | decide +kernel | omega)) (by (first | decide +kernel | omega))), by (first | decide +kernel | omega)⟩)⟩⟩
            ·
              exact absurd c357 (by decide)
          ·
            exact absurd c356 (by decide)
        ·
          exact absurd c355 (by (first | decide +kernel | omega))
      ·
        obtain rfl : z13 = 5 := (ti_eq z13E tc_5).mpr c18
        subst c18
        have hL : x_li b p0 = 5 := by (first | decide +kernel | omega)
        refine V_iload_n 1 d_Reader_readLine_32 rfl rfl ?_
        refine N_callSI [.int 5] [] cs_Reader_91 d_Reader_readLine_33 rfl (Nat.le_of_ble_eq_true rfl) (by decide) (by decide) (c_Reader_isOnceOnlyX_5 h5) (fun z439 h440 z439Z z439E p441 => ?_)
        obtain ⟨eh440, p441⟩ := p441
        subst eh440
        refine V_if_eq 61 z439E d_Reader_readLine_36 (by decide) (fun c442 => ?_) (fun c442 => ?_)
        ·
          refine V_iload_n 1 d_Reader_readLine_61 rfl rfl ?_
          refine V_bipush 9 d_Reader_readLine_62 (by decide) ?_
          refine V_icmp_ne 95 tc_5 tc_9 d_Reader_readLine_64 (by decide) (fun c443 => ?_) (fun c443 => ?_)
          ·
            have hH : x_cH b T (D 86) p0 = 0 := cH_0 (by (first | decide +kernel | omega)) (by (first | decide +kernel | omega)) (by rw [hL]; omega) (by (first | decide +kernel | omega))
            refine V_iload_n 1 d_Reader_readLine_95 rfl rfl ?_
            refine V_bipush 8 d_Reader_readLine_96 (by decide) ?_
            refine V_icmp_ne 110 tc_5 tc_8 d_Reader_readLine_98 (by decide) (fun c444 => ?_) (fun c444 => ?_)
            ·
              refine V_iconst 0 d_Reader_readLine_110 (by decide) ?_
              refine V_istore_n 2 [some (.ref 88), some (.int 5), some (.int 0)] d_Reader_readLine_111 rfl (by decide) rfl rfl ?_
              refine V_iload_n 2 d_Reader_readLine_112 rfl rfl ?_
              refine V_gets (v := .ref 132) zN ws_Reader_106 d_Reader_readLine_113 ?_
              refine V_iload_n 1 d_Reader_readLine_116 rfl rfl ?_
              refine V_tald roN tc_5 (by decide) d_Reader_readLine_117 (fun z445 z445Z z445E z445e => ?_)
              obtain rfl : z445 = 2 := z445e.trans rfl
              refine V_icmp_ge 138 tc_0 tc_2 d_Reader_readLine_118 (by decide) (fun c446 => ?_) (fun c446 => ?_)
              ·
                exact absurd c446 (by decide)
              ·
                refine V_aload_n 0 d_Reader_readLine_121 rfl rfl ?_
                refine V_iload_n 1 d_Reader_readLine_122 rfl rfl ?_
                refine V_iload_n 2 d_Reader_readLine_123 rfl rfl ?_
                obtain ⟨z447, z447Z, z447E, z447e⟩ : ∃ (y : Int32) (Y : Int), y.toInt = Y ∧ y = h5.1 92 5 := ⟨_, _, rfl, rfl⟩
                refine N_callVI [.int 5, .int 0] [] cv_Reader_109 sk_88 rfl d_Reader_readLine_124 rfl (Nat.le_of_ble_eq_true rfl) (by decide) (by decide) (c_Reader_readNumberX_5_0 h5 b T hI7 s sZ sE (kn_call fh5 sK rfl) u uZ uE (kn_call fh5 uK rfl) o10 o10Z o10E o10K o9 o9Z o9E o9K z447 z447Z z447E z447e.symm (TP_fr f8 (fun _ => rfl) hy0) (by (first | decide +kernel | omega)) (TB_kn z447e.symm (R11.1.1 5 (by decide) (by decide)))) (fun z448 h449 z448Z z448E p450 => ?_)
                obtain ⟨hI451, fh449, o453, o453Z, o453E, o453K, o454, o454Z, o454E, o454K, o455, o455Z, o455E, o455K, o456, o456Z, o456E, o456K, o457, o457Z, o457E, o457K, o458, o458Z, o458E, o458K, o459, o459Z, o459E, o459K, p450⟩ := p450
                have f452 : fr S_Reader_readLineX h h449 := fr_call f8 fh449 rfl
                have R460 : RC h449 T D := RC_fr fh449 rfl R11
                have g461 : 0 ≤ o454Z ∧ o454Z ≤ 160 := inv_at hI451 o454E o454K.symm rfl
                have g462 : 0 ≤ o455Z ∧ o455Z ≤ 160 := inv_at hI451 o455E o455K.symm rfl
                refine V_if_ne 132 z448E d_Reader_readLine_127 (by decide) (fun c463 => ?_) (fun c463 => ?_)
                ·
                  replace p450 := p450.resolve_right (fun q => by (first | decide +kernel | omega))
                  obtain rfl : o455Z = x_en b uZ := by (first | decide +kernel | omega)
                  obtain rfl : o459Z = x_vl b uZ := by (first | decide +kernel | omega)
                  refine V_iinc (v := 1) 2 [some (.ref 88), some (.int 5), some (.int 1)] d_Reader_readLine_132 rfl (by decide) (by decide) rfl rfl ?_
                  refine V_goto 112 d_Reader_readLine_135 (by decide) ?_
                  refine V_iload_n 2 d_Reader_readLine_112 rfl rfl ?_
                  refine V_gets (v := .ref 132) zN ws_Reader_106 d_Reader_readLine_113 ?_
                  refine V_iload_n 1 d_Reader_readLine_116 rfl rfl ?_
                  refine V_tald roN tc_5 (by decide) d_Reader_readLine_117 (fun z465 z465Z z465E z465e => ?_)
                  obtain rfl : z465 = 2 := z465e.trans rfl
                  refine V_icmp_ge 138 tc_1 tc_2 d_Reader_readLine_118 (by decide) (fun c466 => ?_) (fun c466 => ?_)
                  ·
                    exact absurd c466 (by decide)
                  ·
                    refine V_aload_n 0 d_Reader_readLine_121 rfl rfl ?_
                    refine V_iload_n 1 d_Reader_readLine_122 rfl rfl ?_
                    refine V_iload_n 2 d_Reader_readLine_123 rfl rfl ?_
                    refine N_callVI [.int 5, .int 1] [] cv_Reader_109 sk_88 rfl d_Reader_readLine_124 rfl (Nat.le_of_ble_eq_true rfl) (by decide) (by decide) (c_Reader_readNumberX_5_1 h449 b T hI451 s sZ sE (kn_call fh449 (kn_call fh5 sK rfl) rfl) o455 ((x_en b uZ)) o455E o455K o458 o458Z o458E o458K o457 o457Z o457E o457K (TP_fr f452 (fun _ => rfl) hy0) (by (first | decide +kernel | omega))) (fun z467 h468 z467Z z467E p469 => ?_)
                    obtain ⟨hI470, fh468, o472, o472Z, o472E, o472K, o473, o473Z, o473E, o473K, o474, o474Z, o474E, o474K, o475, o475Z, o475E, o475K, o476, o476Z, o476E, o476K, o477, o477Z, o477E, o477K, o478, o478Z, o478E, o478K, p469⟩ := p469
                    have f471 : fr S_Reader_readLineX h h468 := fr_call f452 fh468 rfl
                    have R479 : RC h468 T D := RC_fr fh468 rfl R460
                    have g480 : 0 ≤ o473Z ∧ o473Z ≤ 160 := inv_at hI470 o473E o473K.symm rfl
                    have g481 : 0 ≤ o474Z ∧ o474Z ≤ 160 := inv_at hI470 o474E o474K.symm rfl
                    refine V_if_ne 132 z467E d_Reader_readLine_127 (by decide) (fun c482 => ?_) (fun c482 => ?_)
                    ·
                      replace p469 := p469.resolve_right (fun q => by (first | decide +kernel | omega))
                      obtain rfl : o474Z = x_en b ((x_en b uZ)) := by (first | decide +kernel | omega)
                      obtain rfl : o478Z = x_vl b ((x_en b uZ)) := by (first | decide +kernel | omega)
                      refine V_iinc (v := 2) 2 [some (.ref 88), some (.int 5), some (.int 2)] d_Reader_readLine_132 rfl (by decide) (by decide) rfl rfl ?_
                      refine V_goto 112 d_Reader_readLine_135 (by decide) ?_
                      refine V_iload_n 2 d_Reader_readLine_112 rfl rfl ?_
                      refine V_gets (v := .ref 132) zN ws_Reader_106 d_Reader_readLine_113 ?_
                      refine V_iload_n 1 d_Reader_readLine_116 rfl rfl ?_
                      refine V_tald roN tc_5 (by decide) d_Reader_readLine_117 (fun z484 z484Z z484E z484e => ?_)
                      obtain rfl : z484 = 2 := z484e.trans rfl
                      refine V_icmp_ge 138 tc_2 tc_2 d_Reader_readLine_118 (by decide) (fun c485 => ?_) (fun c485 => ?_)
                      ·
                        refine V_aload_n 0 d_Reader_readLine_138 rfl rfl ?_
                        refine V_getR fa_Reader_12 sk_88 rfl d_Reader_readLine_139 ?_
                        refine N_callVV [] [] cv_Reader_48 sk_89 rfl d_Reader_readLine_142 rfl (Nat.le_of_ble_eq_true rfl) (by decide) (by decide) (c_Tape_advanceX h468 b hI470 s sZ sE (kn_call fh468 (kn_call fh449 (kn_call fh5 sK rfl) rfl) rfl) o474 ((x_en b ((x_en b uZ)))) o474E o474K (TP_fr f471 (fun _ => rfl) hy0) (by (first | decide +kernel | omega))) (fun h487 p488 => ?_)
                        obtain ⟨hI489, fh487, o491, o491Z, o491E, o491K, o492, o492Z, o492E, o492K, o493, o493Z, o493E, o493K, o494, o494Z, o494E, o494K, p488⟩ := p488
                        have f490 : fr S_Reader_readLineX h h487 := fr_call f471 fh487 rfl
                        have R495 : RC h487 T D := RC_fr fh487 rfl R479
                        have g496 : 0 ≤ o492Z ∧ o492Z ≤ 160 := inv_at hI489 o492E o492K.symm rfl
                        have g497 : 0 ≤ o493Z ∧ o493Z ≤ 160 := inv_at hI489 o493E o493K.symm rfl
                        refine V_aload_n 0 d_Reader_readLine_145 rfl rfl ?_
                        refine V_iconst 3 d_Reader_readLine_146 (by decide) ?_
                        refine N_callVI [.int 3] [] cv_Reader_84 sk_88 rfl d_Reader_readLine_147 rfl (Nat.le_of_ble_eq_true rfl) (by decide) (by decide) (c_Reader_isKindX h487 hI489 3 3 tc_3 o491 o491Z o491E o491K o492 o492Z o492E o492K o477 o477Z o477E (kn_call fh487 o477K rfl) o476 o476Z o476E (kn_call fh487 o476K rfl)) (fun z498 h499 z498Z z498E p500 => ?_)
                        obtain ⟨hI501, fh499, o503, o503Z, o503E, o503K, o504, o504Z, o504E, o504K, p500⟩ := p500
                        have f502 : fr S_Reader_readLineX h h499 := fr_call f490 fh499 rfl
                        have R505 : RC h499 T D := RC_fr fh499 rfl R495
                        refine V_if_ne 155 z498E d_Reader_readLine_150 (by decide) (fun c506 => ?_) (fun c506 => ?_)
                        ·
                          replace p500 := kd_y p500 (by (first | decide +kernel | omega))
                          replace p488 := adv_m 3 p488 (by (first | decide +kernel | omega)) (by decide)
                          have hS : x_cS b (x_en b ((x_en b uZ))) = 0 := cS_of p488.2.2.1
                          have g507 := cN_0 (show x_cN b uZ 0 3 = 0 by (first | decide +kernel | omega))
                          have g510 := cN_0 (show x_cN b (x_en b uZ) 0 99 = 0 by (first | decide +kernel | omega))
                          refine V_aload_n 0 d_Reader_readLine_155 rfl rfl ?_
                          refine V_iload_n 1 d_Reader_readLine_156 rfl rfl ?_
                          obtain ⟨z519, z519Z, z519E, z519e⟩ : ∃ (y : Int32) (Y : Int), y.toInt = Y ∧ y = h499.1 75 4 := ⟨_, _, rfl, rfl⟩
                          have g520 : 0 ≤ z519Z ∧ z519Z ≤ 8 := inv_at hI501 z519E z519e rfl
                          refine N_callVV [.int 5] [] cv_Reader_112 sk_88 rfl d_Reader_readLine_157 rfl (Nat.le_of_ble_eq_true rfl) (by decide) (by decide) (c_Reader_tellLineX_5 h499 T D hI501 o459 ((x_vl b uZ)) o459E (kn_call fh499 (kn_call fh487 (kn_call fh468 o459K rfl) rfl) rfl) o478 ((x_vl b ((x_en b uZ)))) o478E (kn_call fh499 (kn_call fh487 o478K rfl) rfl) z447 z447Z z447E (kn_call fh499 (kn_call fh487 (kn_call fh468 (kn_call fh449 z447e.symm rfl) rfl) rfl) rfl) z519 z519Z z519E z519e.symm R505 (by (first | decide +kernel | omega)) (by (first | decide +kernel | omega))) (fun h522 p523 => ?_)
                          obtain ⟨hI524, fh522, p523⟩ := p523
                          have f525 : fr S_Reader_readLineX h h522 := fr_call f502 fh522 rfl
                          have qR := p523
                          refine V_iconst 1 d_Reader_readLine_160 (by decide) ?_
                          exact V_zret rfl (by decide) d_Reader_readLine_161 ⟨1, rfl, ⟨hI524, f525, o493, o493Z, o493E, (kn_call fh522 (kn_call fh499 o493K rfl) rfl), o503, o503Z, o503E, (kn_call fh522 o503K rfl), o504, o504Z, o504E, (kn_call fh522 o504K rfl), (Or.inl ⟨rfl, ((x_line_5 (u := uZ) (by (first | decide +kernel | omega)) hH hL).trans (by unfold x_l5; rw [x_sq_n (c := x_cN b uZ 0 3) (by (first | decide +kernel | omega)), x_sq_n (c := x_c4 (T 5 (x_vl b uZ))) (by (first | decide +kernel | omega)), x_sq_n (c := x_cN b (x_en b uZ) 0 99) (by (first | decide +kernel | omega)), x_sq_n (c := x_cS b (x_en b (x_en b uZ))) (by (first | decide +kernel | omega))])).trans (pq rfl (by (first | decide +kernel | omega))), by (first | decide +kernel | omega), by (first | decide +kernel | omega), by (first | decide +kernel | omega), by rw [x_T_5 T (u := uZ) (by (first | decide +kernel | omega)) hL, x_D_5 D (u := uZ) (by (first | decide +kernel | omega)) hL]; exact qR⟩)⟩⟩
                        ·
                          replace p500 := kd_n p500 (by (first | decide +kernel | omega))
                          replace p488 := adv_0 p488
                          refine V_iconst 0 d_Reader_readLine_153 (by decide) ?_
                          exact V_zret rfl (by decide) d_Reader_readLine_154 ⟨0, rfl, ⟨hI501, f502, o493, o493Z, o493E, (kn_call fh499 o493K rfl), o503, o503Z, o503E, o503K, o504, o504Z, o504E, o504K, (by have q := x_cS_s b (x_en b (x_en b uZ)); exact Or.inr ⟨tc_0, ((x_line_5 (u := uZ) (by (first | decide +kernel | omega)) hH hL).trans (by unfold x_l5; rw [x_sq_n (c := x_cN b uZ 0 3) (by (first | decide +kernel | omega)), x_sq_n (c := x_c4 (T 5 (x_vl b uZ))) (by (first | decide +kernel | omega)), x_sq_n (c := x_cN b (x_en b uZ) 0 99) (by (first | decide +kernel | omega)), x_sq_y (c := x_cS b (x_en b (x_en b uZ))) (by (first | decide +kernel | omega))])).trans (pq (by (first | decide +kernel | omega)) (by (first | decide +kernel | omega))), by (first | decide +kernel | omega)⟩)⟩⟩
                      ·
                        exact absurd c485 (by decide)
                    ·
                      replace p469 := p469.resolve_left (fun q => by (first | decide +kernel | omega))
                      refine V_iconst 0 d_Reader_readLine_130 (by decide) ?_
                      exact V_zret rfl (by decide) d_Reader_readLine_131 ⟨0, rfl, ⟨hI470, f471, o474, o474Z, o474E, o474K, o476, o476Z, o476E, o476K, o477, o477Z, o477E, o477K, (by exact Or.inr ⟨tc_0, ((x_line_5 (u := uZ) (by (first | decide +kernel | omega)) hH hL).trans (by unfold x_l5; rw [x_sq_n (c := x_cN b uZ 0 3) (by (first | decide +kernel | omega)), x_sq_n (c := x_c4 (T 5 (x_vl b uZ))) (by (first | decide +kernel | omega)), x_sq_y (c := x_cN b (x_en b uZ) 0 99) (by (first | decide +kernel | omega))])).trans (pq (by (first | decide +kernel | omega)) (by (first | decide +kernel | omega))), by (first | decide +kernel | omega)⟩)⟩⟩
                ·
                  replace p450 := p450.resolve_left (fun q => by (first | decide +kernel | omega))
                  refine V_iconst 0 d_Reader_readLine_130 (by decide) ?_
                  exact V_zret rfl (by decide) d_Reader_readLine_131 ⟨0, rfl, ⟨hI451, f452, o455, o455Z, o455E, o455K, o457, o457Z, o457E, o457K, o458, o458Z, o458E, o458K, (if q9 : x_cN b uZ 0 3 = 0 then Or.inr ⟨tc_0, ((x_line_5 (u := uZ) (by (first | decide +kernel | omega)) hH hL).trans (by unfold x_l5; rw [x_sq_n (c := x_cN b uZ 0 3) (by (first | decide +kernel | omega)), x_sq_y (c := x_c4 (T 5 (x_vl b uZ))) (by (first | decide +kernel | omega))])).trans (pq (by (first | decide +kernel | omega)) (by (first | decide +kernel | omega))), by (first | decide +kernel | omega)⟩ else Or.inr ⟨tc_0, ((x_line_5 (u := uZ) (by (first | decide +kernel | omega)) hH hL).trans (by unfold x_l5; rw [x_sq_y (c := x_cN b uZ 0 3) (by (first | decide +kernel | omega))])).trans (pq (by (first | decide +kernel | omega)) (by (first | decide +kernel | omega))), by (first | decide +kernel | omega)⟩)⟩⟩
            ·
              exact absurd c444 (by decide)
          ·
            exact absurd c443 (by decide)
        ·
          exact absurd c442 (by (first | decide +kernel | omega))
      ·
        obtain rfl : z13 = 6 := (ti_eq z13E tc_6).mpr c18
        subst c18
        have hL : x_li b p0 = 6 := by (first | decide +kernel | omega)
        refine V_iload_n 1 d_Reader_readLine_32 rfl rfl ?_
        refine N_callSI [.int 6] [] cs_Reader_91 d_Reader_readLine_33 rfl (Nat.le_of_ble_eq_true rfl) (by decide) (by decide) (c_Reader_isOnceOnlyX_6 h5) (fun z526 h527 z526Z z526E p528 => ?_)
        obtain ⟨eh527, p528⟩ := p528
        subst eh527
        refine V_if_eq 61 z526E d_Reader_readLine_36 (by decide) (fun c529 => ?_) (fun c529 => ?_)
        ·
          exact absurd c529 (by (first | decide +kernel | omega))
        ·
          refine V_aload_n 0 d_Reader_readLine_39 rfl rfl ?_
          refine V_getR fa_Reader_29 sk_88 rfl d_Reader_readLine_40 ?_
          refine V_iload_n 1 d_Reader_readLine_43 rfl rfl ?_
          refine N_iald sk_92 tc_6 (by (first | decide +kernel | omega)) d_Reader_readLine_44 (fun z530 z530Z z530E z530e => ?_)
          have g531 : z530Z = 0 ∧ T 6 0 = 0 ∨ z530Z ≠ 0 ∧ T 6 0 = 1 := by have q := R11.1.2 6 (by decide); unfold x_ON at q; rw [show h5.1 92 6 = z530 from z530e.symm, z530E] at q; exact q
          refine V_if_eq 61 z530E d_Reader_readLine_45 (by decide) (fun c532 => ?_) (fun c532 => ?_)
          ·
            replace g531 := g531.resolve_right (by (first | decide +kernel | omega))
            refine V_iload_n 1 d_Reader_readLine_61 rfl rfl ?_
            refine V_bipush 9 d_Reader_readLine_62 (by decide) ?_
            refine V_icmp_ne 95 tc_6 tc_9 d_Reader_readLine_64 (by decide) (fun c533 => ?_) (fun c533 => ?_)
            ·
              have hH : x_cH b T (D 86) p0 = 0 := cH_0 (by (first | decide +kernel | omega)) (by (first | decide +kernel | omega)) (by rw [hL]; omega) (by (first | decide +kernel | omega))
              refine V_iload_n 1 d_Reader_readLine_95 rfl rfl ?_
              refine V_bipush 8 d_Reader_readLine_96 (by decide) ?_
              refine V_icmp_ne 110 tc_6 tc_8 d_Reader_readLine_98 (by decide) (fun c534 => ?_) (fun c534 => ?_)
              ·
                refine V_iconst 0 d_Reader_readLine_110 (by decide) ?_
                refine V_istore_n 2 [some (.ref 88), some (.int 6), some (.int 0)] d_Reader_readLine_111 rfl (by decide) rfl rfl ?_
                refine V_iload_n 2 d_Reader_readLine_112 rfl rfl ?_
                refine V_gets (v := .ref 132) zN ws_Reader_106 d_Reader_readLine_113 ?_
                refine V_iload_n 1 d_Reader_readLine_116 rfl rfl ?_
                refine V_tald roN tc_6 (by decide) d_Reader_readLine_117 (fun z535 z535Z z535E z535e => ?_)
                obtain rfl : z535 = 1 := z535e.trans rfl
                refine V_icmp_ge 138 tc_0 tc_1 d_Reader_readLine_118 (by decide) (fun c536 => ?_) (fun c536 => ?_)
                ·
                  exact absurd c536 (by decide)
                ·
                  refine V_aload_n 0 d_Reader_readLine_121 rfl rfl ?_
                  refine V_iload_n 1 d_Reader_readLine_122 rfl rfl ?_
                  refine V_iload_n 2 d_Reader_readLine_123 rfl rfl ?_
                  refine N_callVI [.int 6, .int 0] [] cv_Reader_109 sk_88 rfl d_Reader_readLine_124 rfl (Nat.le_of_ble_eq_true rfl) (by decide) (by decide) (c_Reader_readNumberX_6_0 h5 b T hI7 s sZ sE (kn_call fh5 sK rfl) u uZ uE (kn_call fh5 uK rfl) o10 o10Z o10E o10K o9 o9Z o9E o9K (TP_fr f8 (fun _ => rfl) hy0) (by (first | decide +kernel | omega))) (fun z537 h538 z537Z z537E p539 => ?_)
                  obtain ⟨hI540, fh538, o542, o542Z, o542E, o542K, o543, o543Z, o543E, o543K, o544, o544Z, o544E, o544K, o545, o545Z, o545E, o545K, o546, o546Z, o546E, o546K, o547, o547Z, o547E, o547K, o548, o548Z, o548E, o548K, p539⟩ := p539
                  have f541 : fr S_Reader_readLineX h h538 := fr_call f8 fh538 rfl
                  have R549 : RC h538 T D := RC_fr fh538 rfl R11
                  have g550 : 0 ≤ o543Z ∧ o543Z ≤ 160 := inv_at hI540 o543E o543K.symm rfl
                  have g551 : 0 ≤ o544Z ∧ o544Z ≤ 160 := inv_at hI540 o544E o544K.symm rfl
                  refine V_if_ne 132 z537E d_Reader_readLine_127 (by decide) (fun c552 => ?_) (fun c552 => ?_)
                  ·
                    replace p539 := p539.resolve_right (fun q => by (first | decide +kernel | omega))
                    obtain rfl : o544Z = x_en b uZ := by (first | decide +kernel | omega)
                    obtain rfl : o548Z = x_vl b uZ := by (first | decide +kernel | omega)
                    refine V_iinc (v := 1) 2 [some (.ref 88), some (.int 6), some (.int 1)] d_Reader_readLine_132 rfl (by decide) (by decide) rfl rfl ?_
                    refine V_goto 112 d_Reader_readLine_135 (by decide) ?_
                    refine V_iload_n 2 d_Reader_readLine_112 rfl rfl ?_
                    refine V_gets (v := .ref 132) zN ws_Reader_106 d_Reader_readLine_113 ?_
                    refine V_iload_n 1 d_Reader_readLine_116 rfl rfl ?_
                    refine V_tald roN tc_6 (by decide) d_Reader_readLine_117 (fun z554 z554Z z554E z554e => ?_)
                    obtain rfl : z554 = 1 := z554e.trans rfl
                    refine V_icmp_ge 138 tc_1 tc_1 d_Reader_readLine_118 (by decide) (fun c555 => ?_) (fun c555 => ?_)
                    ·
                      refine V_aload_n 0 d_Reader_readLine_138 rfl rfl ?_
                      refine V_getR fa_Reader_12 sk_88 rfl d_Reader_readLine_139 ?_
                      refine N_callVV [] [] cv_Reader_48 sk_89 rfl d_Reader_readLine_142 rfl (Nat.le_of_ble_eq_true rfl) (by decide) (by decide) (c_Tape_advanceX h538 b hI540 s sZ sE (kn_call fh538 (kn_call fh5 sK rfl) rfl) o544 ((x_en b uZ)) o544E o544K (TP_fr f541 (fun _ => rfl) hy0) (by (first | decide +kernel | omega))) (fun h557 p558 => ?_)
                      obtain ⟨hI559, fh557, o561, o561Z, o561E, o561K, o562, o562Z, o562E, o562K, o563, o563Z, o563E, o563K, o564, o564Z, o564E, o564K, p558⟩ := p558
                      have f560 : fr S_Reader_readLineX h h557 := fr_call f541 fh557 rfl
                      have R565 : RC h557 T D := RC_fr fh557 rfl R549
                      have g566 : 0 ≤ o562Z ∧ o562Z ≤ 160 := inv_at hI559 o562E o562K.symm rfl
                      have g567 : 0 ≤ o563Z ∧ o563Z ≤ 160 := inv_at hI559 o563E o563K.symm rfl
                      refine V_aload_n 0 d_Reader_readLine_145 rfl rfl ?_
                      refine V_iconst 3 d_Reader_readLine_146 (by decide) ?_
                      refine N_callVI [.int 3] [] cv_Reader_84 sk_88 rfl d_Reader_readLine_147 rfl (Nat.le_of_ble_eq_true rfl) (by decide) (by decide) (c_Reader_isKindX h557 hI559 3 3 tc_3 o561 o561Z o561E o561K o562 o562Z o562E o562K o547 o547Z o547E (kn_call fh557 o547K rfl) o546 o546Z o546E (kn_call fh557 o546K rfl)) (fun z568 h569 z568Z z568E p570 => ?_)
                      obtain ⟨hI571, fh569, o573, o573Z, o573E, o573K, o574, o574Z, o574E, o574K, p570⟩ := p570
                      have f572 : fr S_Reader_readLineX h h569 := fr_call f560 fh569 rfl
                      have R575 : RC h569 T D := RC_fr fh569 rfl R565
                      refine V_if_ne 155 z568E d_Reader_readLine_150 (by decide) (fun c576 => ?_) (fun c576 => ?_)
                      ·
                        replace p570 := kd_y p570 (by (first | decide +kernel | omega))
                        replace p558 := adv_m 3 p558 (by (first | decide +kernel | omega)) (by decide)
                        have hS : x_cS b (x_en b uZ) = 0 := cS_of p558.2.2.1
                        have g577 := cN_0 (show x_cN b uZ 1 9 = 0 by (first | decide +kernel | omega))
                        refine V_aload_n 0 d_Reader_readLine_155 rfl rfl ?_
                        refine V_iload_n 1 d_Reader_readLine_156 rfl rfl ?_
                        obtain ⟨z583, z583Z, z583E, z583e⟩ : ∃ (y : Int32) (Y : Int), y.toInt = Y ∧ y = h569.1 75 4 := ⟨_, _, rfl, rfl⟩
                        have g584 : 0 ≤ z583Z ∧ z583Z ≤ 8 := inv_at hI571 z583E z583e rfl
                        refine N_callVV [.int 6] [] cv_Reader_112 sk_88 rfl d_Reader_readLine_157 rfl (Nat.le_of_ble_eq_true rfl) (by decide) (by decide) (c_Reader_tellLineX_6 h569 T D hI571 o548 ((x_vl b uZ)) o548E (kn_call fh569 (kn_call fh557 o548K rfl) rfl) z530 z530Z z530E (kn_call fh569 (kn_call fh557 (kn_call fh538 z530e.symm rfl) rfl) rfl) z583 z583Z z583E z583e.symm R575 (by (first | decide +kernel | omega))) (fun h586 p587 => ?_)
                        obtain ⟨hI588, fh586, p587⟩ := p587
                        have f589 : fr S_Reader_readLineX h h586 := fr_call f572 fh586 rfl
                        have qR := p587
                        refine V_iconst 1 d_Reader_readLine_160 (by decide) ?_
                        exact V_zret rfl (by decide) d_Reader_readLine_161 ⟨1, rfl, ⟨hI588, f589, o563, o563Z, o563E, (kn_call fh586 (kn_call fh569 o563K rfl) rfl), o573, o573Z, o573E, (kn_call fh586 o573K rfl), o574, o574Z, o574E, (kn_call fh586 o574K rfl), (Or.inl ⟨rfl, ((x_line_6 (u := uZ) (by (first | decide +kernel | omega)) hH hL).trans (by unfold x_l6; rw [x_sq_n (c := x_cN b uZ 1 9) (by (first | decide +kernel | omega)), x_sq_n (c := x_cS b (x_en b uZ)) (by (first | decide +kernel | omega))])).trans (pq rfl (by (first | decide +kernel | omega))), by (first | decide +kernel | omega), by (first | decide +kernel | omega), by (first | decide +kernel | omega), by rw [x_T_6 T (u := uZ) (by (first | decide +kernel | omega)) hL, x_D_6 D (u := uZ) (by (first | decide +kernel | omega)) hL]; exact qR⟩)⟩⟩
                      ·
                        replace p570 := kd_n p570 (by (first | decide +kernel | omega))
                        replace p558 := adv_0 p558
                        refine V_iconst 0 d_Reader_readLine_153 (by decide) ?_
                        exact V_zret rfl (by decide) d_Reader_readLine_154 ⟨0, rfl, ⟨hI571, f572, o563, o563Z, o563E, (kn_call fh569 o563K rfl), o573, o573Z, o573E, o573K, o574, o574Z, o574E, o574K, (by have q := x_cS_s b (x_en b uZ); exact Or.inr ⟨tc_0, ((x_line_6 (u := uZ) (by (first | decide +kernel | omega)) hH hL).trans (by unfold x_l6; rw [x_sq_n (c := x_cN b uZ 1 9) (by (first | decide +kernel | omega)), x_sq_y (c := x_cS b (x_en b uZ)) (by (first | decide +kernel | omega))])).trans (pq (by (first | decide +kernel | omega)) (by (first | decide +kernel | omega))), by (first | decide +kernel | omega)⟩)⟩⟩
                    ·
                      exact absurd c555 (by decide)
                  ·
                    replace p539 := p539.resolve_left (fun q => by (first | decide +kernel | omega))
                    refine V_iconst 0 d_Reader_readLine_130 (by decide) ?_
                    exact V_zret rfl (by decide) d_Reader_readLine_131 ⟨0, rfl, ⟨hI540, f541, o544, o544Z, o544E, o544K, o546, o546Z, o546E, o546K, o547, o547Z, o547E, o547K, (by exact Or.inr ⟨tc_0, ((x_line_6 (u := uZ) (by (first | decide +kernel | omega)) hH hL).trans (by unfold x_l6; rw [x_sq_y (c := x_cN b uZ 1 9) (by (first | decide +kernel | omega))])).trans (pq (by (first | decide +kernel | omega)) (by (first | decide +kernel | omega))), by (first | decide +kernel | omega)⟩)⟩⟩
              ·
                exact absurd c534 (by decide)
            ·
              exact absurd c533 (by decide)
          ·
            replace g531 := g531.resolve_left (by (first | decide +kernel | omega))
            refine V_aload_n 0 d_Reader_readLine_48 rfl rfl ?_
            refine V_iconst 4 d_Reader_readLine_49 (by decide) ?_
            refine V_aload_n 0 d_Reader_readLine_50 rfl rfl ?_
            refine V_getR fa_Reader_12 sk_88 rfl d_Reader_readLine_51 ?_
            refine N_getK fa_Reader_81 sk_89 rfl d_Reader_readLine_54 (kn_call fh5 fK rfl) ?_
            refine N_callVI [.int 4, .int f] [] cv_Reader_64 sk_88 rfl d_Reader_readLine_57 rfl (Nat.le_of_ble_eq_true rfl) (by decide) (by decide) (c_Reader_isRefusedX h5 hI7 4 4 tc_4 f fZ fE) (fun z590 h591 z590Z z590E p592 => ?_)
            obtain ⟨hI593, fh591, o595, o595Z, o595E, o595K, o596, o596Z, o596E, o596K, p592⟩ := p592
            have f594 : fr S_Reader_readLineX h h591 := fr_call f8 fh591 rfl
            have R597 : RC h591 T D := RC_fr fh591 rfl R11
            exact V_zret rfl (by rw [z590E]; omega) d_Reader_readLine_60 ⟨z590, rfl, ⟨hI593, f594, u, uZ, uE, (kn_call fh591 (kn_call fh5 uK rfl) rfl), o595, o595Z, o595E, o595K, o596, o596Z, o596E, o596K, (by have hc9 : x_cH b T (D 86) p0 = 4 := cH_4 (by (first | decide +kernel | omega)) (by (first | decide +kernel | omega)) (by rw [hL]; omega); exact Or.inr ⟨by (first | decide +kernel | omega), (x_line_H (by rw [hc9]; decide)).trans (pq (by rw [hc9]; omega) (by (first | decide +kernel | omega))), by (first | decide +kernel | omega)⟩)⟩⟩
      ·
        obtain rfl : z13 = 7 := (ti_eq z13E tc_7).mpr c18
        subst c18
        have hL : x_li b p0 = 7 := by (first | decide +kernel | omega)
        refine V_iload_n 1 d_Reader_readLine_32 rfl rfl ?_
        refine N_callSI [.int 7] [] cs_Reader_91 d_Reader_readLine_33 rfl (Nat.le_of_ble_eq_true rfl) (by decide) (by decide) (c_Reader_isOnceOnlyX_7 h5) (fun z598 h599 z598Z z598E p600 => ?_)
        obtain ⟨eh599, p600⟩ := p600
        subst eh599
        refine V_if_eq 61 z598E d_Reader_readLine_36 (by decide) (fun c601 => ?_) (fun c601 => ?_)
        ·
          exact absurd c601 (by (first | decide +kernel | omega))
        ·
          refine V_aload_n 0 d_Reader_readLine_39 rfl rfl ?_
          refine V_getR fa_Reader_29 sk_88 rfl d_Reader_readLine_40 ?_
          refine V_iload_n 1 d_Reader_readLine_43 rfl rfl ?_
          refine N_iald sk_92 tc_7 (by (first | decide +kernel | omega)) d_Reader_readLine_44 (fun z602 z602Z z602E z602e => ?_)
          have g603 : z602Z = 0 ∧ T 7 0 = 0 ∨ z602Z ≠ 0 ∧ T 7 0 = 1 := by have q := R11.1.2 7 (by decide); unfold x_ON at q; rw [show h5.1 92 7 = z602 from z602e.symm, z602E] at q; exact q
          refine V_if_eq 61 z602E d_Reader_readLine_45 (by decide) (fun c604 => ?_) (fun c604 => ?_)
          ·
            replace g603 := g603.resolve_right (by (first | decide +kernel | omega))
            refine V_iload_n 1 d_Reader_readLine_61 rfl rfl ?_
            refine V_bipush 9 d_Reader_readLine_62 (by decide) ?_
            refine V_icmp_ne 95 tc_7 tc_9 d_Reader_readLine_64 (by decide) (fun c605 => ?_) (fun c605 => ?_)
            ·
              have hH : x_cH b T (D 86) p0 = 0 := cH_0 (by (first | decide +kernel | omega)) (by (first | decide +kernel | omega)) (by rw [hL]; omega) (by (first | decide +kernel | omega))
              refine V_iload_n 1 d_Reader_readLine_95 rfl rfl ?_
              refine V_bipush 8 d_Reader_readLine_96 (by decide) ?_
              refine V_icmp_ne 110 tc_7 tc_8 d_Reader_readLine_98 (by decide) (fun c606 => ?_) (fun c606 => ?_)
              ·
                refine V_iconst 0 d_Reader_readLine_110 (by decide) ?_
                refine V_istore_n 2 [some (.ref 88), some (.int 7), some (.int 0)] d_Reader_readLine_111 rfl (by decide) rfl rfl ?_
                refine V_iload_n 2 d_Reader_readLine_112 rfl rfl ?_
                refine V_gets (v := .ref 132) zN ws_Reader_106 d_Reader_readLine_113 ?_
                refine V_iload_n 1 d_Reader_readLine_116 rfl rfl ?_
                refine V_tald roN tc_7 (by decide) d_Reader_readLine_117 (fun z607 z607Z z607E z607e => ?_)
                obtain rfl : z607 = 1 := z607e.trans rfl
                refine V_icmp_ge 138 tc_0 tc_1 d_Reader_readLine_118 (by decide) (fun c608 => ?_) (fun c608 => ?_)
                ·
                  exact absurd c608 (by decide)
                ·
                  refine V_aload_n 0 d_Reader_readLine_121 rfl rfl ?_
                  refine V_iload_n 1 d_Reader_readLine_122 rfl rfl ?_
                  refine V_iload_n 2 d_Reader_readLine_123 rfl rfl ?_
                  refine N_callVI [.int 7, .int 0] [] cv_Reader_109 sk_88 rfl d_Reader_readLine_124 rfl (Nat.le_of_ble_eq_true rfl) (by decide) (by decide) (c_Reader_readNumberX_7_0 h5 b T hI7 s sZ sE (kn_call fh5 sK rfl) u uZ uE (kn_call fh5 uK rfl) o10 o10Z o10E o10K o9 o9Z o9E o9K (TP_fr f8 (fun _ => rfl) hy0) (by (first | decide +kernel | omega))) (fun z609 h610 z609Z z609E p611 => ?_)
                  obtain ⟨hI612, fh610, o614, o614Z, o614E, o614K, o615, o615Z, o615E, o615K, o616, o616Z, o616E, o616K, o617, o617Z, o617E, o617K, o618, o618Z, o618E, o618K, o619, o619Z, o619E, o619K, o620, o620Z, o620E, o620K, p611⟩ := p611
                  have f613 : fr S_Reader_readLineX h h610 := fr_call f8 fh610 rfl
                  have R621 : RC h610 T D := RC_fr fh610 rfl R11
                  have g622 : 0 ≤ o615Z ∧ o615Z ≤ 160 := inv_at hI612 o615E o615K.symm rfl
                  have g623 : 0 ≤ o616Z ∧ o616Z ≤ 160 := inv_at hI612 o616E o616K.symm rfl
                  refine V_if_ne 132 z609E d_Reader_readLine_127 (by decide) (fun c624 => ?_) (fun c624 => ?_)
                  ·
                    replace p611 := p611.resolve_right (fun q => by (first | decide +kernel | omega))
                    obtain rfl : o616Z = x_en b uZ := by (first | decide +kernel | omega)
                    obtain rfl : o620Z = x_vl b uZ := by (first | decide +kernel | omega)
                    refine V_iinc (v := 1) 2 [some (.ref 88), some (.int 7), some (.int 1)] d_Reader_readLine_132 rfl (by decide) (by decide) rfl rfl ?_
                    refine V_goto 112 d_Reader_readLine_135 (by decide) ?_
                    refine V_iload_n 2 d_Reader_readLine_112 rfl rfl ?_
                    refine V_gets (v := .ref 132) zN ws_Reader_106 d_Reader_readLine_113 ?_
                    refine V_iload_n 1 d_Reader_readLine_116 rfl rfl ?_
                    refine V_tald roN tc_7 (by decide) d_Reader_readLine_117 (fun z626 z626Z z626E z626e => ?_)
                    obtain rfl : z626 = 1 := z626e.trans rfl
                    refine V_icmp_ge 138 tc_1 tc_1 d_Reader_readLine_118 (by decide) (fun c627 => ?_) (fun c627 => ?_)
                    ·
                      refine V_aload_n 0 d_Reader_readLine_138 rfl rfl ?_
                      refine V_getR fa_Reader_12 sk_88 rfl d_Reader_readLine_139 ?_
                      refine N_callVV [] [] cv_Reader_48 sk_89 rfl d_Reader_readLine_142 rfl (Nat.le_of_ble_eq_true rfl) (by decide) (by decide) (c_Tape_advanceX h610 b hI612 s sZ sE (kn_call fh610 (kn_call fh5 sK rfl) rfl) o616 ((x_en b uZ)) o616E o616K (TP_fr f613 (fun _ => rfl) hy0) (by (first | decide +kernel | omega))) (fun h629 p630 => ?_)
                      obtain ⟨hI631, fh629, o633, o633Z, o633E, o633K, o634, o634Z, o634E, o634K, o635, o635Z, o635E, o635K, o636, o636Z, o636E, o636K, p630⟩ := p630
                      have f632 : fr S_Reader_readLineX h h629 := fr_call f613 fh629 rfl
                      have R637 : RC h629 T D := RC_fr fh629 rfl R621
                      have g638 : 0 ≤ o634Z ∧ o634Z ≤ 160 := inv_at hI631 o634E o634K.symm rfl
                      have g639 : 0 ≤ o635Z ∧ o635Z ≤ 160 := inv_at hI631 o635E o635K.symm rfl
                      refine V_aload_n 0 d_Reader_readLine_145 rfl rfl ?_
                      refine V_iconst 3 d_Reader_readLine_146 (by decide) ?_
                      refine N_callVI [.int 3] [] cv_Reader_84 sk_88 rfl d_Reader_readLine_147 rfl (Nat.le_of_ble_eq_true rfl) (by decide) (by decide) (c_Reader_isKindX h629 hI631 3 3 tc_3 o633 o633Z o633E o633K o634 o634Z o634E o634K o619 o619Z o619E (kn_call fh629 o619K rfl) o618 o618Z o618E (kn_call fh629 o618K rfl)) (fun z640 h641 z640Z z640E p642 => ?_)
                      obtain ⟨hI643, fh641, o645, o645Z, o645E, o645K, o646, o646Z, o646E, o646K, p642⟩ := p642
                      have f644 : fr S_Reader_readLineX h h641 := fr_call f632 fh641 rfl
                      have R647 : RC h641 T D := RC_fr fh641 rfl R637
                      refine V_if_ne 155 z640E d_Reader_readLine_150 (by decide) (fun c648 => ?_) (fun c648 => ?_)
                      ·
                        replace p642 := kd_y p642 (by (first | decide +kernel | omega))
                        replace p630 := adv_m 3 p630 (by (first | decide +kernel | omega)) (by decide)
                        have hS : x_cS b (x_en b uZ) = 0 := cS_of p630.2.2.1
                        have g649 := cN_0 (show x_cN b uZ 1 99 = 0 by (first | decide +kernel | omega))
                        refine V_aload_n 0 d_Reader_readLine_155 rfl rfl ?_
                        refine V_iload_n 1 d_Reader_readLine_156 rfl rfl ?_
                        obtain ⟨z655, z655Z, z655E, z655e⟩ : ∃ (y : Int32) (Y : Int), y.toInt = Y ∧ y = h641.1 75 4 := ⟨_, _, rfl, rfl⟩
                        have g656 : 0 ≤ z655Z ∧ z655Z ≤ 8 := inv_at hI643 z655E z655e rfl
                        refine N_callVV [.int 7] [] cv_Reader_112 sk_88 rfl d_Reader_readLine_157 rfl (Nat.le_of_ble_eq_true rfl) (by decide) (by decide) (c_Reader_tellLineX_7 h641 T D hI643 o620 ((x_vl b uZ)) o620E (kn_call fh641 (kn_call fh629 o620K rfl) rfl) z602 z602Z z602E (kn_call fh641 (kn_call fh629 (kn_call fh610 z602e.symm rfl) rfl) rfl) z655 z655Z z655E z655e.symm R647 (by (first | decide +kernel | omega))) (fun h658 p659 => ?_)
                        obtain ⟨hI660, fh658, p659⟩ := p659
                        have f661 : fr S_Reader_readLineX h h658 := fr_call f644 fh658 rfl
                        have qR := p659
                        refine V_iconst 1 d_Reader_readLine_160 (by decide) ?_
                        exact V_zret rfl (by decide) d_Reader_readLine_161 ⟨1, rfl, ⟨hI660, f661, o635, o635Z, o635E, (kn_call fh658 (kn_call fh641 o635K rfl) rfl), o645, o645Z, o645E, (kn_call fh658 o645K rfl), o646, o646Z, o646E, (kn_call fh658 o646K rfl), (Or.inl ⟨rfl, ((x_line_7 (u := uZ) (by (first | decide +kernel | omega)) hH hL).trans (by unfold x_l7; rw [x_sq_n (c := x_cN b uZ 1 99) (by (first | decide +kernel | omega)), x_sq_n (c := x_cS b (x_en b uZ)) (by (first | decide +kernel | omega))])).trans (pq rfl (by (first | decide +kernel | omega))), by (first | decide +kernel | omega), by (first | decide +kernel | omega), by (first | decide +kernel | omega), by rw [x_T_7 T (u := uZ) (by (first | decide +kernel | omega)) hL, x_D_7 D (u := uZ) (by (first | decide +kernel | omega)) hL]; exact qR⟩)⟩⟩
                      ·
                        replace p642 := kd_n p642 (by (first | decide +kernel | omega))
                        replace p630 := adv_0 p630
                        refine V_iconst 0 d_Reader_readLine_153 (by decide) ?_
                        exact V_zret rfl (by decide) d_Reader_readLine_154 ⟨0, rfl, ⟨hI643, f644, o635, o635Z, o635E, (kn_call fh641 o635K rfl), o645, o645Z, o645E, o645K, o646, o646Z, o646E, o646K, (by have q := x_cS_s b (x_en b uZ); exact Or.inr ⟨tc_0, ((x_line_7 (u := uZ) (by (first | decide +kernel | omega)) hH hL).trans (by unfold x_l7; rw [x_sq_n (c := x_cN b uZ 1 99) (by (first | decide +kernel | omega)), x_sq_y (c := x_cS b (x_en b uZ)) (by (first | decide +kernel | omega))])).trans (pq (by (first | decide +kernel | omega)) (by (first | decide +kernel | omega))), by (first | decide +kernel | omega)⟩)⟩⟩
                    ·
                      exact absurd c627 (by decide)
                  ·
                    replace p611 := p611.resolve_left (fun q => by (first | decide +kernel | omega))
                    refine V_iconst 0 d_Reader_readLine_130 (by decide) ?_
                    exact V_zret rfl (by decide) d_Reader_readLine_131 ⟨0, rfl, ⟨hI612, f613, o616, o616Z, o616E, o616K, o618, o618Z, o618E, o618K, o619, o619Z, o619E, o619K, (by exact Or.inr ⟨tc_0, ((x_line_7 (u := uZ) (by (first | decide +kernel | omega)) hH hL).trans (by unfold x_l7; rw [x_sq_y (c := x_cN b uZ 1 99) (by (first | decide +kernel | omega))])).trans (pq (by (first | decide +kernel | omega)) (by (first | decide +kernel | omega))), by (first | decide +kernel | omega)⟩)⟩⟩
              ·
                exact absurd c606 (by decide)
            ·
              exact absurd c605 (by decide)
          ·
            replace g603 := g603.resolve_left (by (first | decide +kernel | omega))
            refine V_aload_n 0 d_Reader_readLine_48 rfl rfl ?_
            refine V_iconst 4 d_Reader_readLine_49 (by decide) ?_
            refine V_aload_n 0 d_Reader_readLine_50 rfl rfl ?_
            refine V_getR fa_Reader_12 sk_88 rfl d_Reader_readLine_51 ?_
            refine N_getK fa_Reader_81 sk_89 rfl d_Reader_readLine_54 (kn_call fh5 fK rfl) ?_
            refine N_callVI [.int 4, .int f] [] cv_Reader_64 sk_88 rfl d_Reader_readLine_57 rfl (Nat.le_of_ble_eq_true rfl) (by decide) (by decide) (c_Reader_isRefusedX h5 hI7 4 4 tc_4 f fZ fE) (fun z662 h663 z662Z z662E p664 => ?_)
            obtain ⟨hI665, fh663, o667, o667Z, o667E, o667K, o668, o668Z, o668E, o668K, p664⟩ := p664
            have f666 : fr S_Reader_readLineX h h663 := fr_call f8 fh663 rfl
            have R669 : RC h663 T D := RC_fr fh663 rfl R11
            exact V_zret rfl (by rw [z662E]; omega) d_Reader_readLine_60 ⟨z662, rfl, ⟨hI665, f666, u, uZ, uE, (kn_call fh663 (kn_call fh5 uK rfl) rfl), o667, o667Z, o667E, o667K, o668, o668Z, o668E, o668K, (by have hc9 : x_cH b T (D 86) p0 = 4 := cH_4 (by (first | decide +kernel | omega)) (by (first | decide +kernel | omega)) (by rw [hL]; omega); exact Or.inr ⟨by (first | decide +kernel | omega), (x_line_H (by rw [hc9]; decide)).trans (pq (by rw [hc9]; omega) (by (first | decide +kernel | omega))), by (first | decide +kernel | omega)⟩)⟩⟩
      ·
        obtain rfl : z13 = 8 := (ti_eq z13E tc_8).mpr c18
        subst c18
        have hL : x_li b p0 = 8 := by (first | decide +kernel | omega)
        refine V_iload_n 1 d_Reader_readLine_32 rfl rfl ?_
        refine N_callSI [.int 8] [] cs_Reader_91 d_Reader_readLine_33 rfl (Nat.le_of_ble_eq_true rfl) (by decide) (by decide) (c_Reader_isOnceOnlyX_8 h5) (fun z670 h671 z670Z z670E p672 => ?_)
        obtain ⟨eh671, p672⟩ := p672
        subst eh671
        refine V_if_eq 61 z670E d_Reader_readLine_36 (by decide) (fun c673 => ?_) (fun c673 => ?_)
        ·
          exact absurd c673 (by (first | decide +kernel | omega))
        ·
          refine V_aload_n 0 d_Reader_readLine_39 rfl rfl ?_
          refine V_getR fa_Reader_29 sk_88 rfl d_Reader_readLine_40 ?_
          refine V_iload_n 1 d_Reader_readLine_43 rfl rfl ?_
          refine N_iald sk_92 tc_8 (by (first | decide +kernel | omega)) d_Reader_readLine_44 (fun z674 z674Z z674E z674e => ?_)
          have g675 : z674Z = 0 ∧ T 8 0 = 0 ∨ z674Z ≠ 0 ∧ T 8 0 = 1 := by have q := R11.1.2 8 (by decide); unfold x_ON at q; rw [show h5.1 92 8 = z674 from z674e.symm, z674E] at q; exact q
          refine V_if_eq 61 z674E d_Reader_readLine_45 (by decide) (fun c676 => ?_) (fun c676 => ?_)
          ·
            replace g675 := g675.resolve_right (by (first | decide +kernel | omega))
            refine V_iload_n 1 d_Reader_readLine_61 rfl rfl ?_
            refine V_bipush 9 d_Reader_readLine_62 (by decide) ?_
            refine V_icmp_ne 95 tc_8 tc_9 d_Reader_readLine_64 (by decide) (fun c677 => ?_) (fun c677 => ?_)
            ·
              have hH : x_cH b T (D 86) p0 = 0 := cH_0 (by (first | decide +kernel | omega)) (by (first | decide +kernel | omega)) (by rw [hL]; omega) (by (first | decide +kernel | omega))
              refine V_iload_n 1 d_Reader_readLine_95 rfl rfl ?_
              refine V_bipush 8 d_Reader_readLine_96 (by decide) ?_
              refine V_icmp_ne 110 tc_8 tc_8 d_Reader_readLine_98 (by decide) (fun c678 => ?_) (fun c678 => ?_)
              ·
                exact absurd c678 (by decide)
              ·
                refine V_aload_n 0 d_Reader_readLine_101 rfl rfl ?_
                refine N_callVI [] [] cv_Reader_103 sk_88 rfl d_Reader_readLine_102 rfl (Nat.le_of_ble_eq_true rfl) (by decide) (by decide) (c_Reader_readNatureX h5 b T hI7 s sZ sE (kn_call fh5 sK rfl) u uZ uE (kn_call fh5 uK rfl) o10 o10Z o10E o10K o9 o9Z o9E o9K (TP_fr f8 (fun _ => rfl) hy0) (by (first | decide +kernel | omega))) (fun z679 h680 z679Z z679E p681 => ?_)
                obtain ⟨hI682, fh680, o684, o684Z, o684E, o684K, o685, o685Z, o685E, o685K, o686, o686Z, o686E, o686K, o687, o687Z, o687E, o687K, o688, o688Z, o688E, o688K, o689, o689Z, o689E, o689K, o690, o690Z, o690E, o690K, p681⟩ := p681
                have f683 : fr S_Reader_readLineX h h680 := fr_call f8 fh680 rfl
                have R691 : RC h680 T D := RC_fr fh680 rfl R11
                have g692 : 0 ≤ o685Z ∧ o685Z ≤ 160 := inv_at hI682 o685E o685K.symm rfl
                have g693 : 0 ≤ o686Z ∧ o686Z ≤ 160 := inv_at hI682 o686E o686K.symm rfl
                refine V_if_ne 110 z679E d_Reader_readLine_105 (by decide) (fun c694 => ?_) (fun c694 => ?_)
                ·
                  replace p681 := p681.resolve_right (fun q => by (first | decide +kernel | omega))
                  obtain rfl : o686Z = x_en b uZ := by (first | decide +kernel | omega)
                  obtain rfl : o690Z = x_nn b uZ := by (first | decide +kernel | omega)
                  refine V_iconst 0 d_Reader_readLine_110 (by decide) ?_
                  refine V_istore_n 2 [some (.ref 88), some (.int 8), some (.int 0)] d_Reader_readLine_111 rfl (by decide) rfl rfl ?_
                  refine V_iload_n 2 d_Reader_readLine_112 rfl rfl ?_
                  refine V_gets (v := .ref 132) zN ws_Reader_106 d_Reader_readLine_113 ?_
                  refine V_iload_n 1 d_Reader_readLine_116 rfl rfl ?_
                  refine V_tald roN tc_8 (by decide) d_Reader_readLine_117 (fun z695 z695Z z695E z695e => ?_)
                  obtain rfl : z695 = 1 := z695e.trans rfl
                  refine V_icmp_ge 138 tc_0 tc_1 d_Reader_readLine_118 (by decide) (fun c696 => ?_) (fun c696 => ?_)
                  ·
                    exact absurd c696 (by decide)
                  ·
                    refine V_aload_n 0 d_Reader_readLine_121 rfl rfl ?_
                    refine V_iload_n 1 d_Reader_readLine_122 rfl rfl ?_
                    refine V_iload_n 2 d_Reader_readLine_123 rfl rfl ?_
                    refine N_callVI [.int 8, .int 0] [] cv_Reader_109 sk_88 rfl d_Reader_readLine_124 rfl (Nat.le_of_ble_eq_true rfl) (by decide) (by decide) (c_Reader_readNumberX_8_0 h680 b T hI682 s sZ sE (kn_call fh680 (kn_call fh5 sK rfl) rfl) o686 ((x_en b uZ)) o686E o686K o689 o689Z o689E o689K o688 o688Z o688E o688K (TP_fr f683 (fun _ => rfl) hy0) (by (first | decide +kernel | omega))) (fun z697 h698 z697Z z697E p699 => ?_)
                    obtain ⟨hI700, fh698, o702, o702Z, o702E, o702K, o703, o703Z, o703E, o703K, o704, o704Z, o704E, o704K, o705, o705Z, o705E, o705K, o706, o706Z, o706E, o706K, o707, o707Z, o707E, o707K, o708, o708Z, o708E, o708K, p699⟩ := p699
                    have f701 : fr S_Reader_readLineX h h698 := fr_call f683 fh698 rfl
                    have R709 : RC h698 T D := RC_fr fh698 rfl R691
                    have g710 : 0 ≤ o703Z ∧ o703Z ≤ 160 := inv_at hI700 o703E o703K.symm rfl
                    have g711 : 0 ≤ o704Z ∧ o704Z ≤ 160 := inv_at hI700 o704E o704K.symm rfl
                    refine V_if_ne 132 z697E d_Reader_readLine_127 (by decide) (fun c712 => ?_) (fun c712 => ?_)
                    ·
                      replace p699 := p699.resolve_right (fun q => by (first | decide +kernel | omega))
                      obtain rfl : o704Z = x_en b ((x_en b uZ)) := by (first | decide +kernel | omega)
                      obtain rfl : o708Z = x_vl b ((x_en b uZ)) := by (first | decide +kernel | omega)
                      refine V_iinc (v := 1) 2 [some (.ref 88), some (.int 8), some (.int 1)] d_Reader_readLine_132 rfl (by decide) (by decide) rfl rfl ?_
                      refine V_goto 112 d_Reader_readLine_135 (by decide) ?_
                      refine V_iload_n 2 d_Reader_readLine_112 rfl rfl ?_
                      refine V_gets (v := .ref 132) zN ws_Reader_106 d_Reader_readLine_113 ?_
                      refine V_iload_n 1 d_Reader_readLine_116 rfl rfl ?_
                      refine V_tald roN tc_8 (by decide) d_Reader_readLine_117 (fun z714 z714Z z714E z714e => ?_)
                      obtain rfl : z714 = 1 := z714e.trans rfl
                      refine V_icmp_ge 138 tc_1 tc_1 d_Reader_readLine_118 (by decide) (fun c715 => ?_) (fun c715 => ?_)
                      ·
                        refine V_aload_n 0 d_Reader_readLine_138 rfl rfl ?_
                        refine V_getR fa_Reader_12 sk_88 rfl d_Reader_readLine_139 ?_
                        refine N_callVV [] [] cv_Reader_48 sk_89 rfl d_Reader_readLine_142 rfl (Nat.le_of_ble_eq_true rfl) (by decide) (by decide) (c_Tape_advanceX h698 b hI700 s sZ sE (kn_call fh698 (kn_call fh680 (kn_call fh5 sK rfl) rfl) rfl) o704 ((x_en b ((x_en b uZ)))) o704E o704K (TP_fr f701 (fun _ => rfl) hy0) (by (first | decide +kernel | omega))) (fun h717 p718 => ?_)
                        obtain ⟨hI719, fh717, o721, o721Z, o721E, o721K, o722, o722Z, o722E, o722K, o723, o723Z, o723E, o723K, o724, o724Z, o724E, o724K, p718⟩ := p718
                        have f720 : fr S_Reader_readLineX h h717 := fr_call f701 fh717 rfl
                        have R725 : RC h717 T D := RC_fr fh717 rfl R709
                        have g726 : 0 ≤ o722Z ∧ o722Z ≤ 160 := inv_at hI719 o722E o722K.symm rfl
                        have g727 : 0 ≤ o723Z ∧ o723Z ≤ 160 := inv_at hI719 o723E o723K.symm rfl
                        refine V_aload_n 0 d_Reader_readLine_145 rfl rfl ?_
                        refine V_iconst 3 d_Reader_readLine_146 (by decide) ?_
                        refine N_callVI [.int 3] [] cv_Reader_84 sk_88 rfl d_Reader_readLine_147 rfl (Nat.le_of_ble_eq_true rfl) (by decide) (by decide) (c_Reader_isKindX h717 hI719 3 3 tc_3 o721 o721Z o721E o721K o722 o722Z o722E o722K o707 o707Z o707E (kn_call fh717 o707K rfl) o706 o706Z o706E (kn_call fh717 o706K rfl)) (fun z728 h729 z728Z z728E p730 => ?_)
                        obtain ⟨hI731, fh729, o733, o733Z, o733E, o733K, o734, o734Z, o734E, o734K, p730⟩ := p730
                        have f732 : fr S_Reader_readLineX h h729 := fr_call f720 fh729 rfl
                        have R735 : RC h729 T D := RC_fr fh729 rfl R725
                        refine V_if_ne 155 z728E d_Reader_readLine_150 (by decide) (fun c736 => ?_) (fun c736 => ?_)
                        ·
                          replace p730 := kd_y p730 (by (first | decide +kernel | omega))
                          replace p718 := adv_m 3 p718 (by (first | decide +kernel | omega)) (by decide)
                          have hS : x_cS b (x_en b ((x_en b uZ))) = 0 := cS_of p718.2.2.1
                          have g737 := x_cK_s b uZ
                          have g740 := cN_0 (show x_cN b (x_en b uZ) 1 9 = 0 by (first | decide +kernel | omega))
                          refine V_aload_n 0 d_Reader_readLine_155 rfl rfl ?_
                          refine V_iload_n 1 d_Reader_readLine_156 rfl rfl ?_
                          obtain ⟨z749, z749Z, z749E, z749e⟩ : ∃ (y : Int32) (Y : Int), y.toInt = Y ∧ y = h729.1 75 4 := ⟨_, _, rfl, rfl⟩
                          have g750 : 0 ≤ z749Z ∧ z749Z ≤ 8 := inv_at hI731 z749E z749e rfl
                          refine N_callVV [.int 8] [] cv_Reader_112 sk_88 rfl d_Reader_readLine_157 rfl (Nat.le_of_ble_eq_true rfl) (by decide) (by decide) (c_Reader_tellLineX_8 h729 T D hI731 o708 ((x_vl b ((x_en b uZ)))) o708E (kn_call fh729 (kn_call fh717 o708K rfl) rfl) z674 z674Z z674E (kn_call fh729 (kn_call fh717 (kn_call fh698 (kn_call fh680 z674e.symm rfl) rfl) rfl) rfl) z749 z749Z z749E z749e.symm o690 ((x_nn b uZ)) o690E (kn_call fh729 (kn_call fh717 (kn_call fh698 o690K rfl) rfl) rfl) R735 (by (first | decide +kernel | omega))) (fun h752 p753 => ?_)
                          obtain ⟨hI754, fh752, p753⟩ := p753
                          have f755 : fr S_Reader_readLineX h h752 := fr_call f732 fh752 rfl
                          have qR := p753
                          refine V_iconst 1 d_Reader_readLine_160 (by decide) ?_
                          exact V_zret rfl (by decide) d_Reader_readLine_161 ⟨1, rfl, ⟨hI754, f755, o723, o723Z, o723E, (kn_call fh752 (kn_call fh729 o723K rfl) rfl), o733, o733Z, o733E, (kn_call fh752 o733K rfl), o734, o734Z, o734E, (kn_call fh752 o734K rfl), (Or.inl ⟨rfl, ((x_line_8 (u := uZ) (by (first | decide +kernel | omega)) hH hL).trans (by unfold x_l8; rw [x_sq_n (c := x_cK b uZ) (by (first | decide +kernel | omega)), x_sq_n (c := x_cN b (x_en b uZ) 1 9) (by (first | decide +kernel | omega)), x_sq_n (c := x_cS b (x_en b (x_en b uZ))) (by (first | decide +kernel | omega))])).trans (pq rfl (by (first | decide +kernel | omega))), by (first | decide +kernel | omega), by (first | decide +kernel | omega), by (first | decide +kernel | omega), by rw [x_T_8 T (u := uZ) (by (first | decide +kernel | omega)) hL, x_D_8 D (u := uZ) (by (first | decide +kernel | omega)) hL]; exact qR⟩)⟩⟩
                        ·
                          replace p730 := kd_n p730 (by (first | decide +kernel | omega))
                          replace p718 := adv_0 p718
                          refine V_iconst 0 d_Reader_readLine_153 (by decide) ?_
                          exact V_zret rfl (by decide) d_Reader_readLine_154 ⟨0, rfl, ⟨hI731, f732, o723, o723Z, o723E, (kn_call fh729 o723K rfl), o733, o733Z, o733E, o733K, o734, o734Z, o734E, o734K, (by have q := x_cS_s b (x_en b (x_en b uZ)); exact Or.inr ⟨tc_0, ((x_line_8 (u := uZ) (by (first | decide +kernel | omega)) hH hL).trans (by unfold x_l8; rw [x_sq_n (c := x_cK b uZ) (by (first | decide +kernel | omega)), x_sq_n (c := x_cN b (x_en b uZ) 1 9) (by (first | decide +kernel | omega)), x_sq_y (c := x_cS b (x_en b (x_en b uZ))) (by (first | decide +kernel | omega))])).trans (pq (by (first | decide +kernel | omega)) (by (first | decide +kernel | omega))), by (first | decide +kernel | omega)⟩)⟩⟩
                      ·
                        exact absurd c715 (by decide)
                    ·
                      replace p699 := p699.resolve_left (fun q => by (first | decide +kernel | omega))
                      refine V_iconst 0 d_Reader_readLine_130 (by decide) ?_
                      exact V_zret rfl (by decide) d_Reader_readLine_131 ⟨0, rfl, ⟨hI700, f701, o704, o704Z, o704E, o704K, o706, o706Z, o706E, o706K, o707, o707Z, o707E, o707K, (by exact Or.inr ⟨tc_0, ((x_line_8 (u := uZ) (by (first | decide +kernel | omega)) hH hL).trans (by unfold x_l8; rw [x_sq_n (c := x_cK b uZ) (by (first | decide +kernel | omega)), x_sq_y (c := x_cN b (x_en b uZ) 1 9) (by (first | decide +kernel | omega))])).trans (pq (by (first | decide +kernel | omega)) (by (first | decide +kernel | omega))), by (first | decide +kernel | omega)⟩)⟩⟩
                ·
                  replace p681 := p681.resolve_left (fun q => by (first | decide +kernel | omega))
                  refine V_iconst 0 d_Reader_readLine_108 (by decide) ?_
                  exact V_zret rfl (by decide) d_Reader_readLine_109 ⟨0, rfl, ⟨hI682, f683, o686, o686Z, o686E, o686K, o688, o688Z, o688E, o688K, o689, o689Z, o689E, o689K, (by exact Or.inr ⟨tc_0, ((x_line_8 (u := uZ) (by (first | decide +kernel | omega)) hH hL).trans (by unfold x_l8; rw [x_sq_y (c := x_cK b uZ) (by (first | decide +kernel | omega))])).trans (pq (by (first | decide +kernel | omega)) (by (first | decide +kernel | omega))), by (first | decide +kernel | omega)⟩)⟩⟩
            ·
              exact absurd c677 (by decide)
          ·
            replace g675 := g675.resolve_left (by (first | decide +kernel | omega))
            refine V_aload_n 0 d_Reader_readLine_48 rfl rfl ?_
            refine V_iconst 4 d_Reader_readLine_49 (by decide) ?_
            refine V_aload_n 0 d_Reader_readLine_50 rfl rfl ?_
            refine V_getR fa_Reader_12 sk_88 rfl d_Reader_readLine_51 ?_
            refine N_getK fa_Reader_81 sk_89 rfl d_Reader_readLine_54 (kn_call fh5 fK rfl) ?_
            refine N_callVI [.int 4, .int f] [] cv_Reader_64 sk_88 rfl d_Reader_readLine_57 rfl (Nat.le_of_ble_eq_true rfl) (by decide) (by decide) (c_Reader_isRefusedX h5 hI7 4 4 tc_4 f fZ fE) (fun z756 h757 z756Z z756E p758 => ?_)
            obtain ⟨hI759, fh757, o761, o761Z, o761E, o761K, o762, o762Z, o762E, o762K, p758⟩ := p758
            have f760 : fr S_Reader_readLineX h h757 := fr_call f8 fh757 rfl
            have R763 : RC h757 T D := RC_fr fh757 rfl R11
            exact V_zret rfl (by rw [z756E]; omega) d_Reader_readLine_60 ⟨z756, rfl, ⟨hI759, f760, u, uZ, uE, (kn_call fh757 (kn_call fh5 uK rfl) rfl), o761, o761Z, o761E, o761K, o762, o762Z, o762E, o762K, (by have hc9 : x_cH b T (D 86) p0 = 4 := cH_4 (by (first | decide +kernel | omega)) (by (first | decide +kernel | omega)) (by rw [hL]; omega); exact Or.inr ⟨by (first | decide +kernel | omega), (x_line_H (by rw [hc9]; decide)).trans (pq (by rw [hc9]; omega) (by (first | decide +kernel | omega))), by (first | decide +kernel | omega)⟩)⟩⟩
      ·
        obtain rfl : z13 = 9 := (ti_eq z13E tc_9).mpr c18
        subst c18
        have hL : x_li b p0 = 9 := by (first | decide +kernel | omega)
        refine V_iload_n 1 d_Reader_readLine_32 rfl rfl ?_
        refine N_callSI [.int 9] [] cs_Reader_91 d_Reader_readLine_33 rfl (Nat.le_of_ble_eq_true rfl) (by decide) (by decide) (c_Reader_isOnceOnlyX_9 h5) (fun z764 h765 z764Z z764E p766 => ?_)
        obtain ⟨eh765, p766⟩ := p766
        subst eh765
        refine V_if_eq 61 z764E d_Reader_readLine_36 (by decide) (fun c767 => ?_) (fun c767 => ?_)
        ·
          refine V_iload_n 1 d_Reader_readLine_61 rfl rfl ?_
          refine V_bipush 9 d_Reader_readLine_62 (by decide) ?_
          refine V_icmp_ne 95 tc_9 tc_9 d_Reader_readLine_64 (by decide) (fun c768 => ?_) (fun c768 => ?_)
          ·
            exact absurd c768 (by decide)
          ·
            refine V_aload_n 0 d_Reader_readLine_67 rfl rfl ?_
            refine V_getR fa_Reader_21 sk_88 rfl d_Reader_readLine_68 ?_
            refine V_getR fa_Reader_94 sk_68 rfl d_Reader_readLine_71 ?_
            refine N_getI fa_Reader_98 sk_75 rfl d_Reader_readLine_74 (fun z769 z769Z z769E z769e => ?_)
            have g770 : 0 ≤ z769Z ∧ z769Z ≤ 8 := inv_at hI7 z769E z769e rfl
            refine V_bipush 8 d_Reader_readLine_77 (by decide) ?_
            have g771 : z769Z = D 86 := by have q := R11.2.1 75 4 86 rfl; rw [← z769e, z769E] at q; exact q
            refine V_icmp_lt 95 z769E tc_8 d_Reader_readLine_79 (by decide) (fun c772 => ?_) (fun c772 => ?_)
            ·
              have hH : x_cH b T (D 86) p0 = 0 := cH_0 (by (first | decide +kernel | omega)) (by (first | decide +kernel | omega)) (by rw [hL]; omega) (by (first | decide +kernel | omega))
              refine V_iload_n 1 d_Reader_readLine_95 rfl rfl ?_
              refine V_bipush 8 d_Reader_readLine_96 (by decide) ?_
              refine V_icmp_ne 110 tc_9 tc_8 d_Reader_readLine_98 (by decide) (fun c773 => ?_) (fun c773 => ?_)
              ·
                refine V_iconst 0 d_Reader_readLine_110 (by decide) ?_
                refine V_istore_n 2 [some (.ref 88), some (.int 9), some (.int 0)] d_Reader_readLine_111 rfl (by decide) rfl rfl ?_
                refine V_iload_n 2 d_Reader_readLine_112 rfl rfl ?_
                refine V_gets (v := .ref 132) zN ws_Reader_106 d_Reader_readLine_113 ?_
                refine V_iload_n 1 d_Reader_readLine_116 rfl rfl ?_
                refine V_tald roN tc_9 (by decide) d_Reader_readLine_117 (fun z774 z774Z z774E z774e => ?_)
                obtain rfl : z774 = 3 := z774e.trans rfl
                refine V_icmp_ge 138 tc_0 tc_3 d_Reader_readLine_118 (by decide) (fun c775 => ?_) (fun c775 => ?_)
                ·
                  exact absurd c775 (by decide)
                ·
                  refine V_aload_n 0 d_Reader_readLine_121 rfl rfl ?_
                  refine V_iload_n 1 d_Reader_readLine_122 rfl rfl ?_
                  refine V_iload_n 2 d_Reader_readLine_123 rfl rfl ?_
                  refine N_callVI [.int 9, .int 0] [] cv_Reader_109 sk_88 rfl d_Reader_readLine_124 rfl (Nat.le_of_ble_eq_true rfl) (by decide) (by decide) (c_Reader_readNumberX_9_0 h5 b T hI7 s sZ sE (kn_call fh5 sK rfl) u uZ uE (kn_call fh5 uK rfl) o10 o10Z o10E o10K o9 o9Z o9E o9K (TP_fr f8 (fun _ => rfl) hy0) (by (first | decide +kernel | omega))) (fun z776 h777 z776Z z776E p778 => ?_)
                  obtain ⟨hI779, fh777, o781, o781Z, o781E, o781K, o782, o782Z, o782E, o782K, o783, o783Z, o783E, o783K, o784, o784Z, o784E, o784K, o785, o785Z, o785E, o785K, o786, o786Z, o786E, o786K, o787, o787Z, o787E, o787K, p778⟩ := p778
                  have f780 : fr S_Reader_readLineX h h777 := fr_call f8 fh777 rfl
                  have R788 : RC h777 T D := RC_fr fh777 rfl R11
                  have g789 : 0 ≤ o782Z ∧ o782Z ≤ 160 := inv_at hI779 o782E o782K.symm rfl
                  have g790 : 0 ≤ o783Z ∧ o783Z ≤ 160 := inv_at hI779 o783E o783K.symm rfl
                  refine V_if_ne 132 z776E d_Reader_readLine_127 (by decide) (fun c791 => ?_) (fun c791 => ?_)
                  ·
                    replace p778 := p778.resolve_right (fun q => by (first | decide +kernel | omega))
                    obtain rfl : o783Z = x_en b uZ := by (first | decide +kernel | omega)
                    obtain rfl : o787Z = x_vl b uZ := by (first | decide +kernel | omega)
                    refine V_iinc (v := 1) 2 [some (.ref 88), some (.int 9), some (.int 1)] d_Reader_readLine_132 rfl (by decide) (by decide) rfl rfl ?_
                    refine V_goto 112 d_Reader_readLine_135 (by decide) ?_
                    refine V_iload_n 2 d_Reader_readLine_112 rfl rfl ?_
                    refine V_gets (v := .ref 132) zN ws_Reader_106 d_Reader_readLine_113 ?_
                    refine V_iload_n 1 d_Reader_readLine_116 rfl rfl ?_
                    refine V_tald roN tc_9 (by decide) d_Reader_readLine_117 (fun z793 z793Z z793E z793e => ?_)
                    obtain rfl : z793 = 3 := z793e.trans rfl
                    refine V_icmp_ge 138 tc_1 tc_3 d_Reader_readLine_118 (by decide) (fun c794 => ?_) (fun c794 => ?_)
                    ·
                      exact absurd c794 (by decide)
                    ·
                      refine V_aload_n 0 d_Reader_readLine_121 rfl rfl ?_
                      refine V_iload_n 1 d_Reader_readLine_122 rfl rfl ?_
                      refine V_iload_n 2 d_Reader_readLine_123 rfl rfl ?_
                      refine N_callVI [.int 9, .int 1] [] cv_Reader_109 sk_88 rfl d_Reader_readLine_124 rfl (Nat.le_of_ble_eq_true rfl) (by decide) (by decide) (c_Reader_readNumberX_9_1 h777 b T hI779 s sZ sE (kn_call fh777 (kn_call fh5 sK rfl) rfl) o783 ((x_en b uZ)) o783E o783K o786 o786Z o786E o786K o785 o785Z o785E o785K o787 ((x_vl b uZ)) o787E o787K (TP_fr f780 (fun _ => rfl) hy0) (by (first | decide +kernel | omega))) (fun z795 h796 z795Z z795E p797 => ?_)
                      obtain ⟨hI798, fh796, o800, o800Z, o800E, o800K, o801, o801Z, o801E, o801K, o802, o802Z, o802E, o802K, o803, o803Z, o803E, o803K, o804, o804Z, o804E, o804K, o805, o805Z, o805E, o805K, o806, o806Z, o806E, o806K, p797⟩ := p797
                      have f799 : fr S_Reader_readLineX h h796 := fr_call f780 fh796 rfl
                      have R807 : RC h796 T D := RC_fr fh796 rfl R788
                      have g808 : 0 ≤ o801Z ∧ o801Z ≤ 160 := inv_at hI798 o801E o801K.symm rfl
                      have g809 : 0 ≤ o802Z ∧ o802Z ≤ 160 := inv_at hI798 o802E o802K.symm rfl
                      refine V_if_ne 132 z795E d_Reader_readLine_127 (by decide) (fun c810 => ?_) (fun c810 => ?_)
                      ·
                        replace p797 := p797.resolve_right (fun q => by (first | decide +kernel | omega))
                        obtain rfl : o802Z = x_en b ((x_en b uZ)) := by (first | decide +kernel | omega)
                        obtain rfl : o806Z = x_vl b ((x_en b uZ)) := by (first | decide +kernel | omega)
                        refine V_iinc (v := 2) 2 [some (.ref 88), some (.int 9), some (.int 2)] d_Reader_readLine_132 rfl (by decide) (by decide) rfl rfl ?_
                        refine V_goto 112 d_Reader_readLine_135 (by decide) ?_
                        refine V_iload_n 2 d_Reader_readLine_112 rfl rfl ?_
                        refine V_gets (v := .ref 132) zN ws_Reader_106 d_Reader_readLine_113 ?_
                        refine V_iload_n 1 d_Reader_readLine_116 rfl rfl ?_
                        refine V_tald roN tc_9 (by decide) d_Reader_readLine_117 (fun z812 z812Z z812E z812e => ?_)
                        obtain rfl : z812 = 3 := z812e.trans rfl
                        refine V_icmp_ge 138 tc_2 tc_3 d_Reader_readLine_118 (by decide) (fun c813 => ?_) (fun c813 => ?_)
                        ·
                          exact absurd c813 (by decide)
                        ·
                          refine V_aload_n 0 d_Reader_readLine_121 rfl rfl ?_
                          refine V_iload_n 1 d_Reader_readLine_122 rfl rfl ?_
                          refine V_iload_n 2 d_Reader_readLine_123 rfl rfl ?_
                          refine N_callVI [.int 9, .int 2] [] cv_Reader_109 sk_88 rfl d_Reader_readLine_124 rfl (Nat.le_of_ble_eq_true rfl) (by decide) (by decide) (c_Reader_readNumberX_9_2 h796 b T hI798 s sZ sE (kn_call fh796 (kn_call fh777 (kn_call fh5 sK rfl) rfl) rfl) o802 ((x_en b ((x_en b uZ)))) o802E o802K o805 o805Z o805E o805K o804 o804Z o804E o804K (TP_fr f799 (fun _ => rfl) hy0) (by (first | decide +kernel | omega))) (fun z814 h815 z814Z z814E p816 => ?_)
                          obtain ⟨hI817, fh815, o819, o819Z, o819E, o819K, o820, o820Z, o820E, o820K, o821, o821Z, o821E, o821K, o822, o822Z, o822E, o822K, o823, o823Z, o823E, o823K, o824, o824Z, o824E, o824K, o825, o825Z, o825E, o825K, p816⟩ := p816
                          have f818 : fr S_Reader_readLineX h h815 := fr_call f799 fh815 rfl
                          have R826 : RC h815 T D := RC_fr fh815 rfl R807
                          have g827 : 0 ≤ o820Z ∧ o820Z ≤ 160 := inv_at hI817 o820E o820K.symm rfl
                          have g828 : 0 ≤ o821Z ∧ o821Z ≤ 160 := inv_at hI817 o821E o821K.symm rfl
                          refine V_if_ne 132 z814E d_Reader_readLine_127 (by decide) (fun c829 => ?_) (fun c829 => ?_)
                          ·
                            replace p816 := p816.resolve_right (fun q => by (first | decide +kernel | omega))
                            obtain rfl : o821Z = x_en b ((x_en b ((x_en b uZ)))) := by (first | decide +kernel | omega)
                            obtain rfl : o825Z = x_vl b ((x_en b ((x_en b uZ)))) := by (first | decide +kernel | omega)
                            refine V_iinc (v := 3) 2 [some (.ref 88), some (.int 9), some (.int 3)] d_Reader_readLine_132 rfl (by decide) (by decide) rfl rfl ?_
                            refine V_goto 112 d_Reader_readLine_135 (by decide) ?_
                            refine V_iload_n 2 d_Reader_readLine_112 rfl rfl ?_
                            refine V_gets (v := .ref 132) zN ws_Reader_106 d_Reader_readLine_113 ?_
                            refine V_iload_n 1 d_Reader_readLine_116 rfl rfl ?_
                            refine V_tald roN tc_9 (by decide) d_Reader_readLine_117 (fun z831 z831Z z831E z831e => ?_)
                            obtain rfl : z831 = 3 := z831e.trans rfl
                            refine V_icmp_ge 138 tc_3 tc_3 d_Reader_readLine_118 (by decide) (fun c832 => ?_) (fun c832 => ?_)
                            ·
                              refine V_aload_n 0 d_Reader_readLine_138 rfl rfl ?_
                              refine V_getR fa_Reader_12 sk_88 rfl d_Reader_readLine_139 ?_
                              refine N_callVV [] [] cv_Reader_48 sk_89 rfl d_Reader_readLine_142 rfl (Nat.le_of_ble_eq_true rfl) (by decide) (by decide) (c_Tape_advanceX h815 b hI817 s sZ sE (kn_call fh815 (kn_call fh796 (kn_call fh777 (kn_call fh5 sK rfl) rfl) rfl) rfl) o821 ((x_en b ((x_en b ((x_en b uZ)))))) o821E o821K (TP_fr f818 (fun _ => rfl) hy0) (by (first | decide +kernel | omega))) (fun h834 p835 => ?_)
                              obtain ⟨hI836, fh834, o838, o838Z, o838E, o838K, o839, o839Z, o839E, o839K, o840, o840Z, o840E, o840K, o841, o841Z, o841E, o841K, p835⟩ := p835
                              have f837 : fr S_Reader_readLineX h h834 := fr_call f818 fh834 rfl
                              have R842 : RC h834 T D := RC_fr fh834 rfl R826
                              have g843 : 0 ≤ o839Z ∧ o839Z ≤ 160 := inv_at hI836 o839E o839K.symm rfl
                              have g844 : 0 ≤ o840Z ∧ o840Z ≤ 160 := inv_at hI836 o840E o840K.symm rfl
                              refine V_aload_n 0 d_Reader_readLine_145 rfl rfl ?_
                              refine V_iconst 3 d_Reader_readLine_146 (by decide) ?_
                              refine N_callVI [.int 3] [] cv_Reader_84 sk_88 rfl d_Reader_readLine_147 rfl (Nat.le_of_ble_eq_true rfl) (by decide) (by decide) (c_Reader_isKindX h834 hI836 3 3 tc_3 o838 o838Z o838E o838K o839 o839Z o839E o839K o824 o824Z o824E (kn_call fh834 o824K rfl) o823 o823Z o823E (kn_call fh834 o823K rfl)) (fun z845 h846 z845Z z845E p847 => ?_)
                              obtain ⟨hI848, fh846, o850, o850Z, o850E, o850K, o851, o851Z, o851E, o851K, p847⟩ := p847
                              have f849 : fr S_Reader_readLineX h h846 := fr_call f837 fh846 rfl
                              have R852 : RC h846 T D := RC_fr fh846 rfl R842
                              refine V_if_ne 155 z845E d_Reader_readLine_150 (by decide) (fun c853 => ?_) (fun c853 => ?_)
                              ·
                                replace p847 := kd_y p847 (by (first | decide +kernel | omega))
                                replace p835 := adv_m 3 p835 (by (first | decide +kernel | omega)) (by decide)
                                have hS : x_cS b (x_en b ((x_en b ((x_en b uZ))))) = 0 := cS_of p835.2.2.1
                                have g854 := cN_0 (show x_cN b uZ 0 3 = 0 by (first | decide +kernel | omega))
                                have g858 := cN_0 (show x_cN b (x_en b uZ) 0 3 = 0 by (first | decide +kernel | omega))
                                have g862 := cN_0 (show x_cN b (x_en b (x_en b uZ)) 1 99 = 0 by (first | decide +kernel | omega))
                                refine V_aload_n 0 d_Reader_readLine_155 rfl rfl ?_
                                refine V_iload_n 1 d_Reader_readLine_156 rfl rfl ?_
                                obtain ⟨z872, z872Z, z872E, z872e⟩ : ∃ (y : Int32) (Y : Int), y.toInt = Y ∧ y = h846.1 92 9 := ⟨_, _, rfl, rfl⟩
                                refine N_callVV [.int 9] [] cv_Reader_112 sk_88 rfl d_Reader_readLine_157 rfl (Nat.le_of_ble_eq_true rfl) (by decide) (by decide) (c_Reader_tellLineX_9 h846 T D hI848 o787 ((x_vl b uZ)) o787E (kn_call fh846 (kn_call fh834 (kn_call fh815 (kn_call fh796 o787K rfl) rfl) rfl) rfl) o806 ((x_vl b ((x_en b uZ)))) o806E (kn_call fh846 (kn_call fh834 (kn_call fh815 o806K rfl) rfl) rfl) o825 ((x_vl b ((x_en b ((x_en b uZ)))))) o825E (kn_call fh846 (kn_call fh834 o825K rfl) rfl) z872 z872Z z872E z872e.symm z769 z769Z z769E (kn_call fh846 (kn_call fh834 (kn_call fh815 (kn_call fh796 (kn_call fh777 z769e.symm rfl) rfl) rfl) rfl) rfl) R852 (by (first | decide +kernel | omega)) (by (first | decide +kernel | omega)) (by (first | decide +kernel | omega)) (by (first | decide +kernel | omega))) (fun h874 p875 => ?_)
                                obtain ⟨hI876, fh874, p875⟩ := p875
                                have f877 : fr S_Reader_readLineX h h874 := fr_call f849 fh874 rfl
                                have qR := p875
                                refine V_iconst 1 d_Reader_readLine_160 (by decide) ?_
                                exact V_zret rfl (by decide) d_Reader_readLine_161 ⟨1, rfl, ⟨hI876, f877, o840, o840Z, o840E, (kn_call fh874 (kn_call fh846 o840K rfl) rfl), o850, o850Z, o850E, (kn_call fh874 o850K rfl), o851, o851Z, o851E, (kn_call fh874 o851K rfl), (Or.inl ⟨rfl, ((x_line_9 (u := uZ) (by (first | decide +kernel | omega)) hH hL).trans (by unfold x_l9; rw [x_sq_n (c := x_cN b uZ 0 3) (by (first | decide +kernel | omega)), x_sq_n (c := x_cN b (x_en b uZ) 0 3) (by (first | decide +kernel | omega)), x_sq_n (c := x_ce (x_vl b (x_en b uZ)) (x_vl b uZ)) (by (first | decide +kernel | omega)), x_sq_n (c := x_cN b (x_en b (x_en b uZ)) 1 99) (by (first | decide +kernel | omega)), x_sq_n (c := x_cS b (x_en b (x_en b (x_en b uZ)))) (by (first | decide +kernel | omega))])).trans (pq rfl (by (first | decide +kernel | omega))), by (first | decide +kernel | omega), by (first | decide +kernel | omega), by (first | decide +kernel | omega), by rw [x_T_9 T (u := uZ) (by (first | decide +kernel | omega)) hL, x_D_9 D (u := uZ) (by (first | decide +kernel | omega)) hL]; exact qR⟩)⟩⟩
                              ·
                                replace p847 := kd_n p847 (by (first | decide +kernel | omega))
                                replace p835 := adv_0 p835
                                refine V_iconst 0 d_Reader_readLine_153 (by decide) ?_
                                exact V_zret rfl (by decide) d_Reader_readLine_154 ⟨0, rfl, ⟨hI848, f849, o840, o840Z, o840E, (kn_call fh846 o840K rfl), o850, o850Z, o850E, o850K, o851, o851Z, o851E, o851K, (by have q := x_cS_s b (x_en b (x_en b (x_en b uZ))); exact Or.inr ⟨tc_0, ((x_line_9 (u := uZ) (by (first | decide +kernel | omega)) hH hL).trans (by unfold x_l9; rw [x_sq_n (c := x_cN b uZ 0 3) (by (first | decide +kernel | omega)), x_sq_n (c := x_cN b (x_en b uZ) 0 3) (by (first | decide +kernel | omega)), x_sq_n (c := x_ce (x_vl b (x_en b uZ)) (x_vl b uZ)) (by (first | decide +kernel | omega)), x_sq_n (c := x_cN b (x_en b (x_en b uZ)) 1 99) (by (first | decide +kernel | omega)), x_sq_y (c := x_cS b (x_en b (x_en b (x_en b uZ)))) (by (first | decide +kernel | omega))])).trans (pq (by (first | decide +kernel | omega)) (by (first | decide +kernel | omega))), by (first | decide +kernel | omega)⟩)⟩⟩
                            ·
                              exact absurd c832 (by decide)
                          ·
                            replace p816 := p816.resolve_left (fun q => by (first | decide +kernel | omega))
                            refine V_iconst 0 d_Reader_readLine_130 (by decide) ?_
                            exact V_zret rfl (by decide) d_Reader_readLine_131 ⟨0, rfl, ⟨hI817, f818, o821, o821Z, o821E, o821K, o823, o823Z, o823E, o823K, o824, o824Z, o824E, o824K, (by exact Or.inr ⟨tc_0, ((x_line_9 (u := uZ) (by (first | decide +kernel | omega)) hH hL).trans (by unfold x_l9; rw [x_sq_n (c := x_cN b uZ 0 3) (by (first | decide +kernel | omega)), x_sq_n (c := x_cN b (x_en b uZ) 0 3) (by (first | decide +kernel | omega)), x_sq_n (c := x_ce (x_vl b (x_en b uZ)) (x_vl b uZ)) (by (first | decide +kernel | omega)), x_sq_y (c := x_cN b (x_en b (x_en b uZ)) 1 99) (by (first | decide +kernel | omega))])).trans (pq (by (first | decide +kernel | omega)) (by (first | decide +kernel | omega))), by (first | decide +kernel | omega)⟩)⟩⟩
                      ·
                        replace p797 := p797.resolve_left (fun q => by (first | decide +kernel | omega))
                        refine V_iconst 0 d_Reader_readLine_130 (by decide) ?_
                        exact V_zret rfl (by decide) d_Reader_readLine_131 ⟨0, rfl, ⟨hI798, f799, o802, o802Z, o802E, o802K, o804, o804Z, o804E, o804K, o805, o805Z, o805E, o805K, (if q9 : x_cN b (x_en b uZ) 0 3 = 0 then Or.inr ⟨tc_0, ((x_line_9 (u := uZ) (by (first | decide +kernel | omega)) hH hL).trans (by unfold x_l9; rw [x_sq_n (c := x_cN b uZ 0 3) (by (first | decide +kernel | omega)), x_sq_n (c := x_cN b (x_en b uZ) 0 3) (by (first | decide +kernel | omega)), x_sq_y (c := x_ce (x_vl b (x_en b uZ)) (x_vl b uZ)) (by (first | decide +kernel | omega))])).trans (pq (by (first | decide +kernel | omega)) (by (first | decide +kernel | omega))), by (first | decide +kernel | omega)⟩ else Or.inr ⟨tc_0, ((x_line_9 (u := uZ) (by (first | decide +kernel | omega)) hH hL).trans (by unfold x_l9; rw [x_sq_n (c := x_cN b uZ 0 3) (by (first | decide +kernel | omega)), x_sq_y (c := x_cN b (x_en b uZ) 0 3) (by (first | decide +kernel | omega))])).trans (pq (by (first | decide +kernel | omega)) (by (first | decide +kernel | omega))), by (first | decide +kernel | omega)⟩)⟩⟩
                  ·
                    replace p778 := p778.resolve_left (fun q => by (first | decide +kernel | omega))
                    refine V_iconst 0 d_Reader_readLine_130 (by decide) ?_
                    exact V_zret rfl (by decide) d_Reader_readLine_131 ⟨0, rfl, ⟨hI779, f780, o783, o783Z, o783E, o783K, o785, o785Z, o785E, o785K, o786, o786Z, o786E, o786K, (by exact Or.inr ⟨tc_0, ((x_line_9 (u := uZ) (by (first | decide +kernel | omega)) hH hL).trans (by unfold x_l9; rw [x_sq_y (c := x_cN b uZ 0 3) (by (first | decide +kernel | omega))])).trans (pq (by (first | decide +kernel | omega)) (by (first | decide +kernel | omega))), by (first | decide +kernel | omega)⟩)⟩⟩
              ·
                exact absurd c773 (by decide)
            ·
              refine V_aload_n 0 d_Reader_readLine_82 rfl rfl ?_
              refine V_iconst 5 d_Reader_readLine_83 (by decide) ?_
              refine V_aload_n 0 d_Reader_readLine_84 rfl rfl ?_
              refine V_getR fa_Reader_12 sk_88 rfl d_Reader_readLine_85 ?_
              refine N_getK fa_Reader_81 sk_89 rfl d_Reader_readLine_88 (kn_call fh5 fK rfl) ?_
              refine N_callVI [.int 5, .int f] [] cv_Reader_64 sk_88 rfl d_Reader_readLine_91 rfl (Nat.le_of_ble_eq_true rfl) (by decide) (by decide) (c_Reader_isRefusedX h5 hI7 5 5 tc_5 f fZ fE) (fun z878 h879 z878Z z878E p880 => ?_)
              obtain ⟨hI881, fh879, o883, o883Z, o883E, o883K, o884, o884Z, o884E, o884K, p880⟩ := p880
              have f882 : fr S_Reader_readLineX h h879 := fr_call f8 fh879 rfl
              have R885 : RC h879 T D := RC_fr fh879 rfl R11
              exact V_zret rfl (by rw [z878E]; omega) d_Reader_readLine_94 ⟨z878, rfl, ⟨hI881, f882, u, uZ, uE, (kn_call fh879 (kn_call fh5 uK rfl) rfl), o883, o883Z, o883E, o883K, o884, o884Z, o884E, o884K, (by have hc9 : x_cH b T (D 86) p0 = 5 := cH_5 (by (first | decide +kernel | omega)) (by (first | decide +kernel | omega)) (by (first | decide +kernel | omega)); exact Or.inr ⟨by (first | decide +kernel | omega), (x_line_H (by rw [hc9]; decide)).trans (pq (by rw [hc9]; omega) (by (first | decide +kernel | omega))), by (first | decide +kernel | omega)⟩)⟩⟩
        ·
          exact absurd c767 (by (first | decide +kernel | omega))
    ·
      refine V_aload_n 0 d_Reader_readLine_19 rfl rfl ?_
      refine V_iconst 2 d_Reader_readLine_20 (by decide) ?_
      refine V_aload_n 0 d_Reader_readLine_21 rfl rfl ?_
      refine V_getR fa_Reader_12 sk_88 rfl d_Reader_readLine_22 ?_
      refine N_getK fa_Reader_81 sk_89 rfl d_Reader_readLine_25 (kn_call fh5 fK rfl) ?_
      refine N_callVI [.int 2, .int f] [] cv_Reader_64 sk_88 rfl d_Reader_readLine_28 rfl (Nat.le_of_ble_eq_true rfl) (by decide) (by decide) (c_Reader_isRefusedX h5 hI7 2 2 tc_2 f fZ fE) (fun z886 h887 z886Z z886E p888 => ?_)
      obtain ⟨hI889, fh887, o891, o891Z, o891E, o891K, o892, o892Z, o892E, o892K, p888⟩ := p888
      have f890 : fr S_Reader_readLineX h h887 := fr_call f8 fh887 rfl
      have R893 : RC h887 T D := RC_fr fh887 rfl R11
      exact V_zret rfl (by rw [z886E]; omega) d_Reader_readLine_31 ⟨z886, rfl, ⟨hI889, f890, u, uZ, uE, (kn_call fh887 (kn_call fh5 uK rfl) rfl), o891, o891Z, o891E, o891K, o892, o892Z, o892E, o892K, (by have hc9 : x_cH b T (D 86) p0 = 2 := cH_2 (by (first | decide +kernel | omega)) (by (first | decide +kernel | omega)); exact Or.inr ⟨by (first | decide +kernel | omega), (x_line_H (by rw [hc9]; decide)).trans (pq (by rw [hc9]; omega) (by (first | decide +kernel | omega))), by (first | decide +kernel | omega)⟩)⟩⟩
  ·
    replace p6 := kd_n p6 (by (first | decide +kernel | omega))
    refine V_iconst 0 d_Reader_readLine_8 (by decide) ?_
    exact V_zret rfl (by decide) d_Reader_readLine_9 ⟨0, rfl, ⟨hI7, f8, u, uZ, uE, (kn_call fh5 uK rfl), o9, o9Z, o9E, o9K, o10, o10Z, o10E, o10K, (by rcases p6 with r9 | r9; have hc9 : x_cH b T (D 86) p0 = 1 := cH_1 (by (first | decide +kernel | omega)); exact Or.inr ⟨tc_0, (x_line_H (by rw [hc9]; decide)).trans (pq (by rw [hc9]; omega) (by (first | decide +kernel | omega))), by (first | decide +kernel | omega)⟩; have hc9 : x_cH b T (D 86) p0 = 2 := cH_2 (by (first | decide +kernel | omega)) (by (first | decide +kernel | omega)); exact Or.inr ⟨tc_0, (x_line_H (by rw [hc9]; decide)).trans (pq (by rw [hc9]; omega) (by (first | decide +kernel | omega))), by (first | decide +kernel | omega)⟩)⟩⟩
end
section
def S_Mod_lookedX : List (Nat × Option Nat) := [(116, some 20), (116, some 21)]
abbrev q_Mod_lookedX (h : Hp) (c : Int32) (cZ : Int) (d : Int32) (dZ : Int) (f : Int32) (fZ : Int) (k : Int32) (kZ : Int) (v : Int32) (vZ : Int) (w : Int32) (wZ : Int) (a : Int32) (aZ : Int) : Option Value → Hp → Prop := pInt (fun r h' => Inv h' ∧ fr S_Mod_lookedX h h' ∧ ∃ (u : Int32) (uZ : Int), u.toInt = uZ ∧ h'.1 116 20 = u ∧ ∃ (y : Int32) (yZ : Int), y.toInt = yZ ∧ h'.1 116 21 = y ∧ (wZ ≠ 0 ∧ uZ = wZ ∧ yZ = aZ ∧ r.toInt = 0 ∨ wZ = 0 ∧ kZ ≠ 2 ∧ uZ = 2 ∧ yZ = fZ ∧ r.toInt = 0 ∨ wZ = 0 ∧ kZ = 2 ∧ (vZ < cZ ∨ dZ < vZ) ∧ uZ = 3 ∧ yZ = fZ ∧ r.toInt = 0 ∨ wZ = 0 ∧ kZ = 2 ∧ cZ ≤ vZ ∧ vZ ≤ dZ ∧ uZ = 0 ∧ yZ = aZ ∧ r.toInt = vZ))
set_option maxRecDepth 100000 in
theorem c_Mod_lookedX (h : Hp) (hI : Inv h) (c : Int32) (cZ : Int) (cE : c.toInt = cZ) (d : Int32) (dZ : Int) (dE : d.toInt = dZ) (f : Int32) (fZ : Int) (fE : f.toInt = fZ) (fK : h.1 116 17 = f) (k : Int32) (kZ : Int) (kE : k.toInt = kZ) (kK : h.1 116 18 = k) (v : Int32) (vZ : Int) (vE : v.toInt = vZ) (vK : h.1 116 19 = v) (w : Int32) (wZ : Int) (wE : w.toInt = wZ) (wK : h.1 116 20 = w) (a : Int32) (aZ : Int) (aE : a.toInt = aZ) (aK : h.1 116 21 = a) : Ct y_Mod_looked b_Mod_looked 3 (some .int) 1 25 [.ref 116, .int c, .int d] h (q_Mod_lookedX h c cZ d dZ f fZ k kZ v vZ w wZ a aZ) := by
  refine ct_ow R_Mod [some (.ref 116), some (.int c), some (.int d)] rfl (by decide) rfl (Nat.le_of_ble_eq_true rfl) ?_
  have f0 : fr S_Mod_lookedX h h := fr_rf
  have g1 : 0 ≤ fZ ∧ fZ ≤ 160 := inv_at hI fE fK.symm rfl
  refine V_aload_n 0 d_Mod_looked_0 rfl rfl ?_
  refine N_getK fa_Mod_102 sk_116 rfl d_Mod_looked_1 wK ?_
  refine V_if_ne 25 wE d_Mod_looked_4 (by decide) (fun c2 => ?_) (fun c2 => ?_)
  ·
    refine V_aload_n 0 d_Mod_looked_25 rfl rfl ?_
    refine N_getK fa_Mod_102 sk_116 rfl d_Mod_looked_26 wK ?_
    refine V_if_ne 49 wE d_Mod_looked_29 (by decide) (fun c3 => ?_) (fun c3 => ?_)
    ·
      refine V_aload_n 0 d_Mod_looked_49 rfl rfl ?_
      refine N_getK fa_Mod_102 sk_116 rfl d_Mod_looked_50 wK ?_
      refine V_if_ne 63 wE d_Mod_looked_53 (by decide) (fun c4 => ?_) (fun c4 => ?_)
      ·
        refine V_iconst 0 d_Mod_looked_63 (by decide) ?_
        exact V_iret rfl d_Mod_looked_64 ⟨0, rfl, ⟨hI, f0, w, wZ, wE, wK, a, aZ, aE, aK, (Or.inl (⟨by (first | decide +kernel | omega), by (first | decide +kernel | omega), by (first | decide +kernel | omega), tc_0⟩))⟩⟩
      ·
        refine V_aload_n 0 d_Mod_looked_56 rfl rfl ?_
        refine N_getK fa_Mod_141 sk_116 rfl d_Mod_looked_57 vK ?_
        refine V_goto 64 d_Mod_looked_60 (by decide) ?_
        exact V_iret rfl d_Mod_looked_64 ⟨v, rfl, ⟨hI, f0, w, wZ, wE, wK, a, aZ, aE, aK, (Or.inr (Or.inr (Or.inr (⟨by (first | decide +kernel | omega), by (first | decide +kernel | omega), by (first | decide +kernel | omega), by (first | decide +kernel | omega), by (first | decide +kernel | omega), by (first | decide +kernel | omega), vE⟩))))⟩⟩
    ·
      refine V_aload_n 0 d_Mod_looked_32 rfl rfl ?_
      refine V_aload_n 0 d_Mod_looked_33 rfl rfl ?_
      refine N_getK fa_Mod_141 sk_116 rfl d_Mod_looked_34 vK ?_
      refine V_i2l d_Mod_looked_37 (fun z5 z5e z5E => ?_)
      have z5F : z5.toInt = vZ := z5E.trans vE
      refine V_iload_n 1 d_Mod_looked_38 rfl rfl ?_
      refine V_i2l d_Mod_looked_39 (fun z6 z6e z6E => ?_)
      have z6F : z6.toInt = cZ := z6E.trans cE
      refine V_iload_n 2 d_Mod_looked_40 rfl rfl ?_
      refine V_i2l d_Mod_looked_41 (fun z7 z7e z7E => ?_)
      have z7F : z7.toInt = dZ := z7E.trans dE
      refine N_callSI [.long z5, .long z6, .long z7] [.ref 116] cs_Mod_95 d_Mod_looked_42 rfl (Nat.le_of_ble_eq_true rfl) (by decide) (by decide) (c_Mod_in h z5 vZ z5F z6 cZ z6F z7 dZ z7F) (fun z8 h9 z8Z z8E p10 => ?_)
      obtain ⟨eh9, p10⟩ := p10
      subst eh9
      refine V_iconst 3 d_Mod_looked_45 (by decide) ?_
      refine N_callVV [.int z8, .int 3] [] cv_Mod_144 sk_116 rfl d_Mod_looked_46 rfl (Nat.le_of_ble_eq_true rfl) (by decide) (by decide) (c_Mod_needsX h hI z8 z8Z z8E 3 3 tc_3 f fZ fE fK w wZ wE wK a aZ aE aK) (fun h12 p13 => ?_)
      obtain ⟨hI14, fh12, o16, o16Z, o16E, o16K, o17, o17Z, o17E, o17K, p13⟩ := p13
      have f15 : fr S_Mod_lookedX h h12 := fr_call f0 fh12 rfl
      refine V_aload_n 0 d_Mod_looked_49 rfl rfl ?_
      refine N_getK fa_Mod_102 sk_116 rfl d_Mod_looked_50 o16K ?_
      refine V_if_ne 63 o16E d_Mod_looked_53 (by decide) (fun c18 => ?_) (fun c18 => ?_)
      ·
        refine V_iconst 0 d_Mod_looked_63 (by decide) ?_
        exact V_iret rfl d_Mod_looked_64 ⟨0, rfl, ⟨hI14, f15, o16, o16Z, o16E, o16K, o17, o17Z, o17E, o17K, (Or.inl (⟨by (first | decide +kernel | omega), by (first | decide +kernel | omega), by (first | decide +kernel | omega), tc_0⟩))⟩⟩
      ·
        refine V_aload_n 0 d_Mod_looked_56 rfl rfl ?_
        refine N_getK fa_Mod_141 sk_116 rfl d_Mod_looked_57 (kn_call fh12 vK rfl) ?_
        refine V_goto 64 d_Mod_looked_60 (by decide) ?_
        exact V_iret rfl d_Mod_looked_64 ⟨v, rfl, ⟨hI14, f15, o16, o16Z, o16E, o16K, o17, o17Z, o17E, o17K, (Or.inr (Or.inr (Or.inr (⟨by (first | decide +kernel | omega), by (first | decide +kernel | omega), by (first | decide +kernel | omega), by (first | decide +kernel | omega), by (first | decide +kernel | omega), by (first | decide +kernel | omega), vE⟩))))⟩⟩
  ·
    refine V_aload_n 0 d_Mod_looked_7 rfl rfl ?_
    refine V_aload_n 0 d_Mod_looked_8 rfl rfl ?_
    refine N_getK fa_Mod_130 sk_116 rfl d_Mod_looked_9 kK ?_
    refine V_iconst 2 d_Mod_looked_12 (by decide) ?_
    refine V_icmp_ne 20 kE tc_2 d_Mod_looked_13 (by decide) (fun c19 => ?_) (fun c19 => ?_)
    ·
      refine V_iconst 0 d_Mod_looked_20 (by decide) ?_
      refine V_iconst 2 d_Mod_looked_21 (by decide) ?_
      refine N_callVV [.int 0, .int 2] [] cv_Mod_144 sk_116 rfl d_Mod_looked_22 rfl (Nat.le_of_ble_eq_true rfl) (by decide) (by decide) (c_Mod_needsX h hI 0 0 tc_0 2 2 tc_2 f fZ fE fK w wZ wE wK a aZ aE aK) (fun h21 p22 => ?_)
      obtain ⟨hI23, fh21, o25, o25Z, o25E, o25K, o26, o26Z, o26E, o26K, p22⟩ := p22
      have f24 : fr S_Mod_lookedX h h21 := fr_call f0 fh21 rfl
      refine V_aload_n 0 d_Mod_looked_25 rfl rfl ?_
      refine N_getK fa_Mod_102 sk_116 rfl d_Mod_looked_26 o25K ?_
      refine V_if_ne 49 o25E d_Mod_looked_29 (by decide) (fun c27 => ?_) (fun c27 => ?_)
      ·
        refine V_aload_n 0 d_Mod_looked_49 rfl rfl ?_
        refine N_getK fa_Mod_102 sk_116 rfl d_Mod_looked_50 o25K ?_
        refine V_if_ne 63 o25E d_Mod_looked_53 (by decide) (fun c28 => ?_) (fun c28 => ?_)
        ·
          refine V_iconst 0 d_Mod_looked_63 (by decide) ?_
          exact V_iret rfl d_Mod_looked_64 ⟨0, rfl, ⟨hI23, f24, o25, o25Z, o25E, o25K, o26, o26Z, o26E, o26K, (Or.inr (Or.inl (⟨by (first | decide +kernel | omega), by (first | decide +kernel | omega), by (first | decide +kernel | omega), by (first | decide +kernel | omega), tc_0⟩)))⟩⟩
        ·
          refine V_aload_n 0 d_Mod_looked_56 rfl rfl ?_
          refine N_getK fa_Mod_141 sk_116 rfl d_Mod_looked_57 (kn_call fh21 vK rfl) ?_
          refine V_goto 64 d_Mod_looked_60 (by decide) ?_
          exact V_iret rfl d_Mod_looked_64 ⟨v, rfl, ⟨hI23, f24, o25, o25Z, o25E, o25K, o26, o26Z, o26E, o26K, (Or.inr (Or.inr (Or.inr (⟨by (first | decide +kernel | omega), by (first | decide +kernel | omega), by (first | decide +kernel | omega), by (first | decide +kernel | omega), by (first | decide +kernel | omega), by (first | decide +kernel | omega), vE⟩))))⟩⟩
      ·
        refine V_aload_n 0 d_Mod_looked_32 rfl rfl ?_
        refine V_aload_n 0 d_Mod_looked_33 rfl rfl ?_
        refine N_getK fa_Mod_141 sk_116 rfl d_Mod_looked_34 (kn_call fh21 vK rfl) ?_
        refine V_i2l d_Mod_looked_37 (fun z29 z29e z29E => ?_)
        have z29F : z29.toInt = vZ := z29E.trans vE
        refine V_iload_n 1 d_Mod_looked_38 rfl rfl ?_
        refine V_i2l d_Mod_looked_39 (fun z30 z30e z30E => ?_)
        have z30F : z30.toInt = cZ := z30E.trans cE
        refine V_iload_n 2 d_Mod_looked_40 rfl rfl ?_
        refine V_i2l d_Mod_looked_41 (fun z31 z31e z31E => ?_)
        have z31F : z31.toInt = dZ := z31E.trans dE
        refine N_callSI [.long z29, .long z30, .long z31] [.ref 116] cs_Mod_95 d_Mod_looked_42 rfl (Nat.le_of_ble_eq_true rfl) (by decide) (by decide) (c_Mod_in h21 z29 vZ z29F z30 cZ z30F z31 dZ z31F) (fun z32 h33 z32Z z32E p34 => ?_)
        obtain ⟨eh33, p34⟩ := p34
        subst eh33
        refine V_iconst 3 d_Mod_looked_45 (by decide) ?_
        refine N_callVV [.int z32, .int 3] [] cv_Mod_144 sk_116 rfl d_Mod_looked_46 rfl (Nat.le_of_ble_eq_true rfl) (by decide) (by decide) (c_Mod_needsX h21 hI23 z32 z32Z z32E 3 3 tc_3 f fZ fE (kn_call fh21 fK rfl) o25 o25Z o25E o25K o26 o26Z o26E o26K) (fun h36 p37 => ?_)
        obtain ⟨hI38, fh36, o40, o40Z, o40E, o40K, o41, o41Z, o41E, o41K, p37⟩ := p37
        have f39 : fr S_Mod_lookedX h h36 := fr_call f24 fh36 rfl
        refine V_aload_n 0 d_Mod_looked_49 rfl rfl ?_
        refine N_getK fa_Mod_102 sk_116 rfl d_Mod_looked_50 o40K ?_
        refine V_if_ne 63 o40E d_Mod_looked_53 (by decide) (fun c42 => ?_) (fun c42 => ?_)
        ·
          refine V_iconst 0 d_Mod_looked_63 (by decide) ?_
          exact V_iret rfl d_Mod_looked_64 ⟨0, rfl, ⟨hI38, f39, o40, o40Z, o40E, o40K, o41, o41Z, o41E, o41K, (Or.inr (Or.inl (⟨by (first | decide +kernel | omega), by (first | decide +kernel | omega), by (first | decide +kernel | omega), by (first | decide +kernel | omega), tc_0⟩)))⟩⟩
        ·
          refine V_aload_n 0 d_Mod_looked_56 rfl rfl ?_
          refine N_getK fa_Mod_141 sk_116 rfl d_Mod_looked_57 (kn_call fh36 (kn_call fh21 vK rfl) rfl) ?_
          refine V_goto 64 d_Mod_looked_60 (by decide) ?_
          exact V_iret rfl d_Mod_looked_64 ⟨v, rfl, ⟨hI38, f39, o40, o40Z, o40E, o40K, o41, o41Z, o41E, o41K, (Or.inr (Or.inr (Or.inr (⟨by (first | decide +kernel | omega), by (first | decide +kernel | omega), by (first | decide +kernel | omega), by (first | decide +kernel | omega), by (first | decide +kernel | omega), by (first | decide +kernel | omega), vE⟩))))⟩⟩
    ·
      refine V_iconst 1 d_Mod_looked_16 (by decide) ?_
      refine V_goto 21 d_Mod_looked_17 (by decide) ?_
      refine V_iconst 2 d_Mod_looked_21 (by decide) ?_
      refine N_callVV [.int 1, .int 2] [] cv_Mod_144 sk_116 rfl d_Mod_looked_22 rfl (Nat.le_of_ble_eq_true rfl) (by decide) (by decide) (c_Mod_needsX h hI 1 1 tc_1 2 2 tc_2 f fZ fE fK w wZ wE wK a aZ aE aK) (fun h44 p45 => ?_)
      obtain ⟨hI46, fh44, o48, o48Z, o48E, o48K, o49, o49Z, o49E, o49K, p45⟩ := p45
      have f47 : fr S_Mod_lookedX h h44 := fr_call f0 fh44 rfl
      refine V_aload_n 0 d_Mod_looked_25 rfl rfl ?_
      refine N_getK fa_Mod_102 sk_116 rfl d_Mod_looked_26 o48K ?_
      refine V_if_ne 49 o48E d_Mod_looked_29 (by decide) (fun c50 => ?_) (fun c50 => ?_)
      ·
        refine V_aload_n 0 d_Mod_looked_49 rfl rfl ?_
        refine N_getK fa_Mod_102 sk_116 rfl d_Mod_looked_50 o48K ?_
        refine V_if_ne 63 o48E d_Mod_looked_53 (by decide) (fun c51 => ?_) (fun c51 => ?_)
        ·
          refine V_iconst 0 d_Mod_looked_63 (by decide) ?_
          exact V_iret rfl d_Mod_looked_64 ⟨0, rfl, ⟨hI46, f47, o48, o48Z, o48E, o48K, o49, o49Z, o49E, o49K, (Or.inr (Or.inr (Or.inl (⟨by (first | decide +kernel | omega), by (first | decide +kernel | omega), by (first | decide +kernel | omega), by (first | decide +kernel | omega), by (first | decide +kernel | omega), tc_0⟩))))⟩⟩
        ·
          refine V_aload_n 0 d_Mod_looked_56 rfl rfl ?_
          refine N_getK fa_Mod_141 sk_116 rfl d_Mod_looked_57 (kn_call fh44 vK rfl) ?_
          refine V_goto 64 d_Mod_looked_60 (by decide) ?_
          exact V_iret rfl d_Mod_looked_64 ⟨v, rfl, ⟨hI46, f47, o48, o48Z, o48E, o48K, o49, o49Z, o49E, o49K, (Or.inr (Or.inr (Or.inr (⟨by (first | decide +kernel | omega), by (first | decide +kernel | omega), by (first | decide +kernel | omega), by (first | decide +kernel | omega), by (first | decide +kernel | omega), by (first | decide +kernel | omega), vE⟩))))⟩⟩
      ·
        refine V_aload_n 0 d_Mod_looked_32 rfl rfl ?_
        refine V_aload_n 0 d_Mod_looked_33 rfl rfl ?_
        refine N_getK fa_Mod_141 sk_116 rfl d_Mod_looked_34 (kn_call fh44 vK rfl) ?_
        refine V_i2l d_Mod_looked_37 (fun z52 z52e z52E => ?_)
        have z52F : z52.toInt = vZ := z52E.trans vE
        refine V_iload_n 1 d_Mod_looked_38 rfl rfl ?_
        refine V_i2l d_Mod_looked_39 (fun z53 z53e z53E => ?_)
        have z53F : z53.toInt = cZ := z53E.trans cE
        refine V_iload_n 2 d_Mod_looked_40 rfl rfl ?_
        refine V_i2l d_Mod_looked_41 (fun z54 z54e z54E => ?_)
        have z54F : z54.toInt = dZ := z54E.trans dE
        refine N_callSI [.long z52, .long z53, .long z54] [.ref 116] cs_Mod_95 d_Mod_looked_42 rfl (Nat.le_of_ble_eq_true rfl) (by decide) (by decide) (c_Mod_in h44 z52 vZ z52F z53 cZ z53F z54 dZ z54F) (fun z55 h56 z55Z z55E p57 => ?_)
        obtain ⟨eh56, p57⟩ := p57
        subst eh56
        refine V_iconst 3 d_Mod_looked_45 (by decide) ?_
        refine N_callVV [.int z55, .int 3] [] cv_Mod_144 sk_116 rfl d_Mod_looked_46 rfl (Nat.le_of_ble_eq_true rfl) (by decide) (by decide) (c_Mod_needsX h44 hI46 z55 z55Z z55E 3 3 tc_3 f fZ fE (kn_call fh44 fK rfl) o48 o48Z o48E o48K o49 o49Z o49E o49K) (fun h59 p60 => ?_)
        obtain ⟨hI61, fh59, o63, o63Z, o63E, o63K, o64, o64Z, o64E, o64K, p60⟩ := p60
        have f62 : fr S_Mod_lookedX h h59 := fr_call f47 fh59 rfl
        refine V_aload_n 0 d_Mod_looked_49 rfl rfl ?_
        refine N_getK fa_Mod_102 sk_116 rfl d_Mod_looked_50 o63K ?_
        refine V_if_ne 63 o63E d_Mod_looked_53 (by decide) (fun c65 => ?_) (fun c65 => ?_)
        ·
          refine V_iconst 0 d_Mod_looked_63 (by decide) ?_
          exact V_iret rfl d_Mod_looked_64 ⟨0, rfl, ⟨hI61, f62, o63, o63Z, o63E, o63K, o64, o64Z, o64E, o64K, (Or.inr (Or.inr (Or.inl (⟨by (first | decide +kernel | omega), by (first | decide +kernel | omega), by (first | decide +kernel | omega), by (first | decide +kernel | omega), by (first | decide +kernel | omega), tc_0⟩))))⟩⟩
        ·
          refine V_aload_n 0 d_Mod_looked_56 rfl rfl ?_
          refine N_getK fa_Mod_141 sk_116 rfl d_Mod_looked_57 (kn_call fh59 (kn_call fh44 vK rfl) rfl) ?_
          refine V_goto 64 d_Mod_looked_60 (by decide) ?_
          exact V_iret rfl d_Mod_looked_64 ⟨v, rfl, ⟨hI61, f62, o63, o63Z, o63E, o63K, o64, o64Z, o64E, o64K, (Or.inr (Or.inr (Or.inr (⟨by (first | decide +kernel | omega), by (first | decide +kernel | omega), by (first | decide +kernel | omega), by (first | decide +kernel | omega), by (first | decide +kernel | omega), by (first | decide +kernel | omega), vE⟩))))⟩⟩
def S_Mod_readNumberX : List (Nat × Option Nat) := [(116, some 16), (116, some 17), (116, some 18), (116, some 19), (116, some 20), (116, some 21)]
abbrev q_Mod_readNumberX (h : Hp) (b : Int → Int) (p0 : Int) (c : Int32) (cZ : Int) (d : Int32) (dZ : Int) (s : Int32) (sZ : Int) (p : Int32) (pZ : Int) (g : Int32) (gZ : Int) (k : Int32) (kZ : Int) (v : Int32) (vZ : Int) (w : Int32) (wZ : Int) (a : Int32) (aZ : Int) : Option Value → Hp → Prop := pInt (fun r h' => Inv h' ∧ fr S_Mod_readNumberX h h' ∧ ∃ (q : Int32) (qZ : Int), q.toInt = qZ ∧ h'.1 116 16 = q ∧ ∃ (f : Int32) (fZ : Int), f.toInt = fZ ∧ h'.1 116 17 = f ∧ ∃ (m : Int32) (mZ : Int), m.toInt = mZ ∧ h'.1 116 18 = m ∧ ∃ (x : Int32) (xZ : Int), x.toInt = xZ ∧ h'.1 116 19 = x ∧ ∃ (u : Int32) (uZ : Int), u.toInt = uZ ∧ h'.1 116 20 = u ∧ ∃ (y : Int32) (yZ : Int), y.toInt = yZ ∧ h'.1 116 21 = y ∧ ((wZ ≠ 0 ∧ uZ = wZ ∧ yZ = aZ ∧ r.toInt = 0 ∨ wZ = 0 ∧ x_cN b p0 cZ dZ ≠ 0 ∧ uZ = x_cN b p0 cZ dZ ∧ yZ = x_fr b p0 ∧ r.toInt = 0 ∨ wZ = 0 ∧ x_cN b p0 cZ dZ = 0 ∧ r.toInt = x_vl b p0 ∧ (uZ = 1 ∧ x_kd b (x_en b p0) = 4 ∧ yZ = x_fr b (x_en b p0) ∨ uZ = 0 ∧ fZ = x_fr b (x_en b p0) ∧ mZ = x_kd b (x_en b p0) ∧ mZ ≠ 4 ∧ 0 ≤ mZ ∧ mZ ≤ 3 ∧ qZ = x_en b (x_en b p0) ∧ (mZ ≠ 2 ∨ xZ = x_vl b (x_en b p0) ∧ 0 ≤ xZ ∧ xZ ≤ 99) ∧ (x_en b p0) ≤ fZ ∧ fZ ≤ qZ ∧ qZ ≤ sZ ∧ (mZ = 0 ∨ fZ < qZ))) ∧ 0 ≤ qZ ∧ qZ ≤ sZ ∧ 0 ≤ uZ))
set_option maxRecDepth 100000 in
theorem c_Mod_readNumberX (h : Hp) (b : Int → Int) (p0 : Int) (hI : Inv h) (c : Int32) (cZ : Int) (cE : c.toInt = cZ) (d : Int32) (dZ : Int) (dE : d.toInt = dZ) (s : Int32) (sZ : Int) (sE : s.toInt = sZ) (sK : h.1 116 15 = s) (p : Int32) (pZ : Int) (pE : p.toInt = pZ) (pK : h.1 116 16 = p) (g : Int32) (gZ : Int) (gE : g.toInt = gZ) (gK : h.1 116 17 = g) (k : Int32) (kZ : Int) (kE : k.toInt = kZ) (kK : h.1 116 18 = k) (v : Int32) (vZ : Int) (vE : v.toInt = vZ) (vK : h.1 116 19 = v) (w : Int32) (wZ : Int) (wE : w.toInt = wZ) (wK : h.1 116 20 = w) (a : Int32) (aZ : Int) (aE : a.toInt = aZ) (aK : h.1 116 21 = a) (hy0 : TP h 121 sZ b) (hy1 : 0 ≤ pZ ∧ pZ ≤ sZ ∧ 0 ≤ wZ) (hy2 : wZ ≠ 0 ∨ (gZ = x_fr b p0 ∧ kZ = x_kd b p0 ∧ kZ ≠ 4 ∧ 0 ≤ kZ ∧ kZ ≤ 3 ∧ pZ = x_en b p0 ∧ (kZ ≠ 2 ∨ vZ = x_vl b p0 ∧ 0 ≤ vZ ∧ vZ ≤ 99) ∧ p0 ≤ gZ ∧ gZ ≤ pZ ∧ pZ ≤ sZ ∧ (kZ = 0 ∨ gZ < pZ))) : Ct y_Mod_readNumber b_Mod_readNumber 4 (some .int) 2 47 [.ref 116, .int c, .int d] h (q_Mod_readNumberX h b p0 c cZ d dZ s sZ p pZ g gZ k kZ v vZ w wZ a aZ) := by
  refine ct_ow R_Mod [some (.ref 116), some (.int c), some (.int d), none] rfl (by decide) rfl (Nat.le_of_ble_eq_true rfl) ?_
  have f0 : fr S_Mod_readNumberX h h := fr_rf
  have g1 : 0 ≤ sZ ∧ sZ ≤ 160 := inv_at hI sE sK.symm rfl
  have g2 : 0 ≤ pZ ∧ pZ ≤ 160 := inv_at hI pE pK.symm rfl
  have g3 : 0 ≤ gZ ∧ gZ ≤ 160 := inv_at hI gE gK.symm rfl
  refine V_aload_n 0 d_Mod_readNumber_0 rfl rfl ?_
  refine V_iload_n 1 d_Mod_readNumber_1 rfl rfl ?_
  refine V_iload_n 2 d_Mod_readNumber_2 rfl rfl ?_
  refine N_callVI [.int c, .int d] [] cv_Mod_148 sk_116 rfl d_Mod_readNumber_3 rfl (Nat.le_of_ble_eq_true rfl) (by decide) (by decide) (c_Mod_lookedX h hI c cZ cE d dZ dE g gZ gE gK k kZ kE kK v vZ vE vK w wZ wE wK a aZ aE aK) (fun z4 h5 z4Z z4E p6 => ?_)
  obtain ⟨hI7, fh5, o9, o9Z, o9E, o9K, o10, o10Z, o10E, o10K, p6⟩ := p6
  have f8 : fr S_Mod_readNumberX h h5 := fr_call f0 fh5 rfl
  refine V_istore_n 3 [some (.ref 116), some (.int c), some (.int d), some (.int z4)] d_Mod_readNumber_6 rfl (by decide) rfl rfl ?_
  refine V_aload_n 0 d_Mod_readNumber_7 rfl rfl ?_
  refine N_callVV [] [] cv_Mod_152 sk_116 rfl d_Mod_readNumber_8 rfl (Nat.le_of_ble_eq_true rfl) (by decide) (by decide) (c_Mod_nextX h5 b hI7 s sZ sE (kn_call fh5 sK rfl) p pZ pE (kn_call fh5 pK rfl) g gZ gE (kn_call fh5 gK rfl) k kZ kE (kn_call fh5 kK rfl) v vZ vE (kn_call fh5 vK rfl) o9 o9Z o9E o9K o10 o10Z o10E o10K (TP_fr f8 (fun _ => rfl) hy0) (by (first | decide +kernel | omega))) (fun h12 p13 => ?_)
  obtain ⟨hI14, fh12, o16, o16Z, o16E, o16K, o17, o17Z, o17E, o17K, o18, o18Z, o18E, o18K, o19, o19Z, o19E, o19K, o20, o20Z, o20E, o20K, o21, o21Z, o21E, o21K, p13⟩ := p13
  have f15 : fr S_Mod_readNumberX h h12 := fr_call f8 fh12 rfl
  have g22 : 0 ≤ o16Z ∧ o16Z ≤ 160 := inv_at hI14 o16E o16K.symm rfl
  have g23 : 0 ≤ o17Z ∧ o17Z ≤ 160 := inv_at hI14 o17E o17K.symm rfl
  refine V_iload_n 3 d_Mod_readNumber_11 rfl rfl ?_
  exact V_iret rfl d_Mod_readNumber_12 ⟨z4, rfl, ⟨hI14, f15, o16, o16Z, o16E, o16K, o17, o17Z, o17E, o17K, o18, o18Z, o18E, o18K, o19, o19Z, o19E, o19K, o20, o20Z, o20E, o20K, o21, o21Z, o21E, o21K, (nu_all hy1 hy2 p6 p13)⟩⟩
end
section
def mof (k i d : Nat) : Prop := k = 119 ∧ i < 144 ∧ d = i ∨ k = 116 ∧ 7 ≤ i ∧ i ≤ 10 ∧ d = 137 + i
def RMd (h : Hp) (D : Nat → Int) : Prop := ∀ k i d : Nat, mof k i d → (h.1 k i).toInt = D d
def RMa (h : Hp) (T : Nat → Int → Int) : Prop := ∀ l : Nat, 1 ≤ l → l ≤ 5 → x_TB (h.1 120 (l - 1)) (T l)
def x_told (T : Nat → Int → Int) (c : Int) : Int := if c = 0 then T 0 0 else if c = 1 then T 6 0 else if c = 2 then T 7 0 else if c = 3 then T 8 0 else 0
def RMb (h : Hp) (T : Nat → Int → Int) : Prop := x_TB (h.1 116 11) (x_told T)
/-- the highest CELL that was told of -/
def x_HI (H : Int) (T : Nat → Int → Int) : Prop := (H = -4 ∨ 0 ≤ H ∧ H ≤ 15 ∧ ∃ l : Nat, 1 ≤ l ∧ l ≤ 4 ∧ T l H ≠ 0) ∧ (∀ (l : Nat) (c : Int), 1 ≤ l → l ≤ 4 → 0 ≤ c → c ≤ 15 → T l c ≠ 0 → c ≤ H)
def RM (h : Hp) (T : Nat → Int → Int) (D : Nat → Int) : Prop := RMa h T ∧ RMb h T ∧ x_HI (h.1 116 13).toInt T ∧ RMd h D
def rmS (S : List (Nat × Option Nat)) : Bool := S.all (fun q => decide (q.1 ≠ 119 ∧ q.1 ≠ 120) && (decide (q.1 ≠ 116) || (match q.2 with | none => false | some j => decide (j < 7 ∨ j = 12 ∨ 13 < j))))
theorem rmS_no {S : List (Nat × Option Nat)} (hc : rmS S = true) {k i : Nat} (hk : k = 119 ∨ k = 120 ∨ k = 116 ∧ 7 ≤ i ∧ i ≤ 13 ∧ i ≠ 12) : inS S k i = false := by
  unfold inS
  rw [List.any_eq_false]
  intro q hq e
  have h1 := List.all_eq_true.mp hc q hq
  rw [Bool.and_eq_true, Bool.or_eq_true] at h1
  rw [Bool.and_eq_true] at e
  have e2 : q.1 = k := eq_of_beq e.1
  have h2 := of_decide_eq_true h1.1
  rcases hk with rfl | rfl | hk
  · omega
  · omega
  · rcases h1.2 with h3 | h3
    · have := of_decide_eq_true h3; omega
    · have e3 := e.2
      cases hz : q.2 with
      | none => rw [hz] at h3; cases h3
      | some j =>
        rw [hz] at h3 e3
        have h4 := of_decide_eq_true h3
        have h5 : j = i := eq_of_beq e3
        omega
theorem RM_at {h h' : Hp} {T : Nat → Int → Int} {D : Nat → Int} (e : ∀ k i : Nat, (k = 119 ∨ k = 120 ∨ k = 116 ∧ 7 ≤ i ∧ i ≤ 13 ∧ i ≠ 12) → h'.1 k i = h.1 k i) (r : RM h T D) : RM h' T D := by
  obtain ⟨r1, r2, r3, r4⟩ := r
  refine ⟨fun l h1 h2 => ?_, ?_, ?_, fun k i d hd => ?_⟩
  · rw [e 120 (l - 1) (by (first | decide +kernel | omega))]; exact r1 l h1 h2
  · unfold RMb; rw [e 116 11 (by (first | decide +kernel | omega))]; exact r2
  · rw [e 116 13 (by (first | decide +kernel | omega))]; exact r3
  · rw [e k i (by unfold mof at hd; omega)]; exact r4 k i d hd
theorem RM_fr {S : List (Nat × Option Nat)} {h h' : Hp} {T : Nat → Int → Int} {D : Nat → Int} (f : fr S h h') (hc : rmS S = true) (r : RM h T D) : RM h' T D := RM_at (fun k i hk => f.1 k i (rmS_no hc hk)) r
theorem RM_ne {h h' : Hp} {k i : Nat} {x : Int32} {T : Nat → Int → Int} {D : Nat → Int} (e : h' = pI h k i x) (hk : ¬ (k = 119 ∨ k = 120 ∨ k = 116 ∧ 7 ≤ i ∧ i ≤ 13 ∧ i ≠ 12)) (r : RM h T D) : RM h' T D := RM_at (fun k' i' h2 => by
  by_cases c : k' = k
  · subst c
    exact kn_nei e rfl (fun c2 => by subst c2; exact hk h2)
  · exact kn_ne e rfl c) r
theorem RM_put {h h' : Hp} {T : Nat → Int → Int} {D : Nat → Int} {k i d : Nat} {x : Int32} {v dZ : Int} (r : RM h T D) (e : h' = pI h k i x) (hd : mof k i d) (hx : x.toInt = v) (hz : dZ = (d : Int)) : RM h' T (x_up D dZ v) := by
  obtain ⟨r1, r2, r3, r4⟩ := r
  have hk : k = 119 ∨ k = 116 ∧ 7 ≤ i ∧ i ≤ 10 := by unfold mof at hd; omega
  refine ⟨fun l h1 h2 => ?_, ?_, ?_, fun k' i' d' hd' => ?_⟩
  · rw [kn_ne e rfl (show 120 ≠ k by (first | decide +kernel | omega))]; exact r1 l h1 h2
  · unfold RMb
    have : h'.1 116 11 = h.1 116 11 := by
      rcases hk with rfl | ⟨rfl, h1⟩
      · exact kn_ne e rfl (by decide)
      · exact kn_nei e rfl (by (first | decide +kernel | omega))
    rw [this]; exact r2
  · have : h'.1 116 13 = h.1 116 13 := by
      rcases hk with rfl | ⟨rfl, h1⟩
      · exact kn_ne e rfl (by decide)
      · exact kn_nei e rfl (by (first | decide +kernel | omega))
    rw [this]; exact r3
  · subst hz
    unfold x_up
    by_cases q : k' = k ∧ i' = i
    · obtain ⟨rfl, rfl⟩ := q
      have : d' = d := by unfold mof at hd hd'; omega
      subst this
      rw [if_pos rfl, kn_put e]
      exact hx
    · have hne : d' ≠ d := fun c => q (by unfold mof at hd hd'; omega)
      rw [if_neg (by (first | decide +kernel | omega))]
      have hh : h'.1 k' i' = h.1 k' i' := by
        by_cases c : k' = k
        · subst c
          exact kn_nei e rfl (fun c2 => q ⟨rfl, c2⟩)
        · exact kn_ne e rfl c
      rw [hh]
      exact r4 k' i' d' hd'
theorem x_upT_y {T : Nat → Int → Int} {l c : Int} {i : Nat} {j : Int} (h : (i : Int) = l ∧ j = c) : x_upT T l c i j = 1 := if_pos h
theorem x_HI_up {H Y C : Int} {T : Nat → Int → Int} {l : Nat} (hl : 1 ≤ l ∧ l ≤ 4) (hC : 0 ≤ C ∧ C ≤ 15) (r : x_HI H T) (hY : H < C ∧ Y = C ∨ C ≤ H ∧ Y = H) : x_HI Y (x_upT T (l : Int) C) := by
  obtain ⟨r1, r2⟩ := r
  refine ⟨?_, fun m c h1 h2 h3 h4 h5 => ?_⟩
  · rcases hY with ⟨h1, rfl⟩ | ⟨h1, rfl⟩
    · exact Or.inr ⟨hC.1, hC.2, l, hl.1, hl.2, by rw [x_upT_y ⟨rfl, rfl⟩]; decide⟩
    · rcases r1 with q | ⟨q1, q2, m, q3, q4, q5⟩
      · omega
      · refine Or.inr ⟨q1, q2, m, q3, q4, ?_⟩
        unfold x_upT
        split
        · decide
        · exact q5
  · clear r1
    by_cases q : (m : Int) = (l : Int) ∧ c = C
    · omega
    · unfold x_upT at h5
      rw [if_neg q] at h5
      have := r2 m c h1 h2 h3 h4 h5
      omega
theorem x_HI_five {H C : Int} {T : Nat → Int → Int} {lZ : Int} (hl : lZ < 1 ∨ 4 < lZ) (r : x_HI H T) : x_HI H (x_upT T lZ C) := by
  obtain ⟨r1, r2⟩ := r
  refine ⟨?_, fun m c h1 h2 h3 h4 h5 => ?_⟩
  · rcases r1 with q | ⟨q1, q2, m, q3, q4, q5⟩
    · exact Or.inl q
    · exact Or.inr ⟨q1, q2, m, q3, q4, by rw [x_upT_ne (by (first | decide +kernel | omega))]; exact q5⟩
  · clear r1
    rw [x_upT_ne (by (first | decide +kernel | omega))] at h5
    exact r2 m c h1 h2 h3 h4 h5
theorem x_told_ne {T : Nat → Int → Int} {lZ C : Int} (hl : 1 ≤ lZ ∧ lZ ≤ 5 ∨ 9 ≤ lZ) (c : Int) : x_told (x_upT T lZ C) c = x_told T c := by
  unfold x_told
  rw [x_upT_ne (by (first | decide +kernel | omega)), x_upT_ne (by (first | decide +kernel | omega)), x_upT_ne (by (first | decide +kernel | omega)), x_upT_ne (by (first | decide +kernel | omega))]
theorem RMa_one {h h' : Hp} {T : Nat → Int → Int} {l : Nat} {x y z a : Int32} {A lZ : Int} (r : RMa h T) (hl : 1 ≤ l ∧ l ≤ 5) (e : h' = pI h 120 (l - 1) x) (zK : h.1 120 (l - 1) = z) (ha : 0 ≤ A ∧ A ≤ 15) (pa : a.toInt = A) (e2 : x = z ||| y) (e1 : y = (1 : Int32) <<< (a &&& 31)) (hz : lZ = (l : Int)) : RMa h' (x_upT T lZ A) := by
  subst hz
  intro m h1 h2
  by_cases q : m = l
  · subst q
    rw [kn_put e]
    have g := r m h1 h2
    rw [zK] at g
    have g2 := x_TB_set g ha pa (e2.trans (by rw [e1]))
    refine x_TB_cg (fun c => ?_) g2
    show _ = (if c = A then (1 : Int) else T m c)
    unfold x_upT
    by_cases qc : c = A
    · rw [if_pos qc, if_pos ⟨rfl, qc⟩]
    · rw [if_neg qc, if_neg (fun w => qc w.2)]
  · rw [kn_nei e rfl (show m - 1 ≠ l - 1 by (first | decide +kernel | omega))]
    exact x_TB_cg (fun c => x_upT_ne (by (first | decide +kernel | omega)) c) (r m h1 h2)
/-- a CELL or an OWNER is told of: two cells change -/
theorem RM_fresh {h h1 h2 : Hp} {T : Nat → Int → Int} {D : Nat → Int} {l : Nat} {x y z a w : Int32} {A lZ H Y : Int} (r : RM h T D) (hl : 1 ≤ l ∧ l ≤ 5) (e : h1 = pI h 120 (l - 1) x) (zK : h.1 120 (l - 1) = z) (ha : 0 ≤ A ∧ A ≤ 15) (pa : a.toInt = A) (e2 : x = z ||| y) (e1 : y = (1 : Int32) <<< (a &&& 31)) (hz : lZ = (l : Int)) (f : h2 = pI h1 116 13 w) (wE : w.toInt = Y) (hH : (h.1 116 13).toInt = H) (hY : l ≤ 4 ∧ (H < A ∧ Y = A ∨ A ≤ H ∧ Y = H) ∨ l = 5 ∧ Y = H) : RM h2 (x_upT T lZ A) D := by
  obtain ⟨r1, r2, r3, r4⟩ := r
  have q1 := RMa_one r1 hl e zK ha pa e2 e1 hz
  refine ⟨fun m h1 h2 => ?_, ?_, ?_, fun k i d hd => ?_⟩
  · rw [kn_ne f rfl (by decide)]; exact q1 m h1 h2
  · unfold RMb
    rw [kn_nei f rfl (by decide), kn_ne e rfl (by decide)]
    exact x_TB_cg (fun c => x_told_ne (by (first | decide +kernel | omega)) c) r2
  · rw [kn_put f, wE]
    rw [hH] at r3
    rcases hY with ⟨h1, h2⟩ | ⟨h1, h2⟩
    · rw [hz]; exact x_HI_up ⟨hl.1, h1⟩ ha r3 h2
    · rw [h2]; exact x_HI_five (by (first | decide +kernel | omega)) r3
  · have : h2.1 k i = h.1 k i := by
      have h5 : k = 119 ∨ k = 116 ∧ i ≤ 10 := by unfold mof at hd; omega
      rcases h5 with rfl | ⟨rfl, h6⟩
      · rw [kn_ne f rfl (by decide)]; exact kn_ne e rfl (by decide)
      · rw [kn_nei f rfl (by (first | decide +kernel | omega))]; exact kn_ne e rfl (by decide)
    rw [this]
    exact r4 k i d hd
/-- a line that may stand once -/
theorem RM_once {h h' : Hp} {T : Nat → Int → Int} {D : Nat → Int} {x y z a : Int32} {A lZ : Int} (r : RM h T D) (e : h' = pI h 116 11 x) (zK : h.1 116 11 = z) (pa : a.toInt = A) (e2 : x = z ||| y) (e1 : y = (1 : Int32) <<< (a &&& 31)) (hl : A = 0 ∧ lZ = 0 ∨ A = 1 ∧ lZ = 6 ∨ A = 2 ∧ lZ = 7 ∨ A = 3 ∧ lZ = 8) : RM h' (x_upT T lZ 0) D := by
  obtain ⟨r1, r2, r3, r4⟩ := r
  refine ⟨fun m h1 h2 => ?_, ?_, ?_, fun k i d hd => ?_⟩
  · rw [kn_ne e rfl (by decide)]
    exact x_TB_cg (fun c => x_upT_ne (by (first | decide +kernel | omega)) c) (r1 m h1 h2)
  · unfold RMb
    rw [kn_put e]
    unfold RMb at r2
    rw [zK] at r2
    have g2 := x_TB_set r2 (by (first | decide +kernel | omega)) pa (e2.trans (by rw [e1]))
    refine x_TB_cg (fun c => ?_) g2
    show _ = (if c = A then (1 : Int) else x_told T c)
    rcases hl with ⟨rfl, rfl⟩ | ⟨rfl, rfl⟩ | ⟨rfl, rfl⟩ | ⟨rfl, rfl⟩
    all_goals
      unfold x_told x_upT
      repeat' split
      all_goals first | rfl | omega
  · rw [kn_nei e rfl (by decide)]
    exact x_HI_five (by (first | decide +kernel | omega)) r3
  · have : h'.1 k i = h.1 k i := by
      have h5 : k = 119 ∨ k = 116 ∧ i ≤ 10 := by unfold mof at hd; omega
      rcases h5 with rfl | ⟨rfl, h6⟩
      · exact kn_ne e rfl (by decide)
      · exact kn_nei e rfl (by (first | decide +kernel | omega))
    rw [this]
    exact r4 k i d hd
theorem RM_nine {h : Hp} {T : Nat → Int → Int} {D : Nat → Int} (r : RM h T D) : RM h (x_upT T 9 0) D := by
  obtain ⟨r1, r2, r3, r4⟩ := r
  refine ⟨fun m h1 h2 => ?_, ?_, x_HI_five (by (first | decide +kernel | omega)) r3, r4⟩
  · exact x_TB_cg (fun c => x_upT_ne (by (first | decide +kernel | omega)) c) (r1 m h1 h2)
  · exact x_TB_cg (fun c => x_told_ne (by (first | decide +kernel | omega)) c) r2
theorem RM_many {h : Hp} {T : Nat → Int → Int} {D : Nat → Int} (r : RM h T D) {d : Int32} {dZ : Int} (dK : h.1 119 86 = d) (dE : d.toInt = dZ) : dZ = D 86 := by
  have := r.2.2.2 119 86 86 (Or.inl ⟨rfl, by decide, rfl⟩)
  rw [dK, dE] at this
  exact this
theorem RM_had {h : Hp} {T : Nat → Int → Int} {D : Nat → Int} (r : RM h T D) {l : Nat} (h1 : 1 ≤ l) (h2 : l ≤ 5) {z : Int32} (zK : h.1 120 (l - 1) = z) : x_TB z (T l) := by
  have := r.1 l h1 h2
  rw [zK] at this
  exact this
theorem RM_told {h : Hp} {T : Nat → Int → Int} {D : Nat → Int} (r : RM h T D) {z : Int32} (zK : h.1 116 11 = z) : x_TB z (x_told T) := by
  have := r.2.1
  unfold RMb at this
  rw [zK] at this
  exact this
end
