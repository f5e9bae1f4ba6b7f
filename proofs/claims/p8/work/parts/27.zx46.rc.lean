/-- where the draft's cells stand in the pure draft -/
def dof (k i : Nat) : Option Nat :=
  if k = 70 ∧ i < 16 then some i else if k = 71 ∧ i < 16 then some (16 + i) else if k = 72 ∧ i < 16 then some (32 + i) else if k = 73 ∧ i < 16 then some (48 + i) else if k = 74 ∧ i < 16 then some (64 + i) else if k = 76 ∧ i < 4 then some (80 + i) else if k = 68 ∧ i = 3 then some 84 else if k = 68 ∧ i = 4 then some 85 else if k = 75 ∧ i = 4 then some 86 else if k = 80 ∧ i = 4 then some 111 else if k = 69 ∧ i < 4 then some (144 + i) else none
def dofi (d : Nat) : Nat × Nat :=
  if d < 16 then (70, d) else if d < 32 then (71, d - 16) else if d < 48 then (72, d - 32) else if d < 64 then (73, d - 48) else if d < 80 then (74, d - 64) else if d < 84 then (76, d - 80) else if d = 84 then (68, 3) else if d = 85 then (68, 4) else if d = 86 then (75, 4) else if d = 111 then (80, 4) else (69, d - 144)
theorem dofi_of {k i d : Nat} (h : dof k i = some d) : dofi d = (k, i) := by
  unfold dof at h
  split at h
  · next q => cases h; unfold dofi; rw [if_pos q.2, q.1]
  split at h
  · next q => cases h; unfold dofi; rw [if_neg (by (first | decide +kernel | omega)), if_pos (by (first | decide +kernel | omega)), q.1, Nat.add_sub_cancel_left]
  split at h
  · next q => cases h; unfold dofi; rw [if_neg (by (first | decide +kernel | omega)), if_neg (by (first | decide +kernel | omega)), if_pos (by (first | decide +kernel | omega)), q.1, Nat.add_sub_cancel_left]
  split at h
  · next q => cases h; unfold dofi; rw [if_neg (by (first | decide +kernel | omega)), if_neg (by (first | decide +kernel | omega)), if_neg (by (first | decide +kernel | omega)), if_pos (by (first | decide +kernel | omega)), q.1, Nat.add_sub_cancel_left]
  split at h
  · next q => cases h; unfold dofi; rw [if_neg (by (first | decide +kernel | omega)), if_neg (by (first | decide +kernel | omega)), if_neg (by (first | decide +kernel | omega)), if_neg (by (first | decide +kernel | omega)), if_pos (by (first | decide +kernel | omega)), q.1, Nat.add_sub_cancel_left]
  split at h
  · next q => cases h; unfold dofi; rw [if_neg (by (first | decide +kernel | omega)), if_neg (by (first | decide +kernel | omega)), if_neg (by (first | decide +kernel | omega)), if_neg (by (first | decide +kernel | omega)), if_neg (by (first | decide +kernel | omega)), if_pos (by (first | decide +kernel | omega)), q.1, Nat.add_sub_cancel_left]
  split at h
  · next q => cases h; rw [q.1, q.2]; rfl
  split at h
  · next q => cases h; rw [q.1, q.2]; rfl
  split at h
  · next q => cases h; rw [q.1, q.2]; rfl
  split at h
  · next q => cases h; rw [q.1, q.2]; rfl
  split at h
  · next q => cases h; unfold dofi; rw [if_neg (by (first | decide +kernel | omega)), if_neg (by (first | decide +kernel | omega)), if_neg (by (first | decide +kernel | omega)), if_neg (by (first | decide +kernel | omega)), if_neg (by (first | decide +kernel | omega)), if_neg (by (first | decide +kernel | omega)), if_neg (by (first | decide +kernel | omega)), if_neg (by (first | decide +kernel | omega)), if_neg (by (first | decide +kernel | omega)), if_neg (by (first | decide +kernel | omega)), q.1, Nat.add_sub_cancel_left]
  · cases h
theorem dof_e {k i d : Nat} (h : dof k i = some d) : (k = 70 ∧ i < 16) ∧ d = i ∨ (k = 71 ∧ i < 16) ∧ d = 16 + i ∨ (k = 72 ∧ i < 16) ∧ d = 32 + i ∨ (k = 73 ∧ i < 16) ∧ d = 48 + i ∨ (k = 74 ∧ i < 16) ∧ d = 64 + i ∨ (k = 76 ∧ i < 4) ∧ d = 80 + i ∨ (k = 68 ∧ i = 3) ∧ d = 84 ∨ (k = 68 ∧ i = 4) ∧ d = 85 ∨ (k = 75 ∧ i = 4) ∧ d = 86 ∨ (k = 80 ∧ i = 4) ∧ d = 111 ∨ (k = 69 ∧ i < 4) ∧ d = 144 + i := by
  unfold dof at h
  by_cases q : k = 70 ∧ i < 16
  · rw [if_pos q] at h; exact Or.inl ⟨q, (Option.some.inj h).symm⟩
  rw [if_neg q] at h
  clear q
  by_cases q : k = 71 ∧ i < 16
  · rw [if_pos q] at h; exact Or.inr (Or.inl ⟨q, (Option.some.inj h).symm⟩)
  rw [if_neg q] at h
  clear q
  by_cases q : k = 72 ∧ i < 16
  · rw [if_pos q] at h; exact Or.inr (Or.inr (Or.inl ⟨q, (Option.some.inj h).symm⟩))
  rw [if_neg q] at h
  clear q
  by_cases q : k = 73 ∧ i < 16
  · rw [if_pos q] at h; exact Or.inr (Or.inr (Or.inr (Or.inl ⟨q, (Option.some.inj h).symm⟩)))
  rw [if_neg q] at h
  clear q
  by_cases q : k = 74 ∧ i < 16
  · rw [if_pos q] at h; exact Or.inr (Or.inr (Or.inr (Or.inr (Or.inl ⟨q, (Option.some.inj h).symm⟩))))
  rw [if_neg q] at h
  clear q
  by_cases q : k = 76 ∧ i < 4
  · rw [if_pos q] at h; exact Or.inr (Or.inr (Or.inr (Or.inr (Or.inr (Or.inl ⟨q, (Option.some.inj h).symm⟩)))))
  rw [if_neg q] at h
  clear q
  by_cases q : k = 68 ∧ i = 3
  · rw [if_pos q] at h; exact Or.inr (Or.inr (Or.inr (Or.inr (Or.inr (Or.inr (Or.inl ⟨q, (Option.some.inj h).symm⟩))))))
  rw [if_neg q] at h
  clear q
  by_cases q : k = 68 ∧ i = 4
  · rw [if_pos q] at h; exact Or.inr (Or.inr (Or.inr (Or.inr (Or.inr (Or.inr (Or.inr (Or.inl ⟨q, (Option.some.inj h).symm⟩)))))))
  rw [if_neg q] at h
  clear q
  by_cases q : k = 75 ∧ i = 4
  · rw [if_pos q] at h; exact Or.inr (Or.inr (Or.inr (Or.inr (Or.inr (Or.inr (Or.inr (Or.inr (Or.inl ⟨q, (Option.some.inj h).symm⟩))))))))
  rw [if_neg q] at h
  clear q
  by_cases q : k = 80 ∧ i = 4
  · rw [if_pos q] at h; exact Or.inr (Or.inr (Or.inr (Or.inr (Or.inr (Or.inr (Or.inr (Or.inr (Or.inr (Or.inl ⟨q, (Option.some.inj h).symm⟩)))))))))
  rw [if_neg q] at h
  clear q
  by_cases q : k = 69 ∧ i < 4
  · rw [if_pos q] at h; exact Or.inr (Or.inr (Or.inr (Or.inr (Or.inr (Or.inr (Or.inr (Or.inr (Or.inr (Or.inr (⟨q, (Option.some.inj h).symm⟩))))))))))
  rw [if_neg q] at h
  clear q
  cases h
theorem dof_k {k i d : Nat} (h : dof k i = some d) : 68 ≤ k ∧ k ≤ 80 ∧ k ≠ 77 ∧ k ≠ 78 ∧ k ≠ 79 ∧ (d ≤ 86 ∨ d = 111 ∨ 144 ≤ d) := by
  rcases dof_e h with e | e | e | e | e | e | e | e | e | e | e <;> omega
theorem dof_86 {i d : Nat} (h : dof 75 i = some d) : d = 86 := by
  rcases dof_e h with e | e | e | e | e | e | e | e | e | e | e <;> omega
theorem dof_111 {i d : Nat} (h : dof 80 i = some d) : d = 111 := by
  rcases dof_e h with e | e | e | e | e | e | e | e | e | e | e <;> omega
def RCd (h : Hp) (D : Nat → Int) : Prop := ∀ k i d : Nat, dof k i = some d → (h.1 k i).toInt = D d
def RCb (h : Hp) (D : Nat → Int) : Prop := ∀ i : Nat, (i : Int) < D 86 → (h.1 77 i).toInt = D (87 + 3 * i) ∧ (h.1 78 i).toInt = D (88 + 3 * i) ∧ (h.1 79 i).toInt = D (89 + 3 * i)
def x_ON (z : Int32) (t : Int) : Prop := z.toInt = 0 ∧ t = 0 ∨ z.toInt ≠ 0 ∧ t = 1
def RCt (h : Hp) (T : Nat → Int → Int) : Prop := (∀ l : Nat, 1 ≤ l → l ≤ 5 → x_TB (h.1 92 l) (T l)) ∧ (∀ l : Nat, (l = 0 ∨ l = 6 ∨ l = 7 ∨ l = 8) → x_ON (h.1 92 l) (T l 0))
def RC (h : Hp) (T : Nat → Int → Int) (D : Nat → Int) : Prop := RCt h T ∧ RCd h D ∧ RCb h D
/-- a frame that leaves the draft and what was told alone -/
def rcS (S : List (Nat × Option Nat)) : Bool := S.all (fun q => decide (q.1 ≠ 92 ∧ (q.1 < 68 ∨ 80 < q.1)))
theorem rcS_no {S : List (Nat × Option Nat)} (hc : rcS S = true) {k i : Nat} (hk : k = 92 ∨ 68 ≤ k ∧ k ≤ 80) : inS S k i = false := by
  unfold inS
  rw [List.any_eq_false]
  intro q hq
  have := of_decide_eq_true (List.all_eq_true.mp hc q hq)
  intro e
  have e2 : q.1 = k := by
    have := (Bool.and_eq_true _ _ ▸ e).1
    exact eq_of_beq this
  omega
theorem RC_fr {S : List (Nat × Option Nat)} {h h' : Hp} {T : Nat → Int → Int} {D : Nat → Int} (f : fr S h h') (hc : rcS S = true) (r : RC h T D) : RC h' T D := by
  have e : ∀ k i : Nat, (k = 92 ∨ 68 ≤ k ∧ k ≤ 80) → h'.1 k i = h.1 k i := fun k i hk => f.1 k i (rcS_no hc hk)
  obtain ⟨r1, r2, r3⟩ := r
  refine ⟨?_, fun k i d hd => ?_, fun i hi => ?_⟩
  · refine ⟨fun l h1 h2 => ?_, fun l hl => ?_⟩
    · rw [e 92 l (Or.inl rfl)]; exact r1.1 l h1 h2
    · rw [e 92 l (Or.inl rfl)]; exact r1.2 l hl
  · have := dof_k hd
    rw [e k i (by (first | decide +kernel | omega))]
    exact r2 k i d hd
  · rw [e 77 i (by (first | decide +kernel | omega)), e 78 i (by (first | decide +kernel | omega)), e 79 i (by (first | decide +kernel | omega))]
    exact r3 i hi
theorem RCd_put {h h' : Hp} {D : Nat → Int} {k i d : Nat} {x : Int32} {v dZ : Int} (r : RCd h D) (e : h' = pI h k i x) (hd : dof k i = some d) (hx : x.toInt = v) (hz : dZ = (d : Int)) : RCd h' (x_up D dZ v) := by
  intro k' i' d' hd'
  subst hz
  unfold x_up
  by_cases q : k' = k ∧ i' = i
  · obtain ⟨rfl, rfl⟩ := q
    rw [hd] at hd'
    cases hd'
    rw [if_pos rfl, kn_put e]
    exact hx
  · have hne : d' ≠ d := fun c => by
      subst c
      have a1 := dofi_of hd
      have a2 := dofi_of hd'
      rw [a1] at a2
      cases a2
      exact q ⟨rfl, rfl⟩
    rw [if_neg (by (first | decide +kernel | omega))]
    have hh : h'.1 k' i' = h.1 k' i' := by
      by_cases c : k' = k
      · subst c
        exact kn_nei e rfl (fun c2 => q ⟨rfl, c2⟩)
      · exact kn_ne e rfl c
    rw [hh]
    exact r k' i' d' hd'
theorem RCd_ne {h h' : Hp} {D : Nat → Int} {k i : Nat} {x : Int32} (r : RCd h D) (e : h' = pI h k i x) (hk : k < 68 ∨ 80 < k ∨ k = 77 ∨ k = 78 ∨ k = 79) : RCd h' D := by
  intro k' i' d' hd'
  have := dof_k hd'
  rw [kn_ne e rfl (show k' ≠ k by (first | decide +kernel | omega))]
  exact r k' i' d' hd'
theorem RCb_put {h h' : Hp} {D : Nat → Int} {k i : Nat} {x : Int32} {dZ v : Int} (r : RCb h D) (e : h' = pI h k i x) (hk : k ≠ 77 ∧ k ≠ 78 ∧ k ≠ 79) (hd : dZ < 86 ∨ 110 < dZ) (hm : ∀ j : Nat, (j : Int) < D 86 → j < 8) : RCb h' (x_up D dZ v) := by
  intro j hj
  unfold x_up at hj ⊢
  rw [if_neg (by (first | decide +kernel | omega))] at hj
  have := hm j hj
  rw [if_neg (by (first | decide +kernel | omega)), if_neg (by (first | decide +kernel | omega)), if_neg (by (first | decide +kernel | omega)), kn_ne e rfl (Ne.symm hk.1), kn_ne e rfl (Ne.symm hk.2.1), kn_ne e rfl (Ne.symm hk.2.2)]
  exact r j hj
theorem RCb_ne {h h' : Hp} {D : Nat → Int} {k i : Nat} {x : Int32} (r : RCb h D) (e : h' = pI h k i x) (hk : k ≠ 77 ∧ k ≠ 78 ∧ k ≠ 79) : RCb h' D := by
  intro j hj
  rw [kn_ne e rfl (Ne.symm hk.1), kn_ne e rfl (Ne.symm hk.2.1), kn_ne e rfl (Ne.symm hk.2.2)]
  exact r j hj
theorem bt_sh : ∀ c : Nat, c < 16 → ((Int32.ofInt (c : Int) &&& 31).toBitVec.smod 32).toNat = c := by decide
theorem x_bt_get (z : Int32) {c : Nat} (hc : c < 16) : x_bt z (c : Int) = if z.toBitVec.getLsbD c = true then 1 else 0 := by
  have h1 : ((z >>> (Int32.ofInt (c : Int) &&& 31)) &&& 1).toBitVec = BitVec.setWidth 32 (BitVec.ofBool (z.toBitVec.getLsbD c)) := by
    rw [Int32.toBitVec_and, Int32.toBitVec_shiftRight]
    show BitVec.sshiftRight' z.toBitVec _ &&& 1#32 = _
    rw [BitVec.and_one_eq_setWidth_ofBool_getLsbD, BitVec.sshiftRight', bt_sh c hc, BitVec.getLsbD_sshiftRight, if_pos (show c + 0 < 32 by (first | decide +kernel | omega))]
    rfl
  unfold x_bt
  rw [← Int32.toInt_toBitVec, h1]
  cases z.toBitVec.getLsbD c <;> decide
theorem bt_one : ∀ v : Nat, v < 16 → ∀ c : Nat, c < 32 → ((1 : Int32) <<< (Int32.ofInt (v : Int) &&& 31)).toBitVec.getLsbD c = decide (c = v) := by decide +kernel
theorem x_TB_set {z z' v : Int32} {t : Int → Int} {V : Int} (tb : x_TB z t) (hV : 0 ≤ V ∧ V ≤ 15) (pv : v.toInt = V) (e : z' = z ||| ((1 : Int32) <<< (v &&& 31))) : x_TB z' (fun j => if j = V then 1 else t j) := by
  obtain ⟨m, rfl⟩ := Int.eq_ofNat_of_zero_le hV.1
  have hv : v = Int32.ofInt (m : Int) := by rw [← pv, Int32.ofInt_toInt]
  have hm : m < 16 := by (first | decide +kernel | omega)
  refine ⟨fun c h0 h1 => ?_, fun i hi => ?_⟩
  · obtain ⟨n, rfl⟩ := Int.eq_ofNat_of_zero_le h0
    have hn : n < 16 := by (first | decide +kernel | omega)
    have g := tb.1 n h0 h1
    rw [x_bt_get z hn] at g
    rw [x_bt_get z' hn, e, Int32.toBitVec_or, BitVec.getLsbD_or, hv, bt_one m hm n (by (first | decide +kernel | omega))]
    by_cases q : n = m
    · subst q
      simp
    · show _ = if ((n : Nat) : Int) = (m : Int) then (1 : Int) else t n
      rw [decide_eq_false q, Bool.or_false, if_neg (show ¬ ((n : Int) = (m : Int)) by (first | decide +kernel | omega))]
      exact g
  · rw [e, Int32.toBitVec_or, BitVec.getLsbD_or, tb.2 i hi, Bool.false_or]
    by_cases h32 : i < 32
    · rw [hv, bt_one m hm i h32]
      exact decide_eq_false (by (first | decide +kernel | omega))
    · exact BitVec.getLsbD_of_ge _ _ (by (first | decide +kernel | omega))
theorem or_one_ne (z : Int32) : (z ||| 1).toInt ≠ 0 := by
  intro h
  have h1 : z ||| 1 = 0 := Int32.toInt_inj.mp (h.trans rfl)
  have h2 : (z ||| 1).toBitVec.getLsbD 0 = false := by rw [h1]; rfl
  rw [Int32.toBitVec_or, BitVec.getLsbD_or] at h2
  have h3 : (1 : Int32).toBitVec.getLsbD 0 = true := rfl
  rw [h3, Bool.or_true] at h2
  cases h2
theorem RCt_ne {h h' : Hp} {T : Nat → Int → Int} {k i : Nat} {x : Int32} (r : RCt h T) (e : h' = pI h k i x) (hk : k ≠ 92) : RCt h' T :=
  ⟨fun l h1 h2 => by rw [kn_ne e rfl (Ne.symm hk)]; exact r.1 l h1 h2, fun l hl => by rw [kn_ne e rfl (Ne.symm hk)]; exact r.2 l hl⟩
theorem x_upT_ne {T : Nat → Int → Int} {l c : Int} {i : Nat} (h : (i : Int) ≠ l) (j : Int) : x_upT T l c i j = T i j := if_neg (fun q => h q.1)
theorem RCt_one {h h' : Hp} {T : Nat → Int → Int} {l : Nat} {x y z a : Int32} {A lZ : Int} (r : RCt h T) (hl : 1 ≤ l ∧ l ≤ 5) (e : h' = pI h 92 l x) (zK : h.1 92 l = z) (ha : 0 ≤ A ∧ A ≤ 15) (pa : a.toInt = A) (e2 : x = z ||| y) (e1 : y = (1 : Int32) <<< (a &&& 31)) (hz : lZ = (l : Int)) : RCt h' (x_upT T lZ A) := by
  subst hz
  refine ⟨fun m h1 h2 => ?_, fun m hm => ?_⟩
  · by_cases q : m = l
    · subst q
      rw [kn_put e]
      have g := r.1 m h1 h2
      rw [zK] at g
      have g2 := x_TB_set g ha pa (e2.trans (by rw [e1]))
      refine x_TB_cg (fun c => ?_) g2
      show _ = (if c = A then (1 : Int) else T m c)
      unfold x_upT
      by_cases qc : c = A
      · rw [if_pos qc, if_pos ⟨rfl, qc⟩]
      · rw [if_neg qc, if_neg (fun w => qc w.2)]
    · rw [kn_nei e rfl q]
      exact x_TB_cg (fun c => x_upT_ne (by (first | decide +kernel | omega)) c) (r.1 m h1 h2)
  · rw [kn_nei e rfl (show m ≠ l by (first | decide +kernel | omega)), x_upT_ne (by (first | decide +kernel | omega))]
    exact r.2 m hm
theorem RCt_once {h h' : Hp} {T : Nat → Int → Int} {l : Nat} {x z : Int32} {lZ : Int} (r : RCt h T) (hl : l = 0 ∨ l = 6 ∨ l = 7 ∨ l = 8) (e : h' = pI h 92 l x) (e2 : x = z ||| 1) (hz : lZ = (l : Int)) : RCt h' (x_upT T lZ 0) := by
  subst hz
  refine ⟨fun m h1 h2 => ?_, fun m hm => ?_⟩
  · rw [kn_nei e rfl (show m ≠ l by (first | decide +kernel | omega))]
    exact x_TB_cg (fun c => x_upT_ne (by (first | decide +kernel | omega)) c) (r.1 m h1 h2)
  · by_cases q : m = l
    · subst q
      rw [kn_put e, e2]
      exact Or.inr ⟨or_one_ne z, if_pos ⟨rfl, rfl⟩⟩
    · rw [kn_nei e rfl q, x_upT_ne (by (first | decide +kernel | omega))]
      exact r.2 m hm
theorem RCt_nine {h h' : Hp} {T : Nat → Int → Int} {x : Int32} (r : RCt h T) (e : h' = pI h 92 9 x) : RCt h' (x_upT T 9 0) := by
  refine ⟨fun m h1 h2 => ?_, fun m hm => ?_⟩
  · rw [kn_nei e rfl (show m ≠ 9 by (first | decide +kernel | omega))]
    exact x_TB_cg (fun c => x_upT_ne (by (first | decide +kernel | omega)) c) (r.1 m h1 h2)
  · rw [kn_nei e rfl (show m ≠ 9 by (first | decide +kernel | omega)), x_upT_ne (by (first | decide +kernel | omega))]
    exact r.2 m hm
theorem RCd_debt {h : Hp} {D : Nat → Int} {T : Nat → Int → Int} (r : RC h T D) {d : Int32} {dZ : Int} (dK : h.1 75 4 = d) (dE : d.toInt = dZ) : dZ = D 86 := by
  have := r.2.1 75 4 86 rfl
  rw [dK, dE] at this
  exact this
theorem dof_row {k i n o : Nat} {A : Int} (hk : (k = 70 ∧ n = 16 ∧ o = 0) ∨ (k = 71 ∧ n = 16 ∧ o = 16) ∨ (k = 72 ∧ n = 16 ∧ o = 32) ∨ (k = 73 ∧ n = 16 ∧ o = 48) ∨ (k = 76 ∧ n = 4 ∧ o = 80)) (hA : 0 ≤ A ∧ A < (n : Int)) (hi : i = A.toNat) : dof k i = some (o + A.toNat) := by
  subst hi
  have h1 : A.toNat < n := by (first | decide +kernel | omega)
  rcases hk with ⟨rfl, rfl, rfl⟩ | ⟨rfl, rfl, rfl⟩ | ⟨rfl, rfl, rfl⟩ | ⟨rfl, rfl, rfl⟩ | ⟨rfl, rfl, rfl⟩
  · unfold dof; rw [if_pos ⟨rfl, h1⟩, Nat.zero_add]
  · unfold dof; rw [if_neg (by (first | decide +kernel | omega)), if_pos ⟨rfl, h1⟩]
  · unfold dof; rw [if_neg (by (first | decide +kernel | omega)), if_neg (by (first | decide +kernel | omega)), if_pos ⟨rfl, h1⟩]
  · unfold dof; rw [if_neg (by (first | decide +kernel | omega)), if_neg (by (first | decide +kernel | omega)), if_neg (by (first | decide +kernel | omega)), if_pos ⟨rfl, h1⟩]
  · unfold dof; rw [if_neg (by (first | decide +kernel | omega)), if_neg (by (first | decide +kernel | omega)), if_neg (by (first | decide +kernel | omega)), if_neg (by (first | decide +kernel | omega)), if_neg (by (first | decide +kernel | omega)), if_pos ⟨rfl, h1⟩]
theorem RC_owe {h h' : Hp} {D : Nat → Int} {T : Nat → Int → Int} {a b v u : Int32} {aZ bZ vZ uZ dZ : Int} (r : RC h T D) (hd : dZ = D 86) (h0 : 0 ≤ dZ ∧ dZ < 8) (ea : a.toInt = aZ) (eb : b.toInt = bZ) (ev : v.toInt = vZ) (eu : u.toInt = uZ) (hu : uZ = dZ + 1) (e : h' = pI (pI (pI (pI h 77 dZ.toNat a) 78 dZ.toNat b) 79 dZ.toNat v) 75 4 u) : RC h' T (x_up (x_up (x_up (x_up D (87 + 3 * D 86) aZ) (88 + 3 * D 86) bZ) (89 + 3 * D 86) vZ) 86 (D 86 + 1)) := by
  obtain ⟨r1, r2, r3⟩ := r
  have c1 : RCt h' T := RCt_ne (RCt_ne (RCt_ne (RCt_ne r1 rfl (by decide)) rfl (by decide)) rfl (by decide)) e (by decide)
  refine ⟨c1, fun k i d hk => ?_, fun i hi => ?_⟩
  · have hb := dof_k hk
    by_cases q : k = 75
    · subst q
      have hi : i = 4 ∧ d = 86 := by
        unfold dof at hk
        rw [if_neg (by (first | decide +kernel | omega)), if_neg (by (first | decide +kernel | omega)), if_neg (by (first | decide +kernel | omega)), if_neg (by (first | decide +kernel | omega)), if_neg (by (first | decide +kernel | omega)), if_neg (by (first | decide +kernel | omega)), if_neg (by (first | decide +kernel | omega)), if_neg (by (first | decide +kernel | omega))] at hk
        split at hk
        · next w => cases hk; exact ⟨w.2, rfl⟩
        · rw [if_neg (by (first | decide +kernel | omega)), if_neg (by (first | decide +kernel | omega))] at hk; cases hk
      obtain ⟨rfl, rfl⟩ := hi
      rw [kn_put e, eu, hu, hd]
      exact (if_pos rfl).symm
    · have hd86 : d ≠ 86 := fun w => by
        subst w
        have := dofi_of hk
        have h2 : dofi 86 = (75, 4) := rfl
        rw [h2] at this
        cases this
        exact q rfl
      rw [kn_ne e rfl q]
      rw [kn_ne (rfl : _ = pI (pI (pI h 77 dZ.toNat a) 78 dZ.toNat b) 79 dZ.toNat v) rfl (show k ≠ 79 by (first | decide +kernel | omega)), kn_ne (rfl : _ = pI (pI h 77 dZ.toNat a) 78 dZ.toNat b) rfl (show k ≠ 78 by (first | decide +kernel | omega)), kn_ne (rfl : _ = pI h 77 dZ.toNat a) rfl (show k ≠ 77 by (first | decide +kernel | omega))]
      rw [r2 k i d hk]
      unfold x_up
      rw [if_neg (by (first | decide +kernel | omega)), if_neg (by (first | decide +kernel | omega)), if_neg (by (first | decide +kernel | omega)), if_neg (by (first | decide +kernel | omega))]
  · have h86 : x_up (x_up (x_up (x_up D (87 + 3 * D 86) aZ) (88 + 3 * D 86) bZ) (89 + 3 * D 86) vZ) 86 (D 86 + 1) 86 = D 86 + 1 := if_pos rfl
    rw [h86] at hi
    by_cases q : i = dZ.toNat
    · subst q
      have e3 : h'.1 79 dZ.toNat = v := by rw [kn_ne e rfl (by decide)]; exact kn_put rfl
      have e2 : h'.1 78 dZ.toNat = b := by rw [kn_ne e rfl (by decide), kn_ne (rfl : _ = pI (pI (pI h 77 dZ.toNat a) 78 dZ.toNat b) 79 dZ.toNat v) rfl (by decide)]; exact kn_put rfl
      have e1 : h'.1 77 dZ.toNat = a := by rw [kn_ne e rfl (by decide), kn_ne (rfl : _ = pI (pI (pI h 77 dZ.toNat a) 78 dZ.toNat b) 79 dZ.toNat v) rfl (by decide), kn_ne (rfl : _ = pI (pI h 77 dZ.toNat a) 78 dZ.toNat b) rfl (by decide)]; exact kn_put rfl
      rw [e1, e2, e3, ea, eb, ev]
      refine ⟨?_, ?_, ?_⟩
      · unfold x_up; rw [if_neg (by (first | decide +kernel | omega)), if_neg (by (first | decide +kernel | omega)), if_neg (by (first | decide +kernel | omega)), if_pos (by (first | decide +kernel | omega))]
      · unfold x_up; rw [if_neg (by (first | decide +kernel | omega)), if_neg (by (first | decide +kernel | omega)), if_pos (by (first | decide +kernel | omega))]
      · unfold x_up; rw [if_neg (by (first | decide +kernel | omega)), if_pos (by (first | decide +kernel | omega))]
    · have hi2 : (i : Int) < D 86 := by (first | decide +kernel | omega)
      have g := r3 i hi2
      have e3 : h'.1 79 i = h.1 79 i := by rw [kn_ne e rfl (by decide), kn_nei (rfl : _ = pI (pI (pI h 77 dZ.toNat a) 78 dZ.toNat b) 79 dZ.toNat v) rfl q, kn_ne (rfl : _ = pI (pI h 77 dZ.toNat a) 78 dZ.toNat b) rfl (by decide)]; exact kn_ne rfl rfl (by decide)
      have e2 : h'.1 78 i = h.1 78 i := by rw [kn_ne e rfl (by decide), kn_ne (rfl : _ = pI (pI (pI h 77 dZ.toNat a) 78 dZ.toNat b) 79 dZ.toNat v) rfl (by decide), kn_nei (rfl : _ = pI (pI h 77 dZ.toNat a) 78 dZ.toNat b) rfl q]; exact kn_ne rfl rfl (by decide)
      have e1 : h'.1 77 i = h.1 77 i := by rw [kn_ne e rfl (by decide), kn_ne (rfl : _ = pI (pI (pI h 77 dZ.toNat a) 78 dZ.toNat b) 79 dZ.toNat v) rfl (by decide), kn_ne (rfl : _ = pI (pI h 77 dZ.toNat a) 78 dZ.toNat b) rfl (by decide)]; exact kn_nei rfl rfl q
      rw [e1, e2, e3, g.1, g.2.1, g.2.2]
      refine ⟨?_, ?_, ?_⟩ <;> (unfold x_up; rw [if_neg (by (first | decide +kernel | omega)), if_neg (by (first | decide +kernel | omega)), if_neg (by (first | decide +kernel | omega)), if_neg (by (first | decide +kernel | omega))])
theorem TB_kn {h : Hp} {k l : Nat} {z : Int32} {t : Int → Int} (e : h.1 k l = z) (r : x_TB (h.1 k l) t) : x_TB z t := by rw [← e]; exact r
