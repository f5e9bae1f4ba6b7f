theorem tb_ca0 : Cond.arrayClass .int ∈ lw_tbl := List.mem_append_right _ (List.mem_append_left _ (List.mem_of_getElem? (i := 99) (by decide +kernel)))
theorem tb_ca1 : Cond.arrayClass .byte ∈ lw_tbl := List.mem_append_right _ (List.mem_append_left _ (List.mem_of_getElem? (i := 236) (by decide +kernel)))
theorem tb_ca2 : Cond.arrayClass .boolean ∈ lw_tbl := List.mem_append_right _ (List.mem_append_left _ (List.mem_of_getElem? (i := 235) (by decide +kernel)))
theorem tb_ca3 : Cond.arrayOver (.object "RodOwes$County") ∈ lw_tbl := List.mem_append_right _ (List.mem_append_left _ (List.mem_of_getElem? (i := 197) (by decide +kernel)))
theorem tb_ca4 : Cond.arrayOver (.object "RodOwes$Sheet") ∈ lw_tbl := List.mem_append_right _ (List.mem_append_right _ (List.mem_append_left _ (List.mem_of_getElem? (i := 94) (by decide +kernel))))
theorem tb_ca5 : Cond.arrayOver (.array .int) ∈ lw_tbl := List.mem_append_right _ (List.mem_append_right _ (List.mem_append_left _ (List.mem_of_getElem? (i := 31) (by decide +kernel))))
theorem memL_by {α : Type} {L : List α} {f : α → Cond} {ix : List Nat} (h : ix.map (fun i => tables_1[i]?) = (L.map f).map some) : ∀ q ∈ L, f q ∈ lw_tbl := fun q hq => by
  have e : some (f q) ∈ (L.map f).map some := List.mem_map.mpr ⟨f q, List.mem_map.mpr ⟨q, hq, rfl⟩, rfl⟩
  rw [← h] at e
  obtain ⟨i, _, e⟩ := List.mem_map.mp e
  exact List.mem_append_right _ (List.mem_of_getElem? e)
theorem memI_by {f : Nat → Cond} {n : Nat} {ix : List Nat} (h : ∀ i, i < n → tables_1[ix.getD i 0]? = some (f i)) : ∀ i, i < n → f i ∈ lw_tbl := fun i hi => List.mem_append_right _ (List.mem_of_getElem? (h i hi))
theorem tb_nest : ∀ q ∈ kNest, Cond.methodLinkNest q.1 q.2.1 q.2.2 R_Rod ∈ lw_tbl := memL_by (f := fun (q : String × Nat × MethodName) => Cond.methodLinkNest q.1 q.2.1 q.2.2 R_Rod) (ix := [200, 266, 282, 300, 336, 37, 102, 129, 206]) (by decide +kernel)
theorem tb_nest2 : ∀ q ∈ vv_nest, Cond.methodLinkNest q.1 q.2.1 q.2.2 R_Rod ∈ lw_tbl := memL_by (f := fun (q : String × Nat × MethodName) => Cond.methodLinkNest q.1 q.2.1 q.2.2 R_Rod) (ix := [778, 771, 773, 713, 716]) (by decide +kernel)
theorem tb_cls0 : ∀ q ∈ classes, Cond.instantiable q.1 q.2.2 ∈ vv_G := by decide +kernel
theorem tb_cls : ∀ q ∈ classes, ∀ w ∈ u_ws q.1 q.2.1 q.2.2, w ∈ vv_G := by
  intro q hq
  simp only [classes, List.mem_cons, List.not_mem_nil, or_false] at hq
  rcases hq with rfl | rfl | rfl | rfl | rfl | rfl | rfl | rfl | rfl | rfl | rfl | rfl
  · exact i_Beds
  · exact i_County
  · exact i_Land
  · exact i_Ledger
  · exact i_Plans
  · exact i_Reader
  · exact i_Sheet
  · exact i_Sights
  · exact i_Tape
  · exact i_Walks
  · exact i_Rod
  · exact i_Mod
theorem st_D {args : Array Value} {s : State} (hts : ∀ w ∈ vv_G, w.before args s = true) : ∃ D : va_G, ∀ (c : Nat) (q : vw_C), classes[c]? = some q → u_Kn s q.1 q.2.1 q.2.2 (D.1 c) (D.2 c) := by
  have h : ∀ c : Nat, ∃ z : ClassId × (Nat → Nat), ∀ q : vw_C, classes[c]? = some q → u_Kn s q.1 q.2.1 q.2.2 z.1 z.2 := by
    intro c
    cases hq : classes[c]? with
    | none => exact ⟨(0, fun _ => 0), fun q h => by cases h⟩
    | some q =>
      have hm := List.mem_of_getElem? hq
      obtain ⟨cC, iS, hk⟩ := u_known hts (tb_cls q hm) (hts _ (tb_cls0 q hm))
      exact ⟨(cC, iS), fun q' h => by cases h; exact hk⟩
  obtain ⟨f, hf⟩ := Classical.axiomOfChoice h
  exact ⟨(fun c => (f c).1, fun c => (f c).2), hf⟩
theorem st_ca {args : Array Value} {s : State} (hts : ∀ w ∈ lw_tbl, w.before args s = true) : ∃ ca : Nat → ClassId, ∀ (k : Nat) (q : ClassId × FieldType), (tysC ca)[k]? = some q → ArrOfT s q.1 q.2 ∧ va_RA s q.1 q.2 := by
  obtain ⟨c0, k0, m0, a0, b0, e0⟩ := Cond.arrayClass_spec (hts _ tb_ca0)
  obtain ⟨c1, k1, m1, a1, b1, e1⟩ := Cond.arrayClass_spec (hts _ tb_ca1)
  obtain ⟨c2, k2, m2, a2, b2, e2⟩ := Cond.arrayClass_spec (hts _ tb_ca2)
  obtain ⟨m3, c3, k3, g3, -, b3, e3, a3⟩ := Cond.arrayOver_spec (hts _ tb_ca3)
  obtain ⟨m4, c4, k4, g4, -, b4, e4, a4⟩ := Cond.arrayOver_spec (hts _ tb_ca4)
  obtain ⟨m5, c5, k5, -, b5, e5, a5⟩ := Cond.arrayOver_specA (hts _ tb_ca5)
  refine ⟨fun k => [c0, c1, c2, c3, c4, c5].getD k 0, fun k q hk => ?_⟩
  have hl : k < 6 := (List.getElem?_eq_some_iff.mp hk).1
  rcases (by (first | decide +kernel | omega) : k = 0 ∨ k = 1 ∨ k = 2 ∨ k = 3 ∨ k = 4 ∨ k = 5) with rfl | rfl | rfl | rfl | rfl | rfl
  · cases hk; exact ⟨fun N z => ⟨(fun k h => by cases h), k0, b0, m0, e0⟩, a0⟩
  · cases hk; exact ⟨fun N z => ⟨(fun k h => by cases h), k1, b1, m1, e1⟩, a1⟩
  · cases hk; exact ⟨fun N z => ⟨(fun k h => by cases h), k2, b2, m2, e2⟩, a2⟩
  · cases hk; exact ⟨fun N z => ⟨(fun k h => by cases h), k3, b3, m3, e3⟩, k3, m3, b3, e3, g3, a3⟩
  · cases hk; exact ⟨fun N z => ⟨(fun k h => by cases h), k4, b4, m4, e4⟩, k4, m4, b4, e4, g4, a4⟩
  · cases hk; exact ⟨fun N z => ⟨(fun k h => by cases h), k5, b5, m5, e5⟩, a5⟩
theorem st_Kw {args : Array Value} {s : State} (hts : ∀ w ∈ lw_tbl, w.before args s = true) : Kw s :=
  ⟨fun q hq => va_Nw.of rfl (hts _ (tb_nest q hq)), va_AO.of (hts _ tb_ca3), va_AO.of (hts _ tb_ca4), va_AOA.of (hts _ tb_ca5)⟩
def fl1 : List Cond := flatC (Jvm.Cond.and given_1 narrow_1)
def tmS (nm : String) : Term := .static R_Reader nm "[I"
def tmT (i : Nat) : Term := .string R_Reader (vv_txI.getD i 0)
theorem sf_z : Cond.eq (.static "java/lang/String" "COMPACT_STRINGS" "Z") (.int 1) ∈ fl1 := by decide +kernel
theorem sf_f : Cond.isRef (.static "jdk/internal/util/Preconditions" "SIOOBE_FORMATTER" "Ljava/util/function/BiFunction;") ∈ fl1 := by decide +kernel
theorem sl_z : Cond.laysStatic "java/lang/String" "COMPACT_STRINGS" "Z" ∈ lw_tbl := List.mem_append_right _ (List.mem_append_right _ (List.mem_append_left _ (List.mem_of_getElem? (i := 229) (by decide +kernel))))
theorem sl_f : Cond.laysStatic "jdk/internal/util/Preconditions" "SIOOBE_FORMATTER" "Ljava/util/function/BiFunction;" ∈ lw_tbl := List.mem_append_right _ (List.mem_append_right _ (List.mem_append_right _ (List.mem_append_left _ (List.mem_of_getElem? (i := 5) (by decide +kernel)))))
theorem si_z : Cond.initialized "java/lang/String" ∈ lw_tbl := List.mem_append_right _ (List.mem_append_left _ (List.mem_of_getElem? (i := 14) (by decide +kernel)))
theorem si_f : Cond.initialized "jdk/internal/util/Preconditions" ∈ lw_tbl := List.mem_append_right _ (List.mem_append_left _ (List.mem_of_getElem? (i := 16) (by decide +kernel)))
theorem si_R : Cond.initialized R_Reader ∈ lw_tbl := List.mem_append_right _ (List.mem_append_left _ (List.mem_of_getElem? (i := 7) (by decide +kernel)))
def rows3 : List (String × List Int32) := [("NUMBERS", vv_numL), ("LEAST", vv_leastL), ("MOST", vv_mostL)]
/-- the way down a conjunction, by the bits of a number -/
def atN : Nat → Nat → Cond → Cond
  | k + 1, n, .and a b => if n % 2 = 0 then atN k (n / 2) a else atN k (n / 2) b
  | _, _, c => c
theorem atN_sub : ∀ (k n : Nat) (T c : Cond), c ∈ flatC (atN k n T) → c ∈ flatC T := by
  intro k
  induction k with
  | zero => intro n T c h; cases T <;> exact h
  | succ k ih =>
    intro n T c h
    cases T with
    | and a b =>
      show c ∈ flatC a ++ flatC b
      have h2 : c ∈ flatC (if n % 2 = 0 then atN k (n / 2) a else atN k (n / 2) b) := h
      split at h2
      · exact List.mem_append_left _ (ih _ _ _ h2)
      · exact List.mem_append_right _ (ih _ _ _ h2)
    | _ => exact h
theorem atN_mem {k n : Nat} {T c : Cond} (h : atN k n T = c) (hc : flatC c = [c]) : c ∈ flatC T := atN_sub k n T c (by rw [h, hc]; exact List.mem_singleton.mpr rfl)
theorem s3_l : ∀ q ∈ rows3, Cond.laysStatic R_Reader q.1 "[I" ∈ lw_tbl := memL_by (f := fun (q : String × List Int32) => Cond.laysStatic R_Reader q.1 "[I") (ix := [527, 533, 535]) (by decide +kernel)
def pw_s3_a : List Nat := [449, 273, 937]
theorem s3_a0 : ∀ q ∈ rows3, atN 11 (pw_s3_a.getD (if q.1 = "NUMBERS" then 0 else if q.1 = "LEAST" then 1 else 2) 0) (Jvm.Cond.and given_1 narrow_1) = Cond.arrayOf (tmS q.1) .int := by decide +kernel
theorem s3_a : ∀ q ∈ rows3, Cond.arrayOf (tmS q.1) .int ∈ fl1 := fun q hq => atN_mem (s3_a0 q hq) rfl
def pw_s3_n : List Nat := [961, 145, 105]
theorem s3_n0 : ∀ q ∈ rows3, atN 11 (pw_s3_n.getD (if q.1 = "NUMBERS" then 0 else if q.1 = "LEAST" then 1 else 2) 0) (Jvm.Cond.and given_1 narrow_1) = Cond.eq (.length (tmS q.1)) (.int (Int32.ofNat q.2.length)) := by decide +kernel
theorem s3_n : ∀ q ∈ rows3, Cond.eq (.length (tmS q.1)) (.int (Int32.ofNat q.2.length)) ∈ fl1 := fun q hq => atN_mem (s3_n0 q hq) rfl
def pw_s3_e : List (List Nat) := [[33, 289, 161, 417, 929, 97, 353, 225, 481, 993], [401, 913, 81, 337, 209, 465, 977, 49, 305, 177, 433, 945, 113, 369, 241, 497, 1009, 9, 265, 137, 393, 905, 73, 329, 201, 457, 969, 41, 297, 169], [361, 233, 489, 1001, 25, 281, 153, 409, 921, 89, 345, 217, 473, 985, 57, 313, 185, 441, 953, 121, 377, 249, 505, 1017, 5, 261, 133, 389, 901, 69]]
theorem s3_e0 : ∀ q ∈ rows3, ∀ j, j < q.2.length → atN 11 ((pw_s3_e.getD (if q.1 = "NUMBERS" then 0 else if q.1 = "LEAST" then 1 else 2) []).getD j 0) (Jvm.Cond.and given_1 narrow_1) = Cond.eq (.elem (tmS q.1) (.int (Int32.ofNat j))) (.int (q.2.getD j 0)) := by decide +kernel
theorem s3_e : ∀ q ∈ rows3, ∀ j, j < q.2.length → Cond.eq (.elem (tmS q.1) (.int (Int32.ofNat j))) (.int (q.2.getD j 0)) ∈ fl1 := fun q hq j hj => atN_mem (s3_e0 q hq j hj) rfl
theorem s3_s : ∀ q ∈ rows3, q.2.length < 2 ^ 31 := by decide +kernel
theorem tx_n : ∀ i, i < 14 → vv_txL.getD i 0 < 2 ^ 31 := by decide +kernel
def pw_tx_x : List Nat := [53, 13, 461, 493, 989, 259, 99, 979, 75, 27, 379, 103, 119, 239]
theorem tx_x0 : ∀ i, i < 14 → atN 11 (pw_tx_x.getD i 0) (Jvm.Cond.and given_1 narrow_1) = Cond.exactly (tmT i) "java/lang/String" := by decide +kernel
theorem tx_x : ∀ i, i < 14 → Cond.exactly (tmT i) "java/lang/String" ∈ fl1 := fun i hi => atN_mem (tx_x0 i hi) rfl
def pw_tx_c : List Nat := [309, 269, 973, 1005, 61, 131, 355, 51, 331, 283, 251, 359, 375, 495]
theorem tx_c0 : ∀ i, i < 14 → atN 11 (pw_tx_c.getD i 0) (Jvm.Cond.and given_1 narrow_1) = Cond.eq (.field (tmT i) "java/lang/String" "coder" "B") (.int 0) := by decide +kernel
theorem tx_c : ∀ i, i < 14 → Cond.eq (.field (tmT i) "java/lang/String" "coder" "B") (.int 0) ∈ fl1 := fun i hi => atN_mem (tx_c0 i hi) rfl
def pw_tx_a : List Nat := [181, 141, 45, 29, 317, 387, 227, 307, 203, 155, 507, 231, 247, 1007]
theorem tx_a0 : ∀ i, i < 14 → atN 11 (pw_tx_a.getD i 0) (Jvm.Cond.and given_1 narrow_1) = Cond.arrayOf (.field (tmT i) "java/lang/String" "value" "[B") .byte := by decide +kernel
theorem tx_a : ∀ i, i < 14 → Cond.arrayOf (.field (tmT i) "java/lang/String" "value" "[B") .byte ∈ fl1 := fun i hi => atN_mem (tx_a0 i hi) rfl
def pw_tx_l : List Nat := [437, 397, 301, 285, 189, 899, 483, 179, 459, 411, 1019, 487, 503, 31]
theorem tx_l0 : ∀ i, i < 14 → atN 11 (pw_tx_l.getD i 0) (Jvm.Cond.and given_1 narrow_1) = Cond.eq (.length (.field (tmT i) "java/lang/String" "value" "[B")) (.int (Int32.ofNat (vv_txL.getD i 0))) := by decide +kernel
theorem tx_l : ∀ i, i < 14 → Cond.eq (.length (.field (tmT i) "java/lang/String" "value" "[B")) (.int (Int32.ofNat (vv_txL.getD i 0))) ∈ fl1 := fun i hi => atN_mem (tx_l0 i hi) rfl
def pw_tx_e : List (List Nat) := [[949, 117, 373, 245, 501, 1013], [909, 77, 333], [173, 429, 941, 109], [157, 413, 925, 93], [445, 957, 125, 381, 893], [67, 323, 195, 451, 963], [995, 19, 275, 147], [435, 947, 115, 371, 243], [971, 43, 299], [923, 91, 347], [7, 263, 135, 391, 903], [999, 23, 279, 151, 407], [1015, 15, 271, 143, 399, 911], [287, 159, 415, 927]]
theorem tx_e0 : ∀ i, i < 14 → ∀ j, j < vv_txL.getD i 0 → atN 11 ((pw_tx_e.getD i []).getD j 0) (Jvm.Cond.and given_1 narrow_1) = Cond.eq (.elem (.field (tmT i) "java/lang/String" "value" "[B") (.int (Int32.ofNat j))) (.int ((vv_txB.getD i []).getD j 0)) := by decide +kernel
theorem tx_e : ∀ i, i < 14 → ∀ j, j < vv_txL.getD i 0 → Cond.eq (.elem (.field (tmT i) "java/lang/String" "value" "[B") (.int (Int32.ofNat j))) (.int ((vv_txB.getD i []).getD j 0)) ∈ fl1 := fun i hi j hj => atN_mem (tx_e0 i hi j hj) rfl
def pw_tx_d : List (List Nat) := [[], [205], [365, 237], [349, 221, 477], [253, 509, 1021, 3], [35, 291, 163, 419, 931], [403, 915, 83, 339, 211, 467], [499, 1011, 11, 267, 139, 395, 907], [171, 427, 939, 107, 363, 235, 491, 1003], [219, 475, 987, 59, 315, 187, 443, 955, 123], [71, 327, 199, 455, 967, 39, 295, 167, 423, 935], [919, 87, 343, 215, 471, 983, 55, 311, 183, 439, 951], [79, 335, 207, 463, 975, 47, 303, 175, 431, 943, 111, 367], [95, 351, 223, 479, 991, 63, 319, 191, 447, 959, 127, 383, 895]]
theorem tx_d0 : ∀ j, j < 14 → ∀ i, i < j → atN 11 ((pw_tx_d.getD j []).getD i 0) (Jvm.Cond.and given_1 narrow_1) = Cond.not (Cond.eq (tmT i) (tmT j)) := by decide +kernel
theorem tx_d : ∀ j, j < 14 → ∀ i, i < j → Cond.not (Cond.eq (tmT i) (tmT j)) ∈ fl1 := fun j hj i hi => atN_mem (tx_d0 j hj i hi) rfl
theorem tx_r : ∀ i, i < 14 → Cond.stringRef R_Reader (vv_txI.getD i 0) (vv_txS.getD i "") ∈ lw_tbl := memI_by (f := fun i => Cond.stringRef R_Reader (vv_txI.getD i 0) (vv_txS.getD i "")) (ix := [446, 447, 448, 449, 450, 451, 452, 453, 454, 455, 522, 523, 524, 525]) (by decide +kernel)
theorem vk_S_congr {N : Nat} {len : List Nat} {byt : List (List Int32)} {adK adV bdK bdV : Nat → Nat} {A : Nat → Prop} {U : State} {H : Heap} (h : vk_S N len byt adK adV A U H) (h1 : ∀ i, i < N → bdK i = adK i) (h2 : ∀ i, i < N → bdV i = adV i) : vk_S N len byt bdK bdV A U H :=
  ⟨fun i hi => by rw [h1 i hi, h2 i hi]; exact h.1 i hi, fun i j hi hj e => h.2 i j hi hj (by rw [← h1 i hi, ← h1 j hj]; exact e)⟩
theorem st_row {args : Array Value} {s : State} (hts : ∀ w ∈ lw_tbl, w.before args s = true) (hfl : ∀ w ∈ fl1, w.before args s = true) {A : Nat → Prop} (hA : ∀ a : Nat, a < s.heap.size → ¬ A a) (q : String × List Int32) (hq : q ∈ rows3) : ∃ t : Nat, va_Z R_Reader q.1 "[I" (.ref t) A s s.heap ∧ va_T .int t q.2.length (fun j => .int (q.2.getD j 0)) A s s.heap := by
  obtain ⟨t, ht, hT⟩ := va_Tof (f := fun j => .int (q.2.getD j 0)) (A := A) (s3_s q hq) (hfl _ (s3_a q hq)) (va_eqt (hfl _ (s3_n q hq))) (fun j hj => va_eqt (hfl _ (s3_e q hq j hj))) hA
  exact ⟨t, va_Zref (hts _ (s3_l q hq)) (hts _ si_R) ht hA, hT⟩
theorem st_Ro {args : Array Value} {s : State} (hts : ∀ w ∈ lw_tbl, w.before args s = true) (hgv : (Jvm.Cond.and given_1 narrow_1).before args s = true) {A : Nat → Prop} (hA : ∀ a : Nat, a < s.heap.size → ¬ A a) : ∃ ro : Nat → Nat, ∀ X : Xc, (∀ k, 132 ≤ k → k < 164 → X.2.1 k = ro k) → Ro X A s s.heap := by
  have hfl : ∀ w ∈ fl1, w.before args s = true := flat_of_before _ hgv
  obtain ⟨t1, z1, T1⟩ := st_row hts hfl hA ("NUMBERS", vv_numL) (by simp [rows3])
  obtain ⟨t2, z2, T2⟩ := st_row hts hfl hA ("LEAST", vv_leastL) (by simp [rows3])
  obtain ⟨t3, z3, T3⟩ := st_row hts hfl hA ("MOST", vv_mostL) (by simp [rows3])
  have hz := va_Zof (hts _ sl_z) (hts _ si_z) (va_eqt (hfl _ sf_z)) hA
  obtain ⟨tf, hf⟩ : ∃ tf : Nat, va_Z "jdk/internal/util/Preconditions" "SIOOBE_FORMATTER" "Ljava/util/function/BiFunction;" .null A s s.heap ∨ va_Z "jdk/internal/util/Preconditions" "SIOOBE_FORMATTER" "Ljava/util/function/BiFunction;" (.ref tf) A s s.heap := by
    rcases va_Zqof (hts _ sl_f) (hts _ si_f) (hfl _ sf_f) hA with h | ⟨t, h⟩
    · exact ⟨0, Or.inl h⟩
    · exact ⟨t, Or.inr h⟩
  obtain ⟨adK, adV, hS, hev⟩ := vk_Sof (N := 14) (tm := tmT) (len := vv_txL) (byt := vv_txB) (A := A) tx_n (fun i hi => hfl _ (tx_x i hi)) (fun i hi => hfl _ (tx_c i hi)) (fun i hi => hfl _ (tx_a i hi)) (fun i hi => hfl _ (tx_l i hi)) (fun i hi j hj => hfl _ (tx_e i hi j hj)) (fun i j hi hj hne => by
    by_cases hlt : i < j
    · exact Or.inl (hfl _ (tx_d j hj i hlt))
    · exact Or.inr (hfl _ (tx_d i hi j (by (first | decide +kernel | omega))))) hA
  refine ⟨fun k => if k = 132 then t1 else if k = 133 then t2 else if k = 134 then t3 else if k < 149 then adK (k - 135) else if k < 163 then adV (k - 149) else tf, fun X hX => ?_⟩
  have x1 : X.2.1 132 = t1 := hX 132 (by decide) (by decide)
  have x2 : X.2.1 133 = t2 := hX 133 (by decide) (by decide)
  have x3 : X.2.1 134 = t3 := hX 134 (by decide) (by decide)
  have xf : X.2.1 163 = tf := hX 163 (by decide) (by decide)
  have xK : ∀ i, i < 14 → X.2.1 (135 + i) = adK i := fun i hi => by
    refine (hX (135 + i) (by (first | decide +kernel | omega)) (by (first | decide +kernel | omega))).trans ?_
    show (if 135 + i = 132 then t1 else if 135 + i = 133 then t2 else if 135 + i = 134 then t3 else if 135 + i < 149 then adK (135 + i - 135) else if 135 + i < 163 then adV (135 + i - 149) else tf) = adK i
    rw [if_neg (by (first | decide +kernel | omega)), if_neg (by (first | decide +kernel | omega)), if_neg (by (first | decide +kernel | omega)), if_pos (by (first | decide +kernel | omega)), Nat.add_sub_cancel_left]
  have xV : ∀ i, i < 14 → X.2.1 (149 + i) = adV i := fun i hi => by
    refine (hX (149 + i) (by (first | decide +kernel | omega)) (by (first | decide +kernel | omega))).trans ?_
    show (if 149 + i = 132 then t1 else if 149 + i = 133 then t2 else if 149 + i = 134 then t3 else if 149 + i < 149 then adK (149 + i - 135) else if 149 + i < 163 then adV (149 + i - 149) else tf) = adV i
    rw [if_neg (by (first | decide +kernel | omega)), if_neg (by (first | decide +kernel | omega)), if_neg (by (first | decide +kernel | omega)), if_neg (by (first | decide +kernel | omega)), if_pos (by (first | decide +kernel | omega)), Nat.add_sub_cancel_left]
  refine ⟨⟨by rw [x1]; exact z1, by rw [x1]; exact T1⟩, ⟨by rw [x2]; exact z2, by rw [x2]; exact T2⟩, ⟨by rw [x3]; exact z3, by rw [x3]; exact T3⟩, hz, by rw [vv_fm, xf]; exact hf, vk_S_congr hS xK xV, fun i hi => ?_, fun q hq => va_Nw.of rfl (hts _ (tb_nest2 q hq))⟩
  rw [xK i hi]
  exact vk_R.of (hts _ (tx_r i hi)) (hev i hi)
