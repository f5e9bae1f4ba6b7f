/-! decode by the bytes at a place -/
def dcb (code : ByteArray) (pc n : Nat) : List Nat := ((code.data.toList.drop pc).take n).map UInt8.toNat
def dcA (code : ByteArray) (p n : Nat) : Prop := ∃ h : p < code.size, (code[p]'h).toNat = n
theorem dcb_at {code : ByteArray} {pc n i x : Nat} {l : List Nat} (h : dcb code pc n = l) (hi : l[i]? = some x) : dcA code (pc + i) x := by
  rw [← h] at hi
  unfold dcb at hi
  rw [List.getElem?_map] at hi
  obtain ⟨y, hy, e⟩ := Option.map_eq_some_iff.mp hi
  have hy2 : code.data.toList[pc + i]? = some y := by
    rw [List.getElem?_take] at hy
    split at hy
    · rw [List.getElem?_drop] at hy; exact hy
    · cases hy
  obtain ⟨h1, h2⟩ := List.getElem?_eq_some_iff.mp hy2
  refine ⟨h1, ?_⟩
  show (code.data.toList[pc + i]'h1).toNat = x
  rw [h2, e]
theorem dc_u1 {code : ByteArray} {p n : Nat} (h : dcA code p n) : (Reader.u1 : Decoder Nat) code p = .ok (n, p + 1) := by
  obtain ⟨h1, h2⟩ := h
  have e : (Reader.u1 : Decoder Nat) code p = (dite (p < code.size) (fun h => (fun (_ : ByteArray) (_ : Nat) => (Except.ok ((code[p]'h).toNat, p + 1) : Except DecodeError (Nat × Nat)))) (fun _ => fun _ _ => Except.error (HasTruncated.truncated p))) code p := rfl
  rw [e, dif_pos h1, h2]
theorem dc_u2 {code : ByteArray} {p a b : Nat} (ha : dcA code p a) (hb : dcA code (p + 1) b) : (Reader.u2 : Decoder Nat) code p = .ok (a * 256 + b, p + 2) := by
  show Except.bind ((Reader.u1 : Decoder Nat) code p) _ = _
  rw [dc_u1 ha]
  show Except.bind ((Reader.u1 : Decoder Nat) code (p + 1)) _ = _
  rw [dc_u1 hb]
  rfl
theorem dc_of {code : ByteArray} {pc n : Nat} {I : Instr} (e : Decoder.instr pc code pc = .ok (I, pc + n)) : decode code pc = .ok (I, n) := by
  show Except.bind (Decoder.instr pc code pc) _ = _
  rw [e]
  show Except.ok (I, pc + n - pc) = _
  rw [Nat.add_sub_cancel_left]
theorem dcc {code : ByteArray} {a r n pc : Nat} {c : List UInt8} {l : List Nat} (hc : (code.data.toList.drop a).take 70 = c) (hp : a + r = pc) (hn : r + n ≤ 70) (h : ((c.drop r).take n).map UInt8.toNat = l) : dcb code pc n = l := by
  subst hp
  subst hc
  have e : ((code.data.toList.drop a).take 70).drop r = (code.data.toList.drop (a + r)).take (70 - r) := by
    simp only [List.drop_take, List.drop_drop, Nat.add_comm]
  rw [e, List.take_take, Nat.min_eq_left (by (first | decide +kernel | omega))] at h
  exact h
def lqc_0 : List UInt8 := [187, 0, 7, 89, 183, 0, 9, 76, 187, 0, 10, 89, 183, 0, 12, 77, 3, 62, 29, 42, 190, 8, 100, 163, 5, 62, 42, 29, 46, 16, 63, 126, 170, 0, 0, 0, 0, 0, 5, 47, 0, 0, 0, 0, 0, 0, 0, 36, 0, 0, 0, 164, 0, 0, 0, 187, 0, 0, 0, 210, 0, 0, 0, 223, 0, 0, 0, 236, 0, 0]
theorem lq_0 : (code.data.toList.drop 0).take 70 = lqc_0 := by decide +kernel
def lqc_3 : List UInt8 := [0, 0, 5, 24, 43, 42, 29, 4, 96, 46, 182, 0, 13, 87, 44, 42, 29, 4, 96, 46, 182, 0, 17, 87, 167, 4, 119, 43, 42, 29, 4, 96, 46, 182, 0, 18, 87, 44, 42, 29, 4, 96, 46, 182, 0, 21, 87, 167, 4, 96, 43, 182, 0, 22, 87, 44, 182, 0, 26, 87, 167, 4, 83, 43, 182, 0, 27, 87, 44, 182]
theorem lq_3 : (code.data.toList.drop 192).take 70 = lqc_3 := by decide +kernel
def lqc_4 : List UInt8 := [182, 0, 27, 87, 44, 182, 0, 30, 87, 167, 4, 70, 43, 42, 29, 4, 96, 46, 182, 0, 31, 87, 44, 42, 29, 4, 96, 46, 182, 0, 34, 87, 167, 4, 47, 43, 42, 29, 4, 96, 46, 42, 29, 5, 96, 46, 182, 0, 35, 87, 44, 42, 29, 4, 96, 46, 42, 29, 5, 96, 46, 182, 0, 39, 87, 167, 4, 14, 43, 42]
theorem lq_4 : (code.data.toList.drop 256).take 70 = lqc_4 := by decide +kernel
def lqc_5 : List UInt8 := [87, 167, 4, 14, 43, 42, 29, 4, 96, 46, 182, 0, 40, 44, 42, 29, 4, 96, 46, 182, 0, 43, 159, 3, 249, 3, 172, 43, 42, 29, 4, 96, 46, 42, 29, 5, 96, 46, 182, 0, 44, 87, 44, 42, 29, 4, 96, 46, 42, 29, 5, 96, 46, 182, 0, 47, 87, 167, 3, 214, 43, 42, 29, 4, 96, 46, 42, 29, 5, 96]
theorem lq_5 : (code.data.toList.drop 320).take 70 = lqc_5 := by decide +kernel
def lqc_6 : List UInt8 := [96, 46, 42, 29, 5, 96, 46, 153, 0, 7, 4, 167, 0, 4, 3, 182, 0, 48, 87, 44, 42, 29, 4, 96, 46, 42, 29, 5, 96, 46, 153, 0, 7, 4, 167, 0, 4, 3, 182, 0, 52, 87, 167, 3, 165, 43, 42, 29, 4, 96, 46, 42, 29, 5, 96, 46, 182, 0, 53, 87, 44, 42, 29, 4, 96, 46, 42, 29, 5, 96]
theorem lq_6 : (code.data.toList.drop 384).take 70 = lqc_6 := by decide +kernel
def lqc_7 : List UInt8 := [96, 46, 42, 29, 5, 96, 46, 182, 0, 56, 87, 167, 3, 132, 43, 42, 29, 4, 96, 46, 42, 29, 5, 96, 46, 182, 0, 57, 87, 44, 42, 29, 4, 96, 46, 42, 29, 5, 96, 46, 182, 0, 60, 87, 167, 3, 99, 43, 42, 29, 4, 96, 46, 42, 29, 5, 96, 46, 182, 0, 61, 87, 44, 42, 29, 4, 96, 46, 42, 29]
theorem lq_7 : (code.data.toList.drop 448).take 70 = lqc_7 := by decide +kernel
def lqc_8 : List UInt8 := [29, 4, 96, 46, 42, 29, 5, 96, 46, 182, 0, 64, 87, 167, 3, 66, 43, 42, 29, 4, 96, 46, 42, 29, 5, 96, 46, 182, 0, 65, 87, 44, 42, 29, 4, 96, 46, 42, 29, 5, 96, 46, 182, 0, 68, 87, 167, 3, 33, 43, 42, 29, 4, 96, 46, 42, 29, 5, 96, 46, 42, 29, 6, 96, 46, 182, 0, 69, 87, 44]
theorem lq_8 : (code.data.toList.drop 512).take 70 = lqc_8 := by decide +kernel
def lqc_9 : List UInt8 := [46, 182, 0, 69, 87, 44, 42, 29, 4, 96, 46, 42, 29, 5, 96, 46, 42, 29, 6, 96, 46, 182, 0, 73, 87, 167, 2, 246, 43, 42, 29, 4, 96, 46, 182, 0, 74, 87, 44, 42, 29, 4, 96, 46, 182, 0, 77, 87, 167, 2, 223, 43, 42, 29, 4, 96, 46, 182, 0, 78, 87, 44, 42, 29, 4, 96, 46, 182, 0, 81]
theorem lq_9 : (code.data.toList.drop 576).take 70 = lqc_9 := by decide +kernel
def lqc_10 : List UInt8 := [4, 96, 46, 182, 0, 81, 87, 167, 2, 200, 43, 42, 29, 4, 96, 46, 42, 29, 5, 96, 46, 42, 29, 6, 96, 46, 182, 0, 82, 87, 44, 42, 29, 4, 96, 46, 42, 29, 5, 96, 46, 42, 29, 6, 96, 46, 182, 0, 85, 87, 167, 2, 157, 43, 42, 29, 4, 96, 46, 42, 29, 5, 96, 46, 42, 29, 6, 96, 46, 42]
theorem lq_10 : (code.data.toList.drop 640).take 70 = lqc_10 := by decide +kernel
def lqc_11 : List UInt8 := [42, 29, 6, 96, 46, 42, 29, 7, 96, 46, 153, 0, 7, 4, 167, 0, 4, 3, 182, 0, 86, 87, 44, 42, 29, 4, 96, 46, 42, 29, 5, 96, 46, 42, 29, 6, 96, 46, 42, 29, 7, 96, 46, 153, 0, 7, 4, 167, 0, 4, 3, 182, 0, 90, 87, 167, 2, 88, 43, 42, 29, 4, 96, 46, 182, 0, 91, 87, 44, 42]
theorem lq_11 : (code.data.toList.drop 704).take 70 = lqc_11 := by decide +kernel
def lqc_12 : List UInt8 := [182, 0, 91, 87, 44, 42, 29, 4, 96, 46, 182, 0, 94, 87, 167, 2, 65, 43, 182, 0, 95, 87, 44, 182, 0, 98, 87, 167, 2, 52, 43, 42, 29, 4, 96, 46, 182, 0, 99, 87, 44, 42, 29, 4, 96, 46, 182, 0, 102, 87, 167, 2, 29, 43, 42, 29, 4, 96, 46, 42, 29, 5, 96, 46, 182, 0, 103, 87, 44, 42]
theorem lq_12 : (code.data.toList.drop 768).take 70 = lqc_12 := by decide +kernel
def lqc_13 : List UInt8 := [182, 0, 103, 87, 44, 42, 29, 4, 96, 46, 42, 29, 5, 96, 46, 182, 0, 106, 87, 167, 1, 252, 43, 42, 29, 4, 96, 46, 42, 29, 5, 96, 46, 42, 29, 6, 96, 46, 42, 29, 7, 96, 46, 182, 0, 107, 87, 44, 42, 29, 4, 96, 46, 42, 29, 5, 96, 46, 42, 29, 6, 96, 46, 42, 29, 7, 96, 46, 182, 0]
theorem lq_13 : (code.data.toList.drop 832).take 70 = lqc_13 := by decide +kernel
def lqc_14 : List UInt8 := [29, 7, 96, 46, 182, 0, 111, 87, 167, 1, 199, 43, 42, 29, 4, 96, 46, 42, 29, 5, 96, 46, 42, 29, 6, 96, 46, 182, 0, 112, 87, 44, 42, 29, 4, 96, 46, 42, 29, 5, 96, 46, 42, 29, 6, 96, 46, 182, 0, 115, 87, 167, 1, 156, 43, 42, 29, 4, 96, 46, 42, 29, 5, 96, 46, 42, 29, 6, 96, 46]
theorem lq_14 : (code.data.toList.drop 896).take 70 = lqc_14 := by decide +kernel
def lqc_15 : List UInt8 := [46, 42, 29, 6, 96, 46, 42, 29, 7, 96, 46, 182, 0, 116, 88, 44, 42, 29, 4, 96, 46, 42, 29, 5, 96, 46, 42, 29, 6, 96, 46, 42, 29, 7, 96, 46, 182, 0, 120, 88, 167, 1, 103, 43, 42, 29, 4, 96, 46, 182, 0, 121, 87, 44, 42, 29, 4, 96, 46, 182, 0, 124, 87, 167, 1, 80, 43, 42, 29, 4]
theorem lq_15 : (code.data.toList.drop 960).take 70 = lqc_15 := by decide +kernel
def lqc_16 : List UInt8 := [1, 80, 43, 42, 29, 4, 96, 46, 42, 29, 5, 96, 46, 182, 0, 125, 87, 44, 42, 29, 4, 96, 46, 42, 29, 5, 96, 46, 182, 0, 128, 87, 167, 1, 47, 43, 42, 29, 4, 96, 46, 182, 0, 129, 87, 44, 42, 29, 4, 96, 46, 182, 0, 132, 87, 167, 1, 24, 43, 42, 29, 4, 96, 46, 182, 0, 133, 87, 44, 42]
theorem lq_16 : (code.data.toList.drop 1024).take 70 = lqc_16 := by decide +kernel
def lqc_17 : List UInt8 := [182, 0, 133, 87, 44, 42, 29, 4, 96, 46, 182, 0, 136, 87, 167, 1, 1, 43, 42, 29, 4, 96, 46, 42, 29, 5, 96, 46, 182, 0, 137, 87, 44, 42, 29, 4, 96, 46, 42, 29, 5, 96, 46, 182, 0, 140, 87, 167, 0, 224, 43, 42, 29, 4, 96, 46, 182, 0, 141, 87, 44, 42, 29, 4, 96, 46, 182, 0, 144, 87]
theorem lq_17 : (code.data.toList.drop 1088).take 70 = lqc_17 := by decide +kernel
def lqc_18 : List UInt8 := [96, 46, 182, 0, 144, 87, 167, 0, 201, 43, 42, 29, 4, 96, 46, 182, 0, 145, 87, 44, 42, 29, 4, 96, 46, 182, 0, 148, 87, 167, 0, 178, 43, 42, 29, 4, 96, 46, 42, 29, 5, 96, 46, 42, 29, 6, 96, 46, 182, 0, 149, 87, 44, 42, 29, 4, 96, 46, 42, 29, 5, 96, 46, 42, 29, 6, 96, 46, 182, 0]
theorem lq_18 : (code.data.toList.drop 1152).take 70 = lqc_18 := by decide +kernel
def lqc_19 : List UInt8 := [29, 6, 96, 46, 182, 0, 152, 87, 167, 0, 135, 43, 42, 29, 4, 96, 46, 42, 29, 5, 96, 46, 42, 29, 6, 96, 46, 182, 0, 153, 87, 44, 42, 29, 4, 96, 46, 42, 29, 5, 96, 46, 42, 29, 6, 96, 46, 182, 0, 156, 87, 167, 0, 92, 43, 42, 29, 4, 96, 46, 42, 29, 5, 96, 46, 42, 29, 6, 96, 46]
theorem lq_19 : (code.data.toList.drop 1216).take 70 = lqc_19 := by decide +kernel
def lqc_20 : List UInt8 := [46, 42, 29, 6, 96, 46, 42, 29, 7, 96, 46, 182, 0, 157, 87, 44, 42, 29, 4, 96, 46, 42, 29, 5, 96, 46, 42, 29, 6, 96, 46, 42, 29, 7, 96, 46, 182, 0, 160, 87, 167, 0, 39, 43, 182, 0, 161, 87, 44, 182, 0, 164, 87, 167, 0, 26, 43, 42, 29, 4, 96, 46, 182, 0, 165, 87, 44, 42, 29, 4]
theorem lq_20 : (code.data.toList.drop 1280).take 70 = lqc_20 := by decide +kernel
def lqc_21 : List UInt8 := [165, 87, 44, 42, 29, 4, 96, 46, 182, 0, 168, 87, 167, 0, 3, 132, 3, 5, 167, 250, 192, 4, 172]
theorem lq_21 : (code.data.toList.drop 1344).take 70 = lqc_21 := by decide +kernel
theorem dc_2 {code : ByteArray} {pc : Nat} (h : dcb code pc 1 = [2]) : decode code pc = .ok (.iconst (-1), 1) := dc_of (by
  show Except.bind ((Reader.u1 : Decoder Nat) code pc) _ = _
  rw [dc_u1 (p := pc) (dcb_at (i := 0) h rfl)]
  rfl)
theorem dc_3 {code : ByteArray} {pc : Nat} (h : dcb code pc 1 = [3]) : decode code pc = .ok (.iconst 0, 1) := dc_of (by
  show Except.bind ((Reader.u1 : Decoder Nat) code pc) _ = _
  rw [dc_u1 (p := pc) (dcb_at (i := 0) h rfl)]
  rfl)
theorem dc_4 {code : ByteArray} {pc : Nat} (h : dcb code pc 1 = [4]) : decode code pc = .ok (.iconst 1, 1) := dc_of (by
  show Except.bind ((Reader.u1 : Decoder Nat) code pc) _ = _
  rw [dc_u1 (p := pc) (dcb_at (i := 0) h rfl)]
  rfl)
theorem dc_5 {code : ByteArray} {pc : Nat} (h : dcb code pc 1 = [5]) : decode code pc = .ok (.iconst 2, 1) := dc_of (by
  show Except.bind ((Reader.u1 : Decoder Nat) code pc) _ = _
  rw [dc_u1 (p := pc) (dcb_at (i := 0) h rfl)]
  rfl)
theorem dc_6 {code : ByteArray} {pc : Nat} (h : dcb code pc 1 = [6]) : decode code pc = .ok (.iconst 3, 1) := dc_of (by
  show Except.bind ((Reader.u1 : Decoder Nat) code pc) _ = _
  rw [dc_u1 (p := pc) (dcb_at (i := 0) h rfl)]
  rfl)
theorem dc_7 {code : ByteArray} {pc : Nat} (h : dcb code pc 1 = [7]) : decode code pc = .ok (.iconst 4, 1) := dc_of (by
  show Except.bind ((Reader.u1 : Decoder Nat) code pc) _ = _
  rw [dc_u1 (p := pc) (dcb_at (i := 0) h rfl)]
  rfl)
theorem dc_8 {code : ByteArray} {pc : Nat} (h : dcb code pc 1 = [8]) : decode code pc = .ok (.iconst 5, 1) := dc_of (by
  show Except.bind ((Reader.u1 : Decoder Nat) code pc) _ = _
  rw [dc_u1 (p := pc) (dcb_at (i := 0) h rfl)]
  rfl)
theorem dc_9 {code : ByteArray} {pc : Nat} (h : dcb code pc 1 = [9]) : decode code pc = .ok (.lconst 0, 1) := dc_of (by
  show Except.bind ((Reader.u1 : Decoder Nat) code pc) _ = _
  rw [dc_u1 (p := pc) (dcb_at (i := 0) h rfl)]
  rfl)
theorem dc_10 {code : ByteArray} {pc : Nat} (h : dcb code pc 1 = [10]) : decode code pc = .ok (.lconst 1, 1) := dc_of (by
  show Except.bind ((Reader.u1 : Decoder Nat) code pc) _ = _
  rw [dc_u1 (p := pc) (dcb_at (i := 0) h rfl)]
  rfl)
theorem dc_16 {code : ByteArray} {pc a : Nat} {v : Int} (h : dcb code pc 2 = [16, a]) (e : Reader.signed 8 a = v) : decode code pc = .ok (.bipush v, 2) := dc_of (by
  subst e
  show Except.bind ((Reader.u1 : Decoder Nat) code pc) _ = _
  rw [dc_u1 (p := pc) (dcb_at (i := 0) h rfl)]
  show Except.bind ((Reader.s1 : Decoder Int) code (pc + 1)) _ = _
  rw [show (Reader.s1 : Decoder Int) code (pc + 1) = Except.map (fun q => (Reader.signed 8 q.1, q.2)) ((Reader.u1 : Decoder Nat) code (pc + 1)) from by show Except.bind _ _ = _; cases (Reader.u1 : Decoder Nat) code (pc + 1) <;> rfl, dc_u1 (p := pc + 1) (dcb_at (i := 1) h rfl)]
  rfl)
theorem dc_17 {code : ByteArray} {pc a b : Nat} {v : Int} (h : dcb code pc 3 = [17, a, b]) (e : Reader.signed 16 (a * 256 + b) = v) : decode code pc = .ok (.sipush v, 3) := dc_of (by
  subst e
  show Except.bind ((Reader.u1 : Decoder Nat) code pc) _ = _
  rw [dc_u1 (p := pc) (dcb_at (i := 0) h rfl)]
  show Except.bind ((Reader.s2 : Decoder Int) code (pc + 1)) _ = _
  rw [show (Reader.s2 : Decoder Int) code (pc + 1) = Except.map (fun q => (Reader.signed 16 q.1, q.2)) ((Reader.u2 : Decoder Nat) code (pc + 1)) from by show Except.bind _ _ = _; cases (Reader.u2 : Decoder Nat) code (pc + 1) <;> rfl, dc_u2 (p := pc + 1) (dcb_at (i := 1) h rfl) (dcb_at (i := 2) h rfl)]
  rfl)
theorem dc_18 {code : ByteArray} {pc a : Nat} {v : Nat} (h : dcb code pc 2 = [18, a]) (e : a = v) : decode code pc = .ok (.ldc v, 2) := dc_of (by
  subst e
  show Except.bind ((Reader.u1 : Decoder Nat) code pc) _ = _
  rw [dc_u1 (p := pc) (dcb_at (i := 0) h rfl)]
  show Except.bind ((Reader.u1 : Decoder Nat) code (pc + 1)) _ = _
  rw [dc_u1 (p := pc + 1) (dcb_at (i := 1) h rfl)]
  rfl)
theorem dc_19 {code : ByteArray} {pc a b : Nat} {v : Nat} (h : dcb code pc 3 = [19, a, b]) (e : a * 256 + b = v) : decode code pc = .ok (.ldc_w v, 3) := dc_of (by
  subst e
  show Except.bind ((Reader.u1 : Decoder Nat) code pc) _ = _
  rw [dc_u1 (p := pc) (dcb_at (i := 0) h rfl)]
  show Except.bind ((Reader.u2 : Decoder Nat) code (pc + 1)) _ = _
  rw [dc_u2 (p := pc + 1) (dcb_at (i := 1) h rfl) (dcb_at (i := 2) h rfl)]
  rfl)
theorem dc_20 {code : ByteArray} {pc a b : Nat} {v : Nat} (h : dcb code pc 3 = [20, a, b]) (e : a * 256 + b = v) : decode code pc = .ok (.ldc2_w v, 3) := dc_of (by
  subst e
  show Except.bind ((Reader.u1 : Decoder Nat) code pc) _ = _
  rw [dc_u1 (p := pc) (dcb_at (i := 0) h rfl)]
  show Except.bind ((Reader.u2 : Decoder Nat) code (pc + 1)) _ = _
  rw [dc_u2 (p := pc + 1) (dcb_at (i := 1) h rfl) (dcb_at (i := 2) h rfl)]
  rfl)
theorem dc_21 {code : ByteArray} {pc a : Nat} {v : Nat} (h : dcb code pc 2 = [21, a]) (e : a = v) : decode code pc = .ok (.iload v, 2) := dc_of (by
  subst e
  show Except.bind ((Reader.u1 : Decoder Nat) code pc) _ = _
  rw [dc_u1 (p := pc) (dcb_at (i := 0) h rfl)]
  show Except.bind ((Reader.u1 : Decoder Nat) code (pc + 1)) _ = _
  rw [dc_u1 (p := pc + 1) (dcb_at (i := 1) h rfl)]
  rfl)
theorem dc_22 {code : ByteArray} {pc a : Nat} {v : Nat} (h : dcb code pc 2 = [22, a]) (e : a = v) : decode code pc = .ok (.lload v, 2) := dc_of (by
  subst e
  show Except.bind ((Reader.u1 : Decoder Nat) code pc) _ = _
  rw [dc_u1 (p := pc) (dcb_at (i := 0) h rfl)]
  show Except.bind ((Reader.u1 : Decoder Nat) code (pc + 1)) _ = _
  rw [dc_u1 (p := pc + 1) (dcb_at (i := 1) h rfl)]
  rfl)
theorem dc_25 {code : ByteArray} {pc a : Nat} {v : Nat} (h : dcb code pc 2 = [25, a]) (e : a = v) : decode code pc = .ok (.aload v, 2) := dc_of (by
  subst e
  show Except.bind ((Reader.u1 : Decoder Nat) code pc) _ = _
  rw [dc_u1 (p := pc) (dcb_at (i := 0) h rfl)]
  show Except.bind ((Reader.u1 : Decoder Nat) code (pc + 1)) _ = _
  rw [dc_u1 (p := pc + 1) (dcb_at (i := 1) h rfl)]
  rfl)
theorem dc_26 {code : ByteArray} {pc : Nat} (h : dcb code pc 1 = [26]) : decode code pc = .ok (.iload_n 0, 1) := dc_of (by
  show Except.bind ((Reader.u1 : Decoder Nat) code pc) _ = _
  rw [dc_u1 (p := pc) (dcb_at (i := 0) h rfl)]
  rfl)
theorem dc_27 {code : ByteArray} {pc : Nat} (h : dcb code pc 1 = [27]) : decode code pc = .ok (.iload_n 1, 1) := dc_of (by
  show Except.bind ((Reader.u1 : Decoder Nat) code pc) _ = _
  rw [dc_u1 (p := pc) (dcb_at (i := 0) h rfl)]
  rfl)
theorem dc_28 {code : ByteArray} {pc : Nat} (h : dcb code pc 1 = [28]) : decode code pc = .ok (.iload_n 2, 1) := dc_of (by
  show Except.bind ((Reader.u1 : Decoder Nat) code pc) _ = _
  rw [dc_u1 (p := pc) (dcb_at (i := 0) h rfl)]
  rfl)
theorem dc_29 {code : ByteArray} {pc : Nat} (h : dcb code pc 1 = [29]) : decode code pc = .ok (.iload_n 3, 1) := dc_of (by
  show Except.bind ((Reader.u1 : Decoder Nat) code pc) _ = _
  rw [dc_u1 (p := pc) (dcb_at (i := 0) h rfl)]
  rfl)
theorem dc_30 {code : ByteArray} {pc : Nat} (h : dcb code pc 1 = [30]) : decode code pc = .ok (.lload_n 0, 1) := dc_of (by
  show Except.bind ((Reader.u1 : Decoder Nat) code pc) _ = _
  rw [dc_u1 (p := pc) (dcb_at (i := 0) h rfl)]
  rfl)
theorem dc_32 {code : ByteArray} {pc : Nat} (h : dcb code pc 1 = [32]) : decode code pc = .ok (.lload_n 2, 1) := dc_of (by
  show Except.bind ((Reader.u1 : Decoder Nat) code pc) _ = _
  rw [dc_u1 (p := pc) (dcb_at (i := 0) h rfl)]
  rfl)
theorem dc_33 {code : ByteArray} {pc : Nat} (h : dcb code pc 1 = [33]) : decode code pc = .ok (.lload_n 3, 1) := dc_of (by
  show Except.bind ((Reader.u1 : Decoder Nat) code pc) _ = _
  rw [dc_u1 (p := pc) (dcb_at (i := 0) h rfl)]
  rfl)
theorem dc_42 {code : ByteArray} {pc : Nat} (h : dcb code pc 1 = [42]) : decode code pc = .ok (.aload_n 0, 1) := dc_of (by
  show Except.bind ((Reader.u1 : Decoder Nat) code pc) _ = _
  rw [dc_u1 (p := pc) (dcb_at (i := 0) h rfl)]
  rfl)
theorem dc_43 {code : ByteArray} {pc : Nat} (h : dcb code pc 1 = [43]) : decode code pc = .ok (.aload_n 1, 1) := dc_of (by
  show Except.bind ((Reader.u1 : Decoder Nat) code pc) _ = _
  rw [dc_u1 (p := pc) (dcb_at (i := 0) h rfl)]
  rfl)
theorem dc_44 {code : ByteArray} {pc : Nat} (h : dcb code pc 1 = [44]) : decode code pc = .ok (.aload_n 2, 1) := dc_of (by
  show Except.bind ((Reader.u1 : Decoder Nat) code pc) _ = _
  rw [dc_u1 (p := pc) (dcb_at (i := 0) h rfl)]
  rfl)
theorem dc_45 {code : ByteArray} {pc : Nat} (h : dcb code pc 1 = [45]) : decode code pc = .ok (.aload_n 3, 1) := dc_of (by
  show Except.bind ((Reader.u1 : Decoder Nat) code pc) _ = _
  rw [dc_u1 (p := pc) (dcb_at (i := 0) h rfl)]
  rfl)
theorem dc_46 {code : ByteArray} {pc : Nat} (h : dcb code pc 1 = [46]) : decode code pc = .ok (.iaload, 1) := dc_of (by
  show Except.bind ((Reader.u1 : Decoder Nat) code pc) _ = _
  rw [dc_u1 (p := pc) (dcb_at (i := 0) h rfl)]
  rfl)
theorem dc_50 {code : ByteArray} {pc : Nat} (h : dcb code pc 1 = [50]) : decode code pc = .ok (.aaload, 1) := dc_of (by
  show Except.bind ((Reader.u1 : Decoder Nat) code pc) _ = _
  rw [dc_u1 (p := pc) (dcb_at (i := 0) h rfl)]
  rfl)
theorem dc_51 {code : ByteArray} {pc : Nat} (h : dcb code pc 1 = [51]) : decode code pc = .ok (.baload, 1) := dc_of (by
  show Except.bind ((Reader.u1 : Decoder Nat) code pc) _ = _
  rw [dc_u1 (p := pc) (dcb_at (i := 0) h rfl)]
  rfl)
theorem dc_54 {code : ByteArray} {pc a : Nat} {v : Nat} (h : dcb code pc 2 = [54, a]) (e : a = v) : decode code pc = .ok (.istore v, 2) := dc_of (by
  subst e
  show Except.bind ((Reader.u1 : Decoder Nat) code pc) _ = _
  rw [dc_u1 (p := pc) (dcb_at (i := 0) h rfl)]
  show Except.bind ((Reader.u1 : Decoder Nat) code (pc + 1)) _ = _
  rw [dc_u1 (p := pc + 1) (dcb_at (i := 1) h rfl)]
  rfl)
theorem dc_55 {code : ByteArray} {pc a : Nat} {v : Nat} (h : dcb code pc 2 = [55, a]) (e : a = v) : decode code pc = .ok (.lstore v, 2) := dc_of (by
  subst e
  show Except.bind ((Reader.u1 : Decoder Nat) code pc) _ = _
  rw [dc_u1 (p := pc) (dcb_at (i := 0) h rfl)]
  show Except.bind ((Reader.u1 : Decoder Nat) code (pc + 1)) _ = _
  rw [dc_u1 (p := pc + 1) (dcb_at (i := 1) h rfl)]
  rfl)
theorem dc_58 {code : ByteArray} {pc a : Nat} {v : Nat} (h : dcb code pc 2 = [58, a]) (e : a = v) : decode code pc = .ok (.astore v, 2) := dc_of (by
  subst e
  show Except.bind ((Reader.u1 : Decoder Nat) code pc) _ = _
  rw [dc_u1 (p := pc) (dcb_at (i := 0) h rfl)]
  show Except.bind ((Reader.u1 : Decoder Nat) code (pc + 1)) _ = _
  rw [dc_u1 (p := pc + 1) (dcb_at (i := 1) h rfl)]
  rfl)
theorem dc_59 {code : ByteArray} {pc : Nat} (h : dcb code pc 1 = [59]) : decode code pc = .ok (.istore_n 0, 1) := dc_of (by
  show Except.bind ((Reader.u1 : Decoder Nat) code pc) _ = _
  rw [dc_u1 (p := pc) (dcb_at (i := 0) h rfl)]
  rfl)
theorem dc_60 {code : ByteArray} {pc : Nat} (h : dcb code pc 1 = [60]) : decode code pc = .ok (.istore_n 1, 1) := dc_of (by
  show Except.bind ((Reader.u1 : Decoder Nat) code pc) _ = _
  rw [dc_u1 (p := pc) (dcb_at (i := 0) h rfl)]
  rfl)
theorem dc_61 {code : ByteArray} {pc : Nat} (h : dcb code pc 1 = [61]) : decode code pc = .ok (.istore_n 2, 1) := dc_of (by
  show Except.bind ((Reader.u1 : Decoder Nat) code pc) _ = _
  rw [dc_u1 (p := pc) (dcb_at (i := 0) h rfl)]
  rfl)
theorem dc_62 {code : ByteArray} {pc : Nat} (h : dcb code pc 1 = [62]) : decode code pc = .ok (.istore_n 3, 1) := dc_of (by
  show Except.bind ((Reader.u1 : Decoder Nat) code pc) _ = _
  rw [dc_u1 (p := pc) (dcb_at (i := 0) h rfl)]
  rfl)
theorem dc_66 {code : ByteArray} {pc : Nat} (h : dcb code pc 1 = [66]) : decode code pc = .ok (.lstore_n 3, 1) := dc_of (by
  show Except.bind ((Reader.u1 : Decoder Nat) code pc) _ = _
  rw [dc_u1 (p := pc) (dcb_at (i := 0) h rfl)]
  rfl)
theorem dc_76 {code : ByteArray} {pc : Nat} (h : dcb code pc 1 = [76]) : decode code pc = .ok (.astore_n 1, 1) := dc_of (by
  show Except.bind ((Reader.u1 : Decoder Nat) code pc) _ = _
  rw [dc_u1 (p := pc) (dcb_at (i := 0) h rfl)]
  rfl)
theorem dc_77 {code : ByteArray} {pc : Nat} (h : dcb code pc 1 = [77]) : decode code pc = .ok (.astore_n 2, 1) := dc_of (by
  show Except.bind ((Reader.u1 : Decoder Nat) code pc) _ = _
  rw [dc_u1 (p := pc) (dcb_at (i := 0) h rfl)]
  rfl)
theorem dc_78 {code : ByteArray} {pc : Nat} (h : dcb code pc 1 = [78]) : decode code pc = .ok (.astore_n 3, 1) := dc_of (by
  show Except.bind ((Reader.u1 : Decoder Nat) code pc) _ = _
  rw [dc_u1 (p := pc) (dcb_at (i := 0) h rfl)]
  rfl)
theorem dc_79 {code : ByteArray} {pc : Nat} (h : dcb code pc 1 = [79]) : decode code pc = .ok (.iastore, 1) := dc_of (by
  show Except.bind ((Reader.u1 : Decoder Nat) code pc) _ = _
  rw [dc_u1 (p := pc) (dcb_at (i := 0) h rfl)]
  rfl)
theorem dc_83 {code : ByteArray} {pc : Nat} (h : dcb code pc 1 = [83]) : decode code pc = .ok (.aastore, 1) := dc_of (by
  show Except.bind ((Reader.u1 : Decoder Nat) code pc) _ = _
  rw [dc_u1 (p := pc) (dcb_at (i := 0) h rfl)]
  rfl)
theorem dc_84 {code : ByteArray} {pc : Nat} (h : dcb code pc 1 = [84]) : decode code pc = .ok (.bastore, 1) := dc_of (by
  show Except.bind ((Reader.u1 : Decoder Nat) code pc) _ = _
  rw [dc_u1 (p := pc) (dcb_at (i := 0) h rfl)]
  rfl)
theorem dc_87 {code : ByteArray} {pc : Nat} (h : dcb code pc 1 = [87]) : decode code pc = .ok (.pop, 1) := dc_of (by
  show Except.bind ((Reader.u1 : Decoder Nat) code pc) _ = _
  rw [dc_u1 (p := pc) (dcb_at (i := 0) h rfl)]
  rfl)
theorem dc_88 {code : ByteArray} {pc : Nat} (h : dcb code pc 1 = [88]) : decode code pc = .ok (.pop2, 1) := dc_of (by
  show Except.bind ((Reader.u1 : Decoder Nat) code pc) _ = _
  rw [dc_u1 (p := pc) (dcb_at (i := 0) h rfl)]
  rfl)
theorem dc_89 {code : ByteArray} {pc : Nat} (h : dcb code pc 1 = [89]) : decode code pc = .ok (.dup, 1) := dc_of (by
  show Except.bind ((Reader.u1 : Decoder Nat) code pc) _ = _
  rw [dc_u1 (p := pc) (dcb_at (i := 0) h rfl)]
  rfl)
theorem dc_92 {code : ByteArray} {pc : Nat} (h : dcb code pc 1 = [92]) : decode code pc = .ok (.dup2, 1) := dc_of (by
  show Except.bind ((Reader.u1 : Decoder Nat) code pc) _ = _
  rw [dc_u1 (p := pc) (dcb_at (i := 0) h rfl)]
  rfl)
theorem dc_96 {code : ByteArray} {pc : Nat} (h : dcb code pc 1 = [96]) : decode code pc = .ok (.iadd, 1) := dc_of (by
  show Except.bind ((Reader.u1 : Decoder Nat) code pc) _ = _
  rw [dc_u1 (p := pc) (dcb_at (i := 0) h rfl)]
  rfl)
theorem dc_97 {code : ByteArray} {pc : Nat} (h : dcb code pc 1 = [97]) : decode code pc = .ok (.ladd, 1) := dc_of (by
  show Except.bind ((Reader.u1 : Decoder Nat) code pc) _ = _
  rw [dc_u1 (p := pc) (dcb_at (i := 0) h rfl)]
  rfl)
theorem dc_100 {code : ByteArray} {pc : Nat} (h : dcb code pc 1 = [100]) : decode code pc = .ok (.isub, 1) := dc_of (by
  show Except.bind ((Reader.u1 : Decoder Nat) code pc) _ = _
  rw [dc_u1 (p := pc) (dcb_at (i := 0) h rfl)]
  rfl)
theorem dc_101 {code : ByteArray} {pc : Nat} (h : dcb code pc 1 = [101]) : decode code pc = .ok (.lsub, 1) := dc_of (by
  show Except.bind ((Reader.u1 : Decoder Nat) code pc) _ = _
  rw [dc_u1 (p := pc) (dcb_at (i := 0) h rfl)]
  rfl)
theorem dc_104 {code : ByteArray} {pc : Nat} (h : dcb code pc 1 = [104]) : decode code pc = .ok (.imul, 1) := dc_of (by
  show Except.bind ((Reader.u1 : Decoder Nat) code pc) _ = _
  rw [dc_u1 (p := pc) (dcb_at (i := 0) h rfl)]
  rfl)
theorem dc_105 {code : ByteArray} {pc : Nat} (h : dcb code pc 1 = [105]) : decode code pc = .ok (.lmul, 1) := dc_of (by
  show Except.bind ((Reader.u1 : Decoder Nat) code pc) _ = _
  rw [dc_u1 (p := pc) (dcb_at (i := 0) h rfl)]
  rfl)
theorem dc_108 {code : ByteArray} {pc : Nat} (h : dcb code pc 1 = [108]) : decode code pc = .ok (.idiv, 1) := dc_of (by
  show Except.bind ((Reader.u1 : Decoder Nat) code pc) _ = _
  rw [dc_u1 (p := pc) (dcb_at (i := 0) h rfl)]
  rfl)
theorem dc_109 {code : ByteArray} {pc : Nat} (h : dcb code pc 1 = [109]) : decode code pc = .ok (.ldiv, 1) := dc_of (by
  show Except.bind ((Reader.u1 : Decoder Nat) code pc) _ = _
  rw [dc_u1 (p := pc) (dcb_at (i := 0) h rfl)]
  rfl)
theorem dc_112 {code : ByteArray} {pc : Nat} (h : dcb code pc 1 = [112]) : decode code pc = .ok (.irem, 1) := dc_of (by
  show Except.bind ((Reader.u1 : Decoder Nat) code pc) _ = _
  rw [dc_u1 (p := pc) (dcb_at (i := 0) h rfl)]
  rfl)
theorem dc_113 {code : ByteArray} {pc : Nat} (h : dcb code pc 1 = [113]) : decode code pc = .ok (.lrem, 1) := dc_of (by
  show Except.bind ((Reader.u1 : Decoder Nat) code pc) _ = _
  rw [dc_u1 (p := pc) (dcb_at (i := 0) h rfl)]
  rfl)
theorem dc_116 {code : ByteArray} {pc : Nat} (h : dcb code pc 1 = [116]) : decode code pc = .ok (.ineg, 1) := dc_of (by
  show Except.bind ((Reader.u1 : Decoder Nat) code pc) _ = _
  rw [dc_u1 (p := pc) (dcb_at (i := 0) h rfl)]
  rfl)
theorem dc_120 {code : ByteArray} {pc : Nat} (h : dcb code pc 1 = [120]) : decode code pc = .ok (.ishl, 1) := dc_of (by
  show Except.bind ((Reader.u1 : Decoder Nat) code pc) _ = _
  rw [dc_u1 (p := pc) (dcb_at (i := 0) h rfl)]
  rfl)
theorem dc_122 {code : ByteArray} {pc : Nat} (h : dcb code pc 1 = [122]) : decode code pc = .ok (.ishr, 1) := dc_of (by
  show Except.bind ((Reader.u1 : Decoder Nat) code pc) _ = _
  rw [dc_u1 (p := pc) (dcb_at (i := 0) h rfl)]
  rfl)
theorem dc_124 {code : ByteArray} {pc : Nat} (h : dcb code pc 1 = [124]) : decode code pc = .ok (.iushr, 1) := dc_of (by
  show Except.bind ((Reader.u1 : Decoder Nat) code pc) _ = _
  rw [dc_u1 (p := pc) (dcb_at (i := 0) h rfl)]
  rfl)
theorem dc_126 {code : ByteArray} {pc : Nat} (h : dcb code pc 1 = [126]) : decode code pc = .ok (.iand, 1) := dc_of (by
  show Except.bind ((Reader.u1 : Decoder Nat) code pc) _ = _
  rw [dc_u1 (p := pc) (dcb_at (i := 0) h rfl)]
  rfl)
theorem dc_128 {code : ByteArray} {pc : Nat} (h : dcb code pc 1 = [128]) : decode code pc = .ok (.ior, 1) := dc_of (by
  show Except.bind ((Reader.u1 : Decoder Nat) code pc) _ = _
  rw [dc_u1 (p := pc) (dcb_at (i := 0) h rfl)]
  rfl)
theorem dc_130 {code : ByteArray} {pc : Nat} (h : dcb code pc 1 = [130]) : decode code pc = .ok (.ixor, 1) := dc_of (by
  show Except.bind ((Reader.u1 : Decoder Nat) code pc) _ = _
  rw [dc_u1 (p := pc) (dcb_at (i := 0) h rfl)]
  rfl)
theorem dc_132 {code : ByteArray} {pc a b : Nat} {v : Int} (h : dcb code pc 3 = [132, a, b]) (e : Reader.signed 8 b = v) : decode code pc = .ok (.iinc a v, 3) := dc_of (by
  subst e
  show Except.bind ((Reader.u1 : Decoder Nat) code pc) _ = _
  rw [dc_u1 (p := pc) (dcb_at (i := 0) h rfl)]
  show Except.bind ((Reader.u1 : Decoder Nat) code (pc + 1)) _ = _
  rw [dc_u1 (p := pc + 1) (dcb_at (i := 1) h rfl)]
  show Except.bind ((Reader.s1 : Decoder Int) code (pc + 2)) _ = _
  rw [show (Reader.s1 : Decoder Int) code (pc + 2) = Except.map (fun q => (Reader.signed 8 q.1, q.2)) ((Reader.u1 : Decoder Nat) code (pc + 2)) from by show Except.bind _ _ = _; cases (Reader.u1 : Decoder Nat) code (pc + 2) <;> rfl, dc_u1 (p := pc + 2) (dcb_at (i := 2) h rfl)]
  rfl)
theorem dc_133 {code : ByteArray} {pc : Nat} (h : dcb code pc 1 = [133]) : decode code pc = .ok (.i2l, 1) := dc_of (by
  show Except.bind ((Reader.u1 : Decoder Nat) code pc) _ = _
  rw [dc_u1 (p := pc) (dcb_at (i := 0) h rfl)]
  rfl)
theorem dc_145 {code : ByteArray} {pc : Nat} (h : dcb code pc 1 = [145]) : decode code pc = .ok (.i2b, 1) := dc_of (by
  show Except.bind ((Reader.u1 : Decoder Nat) code pc) _ = _
  rw [dc_u1 (p := pc) (dcb_at (i := 0) h rfl)]
  rfl)
theorem dc_146 {code : ByteArray} {pc : Nat} (h : dcb code pc 1 = [146]) : decode code pc = .ok (.i2c, 1) := dc_of (by
  show Except.bind ((Reader.u1 : Decoder Nat) code pc) _ = _
  rw [dc_u1 (p := pc) (dcb_at (i := 0) h rfl)]
  rfl)
theorem dc_147 {code : ByteArray} {pc : Nat} (h : dcb code pc 1 = [147]) : decode code pc = .ok (.i2s, 1) := dc_of (by
  show Except.bind ((Reader.u1 : Decoder Nat) code pc) _ = _
  rw [dc_u1 (p := pc) (dcb_at (i := 0) h rfl)]
  rfl)
theorem dc_148 {code : ByteArray} {pc : Nat} (h : dcb code pc 1 = [148]) : decode code pc = .ok (.lcmp, 1) := dc_of (by
  show Except.bind ((Reader.u1 : Decoder Nat) code pc) _ = _
  rw [dc_u1 (p := pc) (dcb_at (i := 0) h rfl)]
  rfl)
theorem dc_153 {code : ByteArray} {pc a b : Nat} {v : Int} (h : dcb code pc 3 = [153, a, b]) (e : Reader.signed 16 (a * 256 + b) = v) : decode code pc = .ok (.ifCond .eq v, 3) := dc_of (by
  subst e
  show Except.bind ((Reader.u1 : Decoder Nat) code pc) _ = _
  rw [dc_u1 (p := pc) (dcb_at (i := 0) h rfl)]
  show Except.bind ((Reader.s2 : Decoder Int) code (pc + 1)) _ = _
  rw [show (Reader.s2 : Decoder Int) code (pc + 1) = Except.map (fun q => (Reader.signed 16 q.1, q.2)) ((Reader.u2 : Decoder Nat) code (pc + 1)) from by show Except.bind _ _ = _; cases (Reader.u2 : Decoder Nat) code (pc + 1) <;> rfl, dc_u2 (p := pc + 1) (dcb_at (i := 1) h rfl) (dcb_at (i := 2) h rfl)]
  rfl)
theorem dc_154 {code : ByteArray} {pc a b : Nat} {v : Int} (h : dcb code pc 3 = [154, a, b]) (e : Reader.signed 16 (a * 256 + b) = v) : decode code pc = .ok (.ifCond .ne v, 3) := dc_of (by
  subst e
  show Except.bind ((Reader.u1 : Decoder Nat) code pc) _ = _
  rw [dc_u1 (p := pc) (dcb_at (i := 0) h rfl)]
  show Except.bind ((Reader.s2 : Decoder Int) code (pc + 1)) _ = _
  rw [show (Reader.s2 : Decoder Int) code (pc + 1) = Except.map (fun q => (Reader.signed 16 q.1, q.2)) ((Reader.u2 : Decoder Nat) code (pc + 1)) from by show Except.bind _ _ = _; cases (Reader.u2 : Decoder Nat) code (pc + 1) <;> rfl, dc_u2 (p := pc + 1) (dcb_at (i := 1) h rfl) (dcb_at (i := 2) h rfl)]
  rfl)
theorem dc_155 {code : ByteArray} {pc a b : Nat} {v : Int} (h : dcb code pc 3 = [155, a, b]) (e : Reader.signed 16 (a * 256 + b) = v) : decode code pc = .ok (.ifCond .lt v, 3) := dc_of (by
  subst e
  show Except.bind ((Reader.u1 : Decoder Nat) code pc) _ = _
  rw [dc_u1 (p := pc) (dcb_at (i := 0) h rfl)]
  show Except.bind ((Reader.s2 : Decoder Int) code (pc + 1)) _ = _
  rw [show (Reader.s2 : Decoder Int) code (pc + 1) = Except.map (fun q => (Reader.signed 16 q.1, q.2)) ((Reader.u2 : Decoder Nat) code (pc + 1)) from by show Except.bind _ _ = _; cases (Reader.u2 : Decoder Nat) code (pc + 1) <;> rfl, dc_u2 (p := pc + 1) (dcb_at (i := 1) h rfl) (dcb_at (i := 2) h rfl)]
  rfl)
theorem dc_156 {code : ByteArray} {pc a b : Nat} {v : Int} (h : dcb code pc 3 = [156, a, b]) (e : Reader.signed 16 (a * 256 + b) = v) : decode code pc = .ok (.ifCond .ge v, 3) := dc_of (by
  subst e
  show Except.bind ((Reader.u1 : Decoder Nat) code pc) _ = _
  rw [dc_u1 (p := pc) (dcb_at (i := 0) h rfl)]
  show Except.bind ((Reader.s2 : Decoder Int) code (pc + 1)) _ = _
  rw [show (Reader.s2 : Decoder Int) code (pc + 1) = Except.map (fun q => (Reader.signed 16 q.1, q.2)) ((Reader.u2 : Decoder Nat) code (pc + 1)) from by show Except.bind _ _ = _; cases (Reader.u2 : Decoder Nat) code (pc + 1) <;> rfl, dc_u2 (p := pc + 1) (dcb_at (i := 1) h rfl) (dcb_at (i := 2) h rfl)]
  rfl)
theorem dc_157 {code : ByteArray} {pc a b : Nat} {v : Int} (h : dcb code pc 3 = [157, a, b]) (e : Reader.signed 16 (a * 256 + b) = v) : decode code pc = .ok (.ifCond .gt v, 3) := dc_of (by
  subst e
  show Except.bind ((Reader.u1 : Decoder Nat) code pc) _ = _
  rw [dc_u1 (p := pc) (dcb_at (i := 0) h rfl)]
  show Except.bind ((Reader.s2 : Decoder Int) code (pc + 1)) _ = _
  rw [show (Reader.s2 : Decoder Int) code (pc + 1) = Except.map (fun q => (Reader.signed 16 q.1, q.2)) ((Reader.u2 : Decoder Nat) code (pc + 1)) from by show Except.bind _ _ = _; cases (Reader.u2 : Decoder Nat) code (pc + 1) <;> rfl, dc_u2 (p := pc + 1) (dcb_at (i := 1) h rfl) (dcb_at (i := 2) h rfl)]
  rfl)
theorem dc_158 {code : ByteArray} {pc a b : Nat} {v : Int} (h : dcb code pc 3 = [158, a, b]) (e : Reader.signed 16 (a * 256 + b) = v) : decode code pc = .ok (.ifCond .le v, 3) := dc_of (by
  subst e
  show Except.bind ((Reader.u1 : Decoder Nat) code pc) _ = _
  rw [dc_u1 (p := pc) (dcb_at (i := 0) h rfl)]
  show Except.bind ((Reader.s2 : Decoder Int) code (pc + 1)) _ = _
  rw [show (Reader.s2 : Decoder Int) code (pc + 1) = Except.map (fun q => (Reader.signed 16 q.1, q.2)) ((Reader.u2 : Decoder Nat) code (pc + 1)) from by show Except.bind _ _ = _; cases (Reader.u2 : Decoder Nat) code (pc + 1) <;> rfl, dc_u2 (p := pc + 1) (dcb_at (i := 1) h rfl) (dcb_at (i := 2) h rfl)]
  rfl)
theorem dc_159 {code : ByteArray} {pc a b : Nat} {v : Int} (h : dcb code pc 3 = [159, a, b]) (e : Reader.signed 16 (a * 256 + b) = v) : decode code pc = .ok (.if_icmp .eq v, 3) := dc_of (by
  subst e
  show Except.bind ((Reader.u1 : Decoder Nat) code pc) _ = _
  rw [dc_u1 (p := pc) (dcb_at (i := 0) h rfl)]
  show Except.bind ((Reader.s2 : Decoder Int) code (pc + 1)) _ = _
  rw [show (Reader.s2 : Decoder Int) code (pc + 1) = Except.map (fun q => (Reader.signed 16 q.1, q.2)) ((Reader.u2 : Decoder Nat) code (pc + 1)) from by show Except.bind _ _ = _; cases (Reader.u2 : Decoder Nat) code (pc + 1) <;> rfl, dc_u2 (p := pc + 1) (dcb_at (i := 1) h rfl) (dcb_at (i := 2) h rfl)]
  rfl)
theorem dc_160 {code : ByteArray} {pc a b : Nat} {v : Int} (h : dcb code pc 3 = [160, a, b]) (e : Reader.signed 16 (a * 256 + b) = v) : decode code pc = .ok (.if_icmp .ne v, 3) := dc_of (by
  subst e
  show Except.bind ((Reader.u1 : Decoder Nat) code pc) _ = _
  rw [dc_u1 (p := pc) (dcb_at (i := 0) h rfl)]
  show Except.bind ((Reader.s2 : Decoder Int) code (pc + 1)) _ = _
  rw [show (Reader.s2 : Decoder Int) code (pc + 1) = Except.map (fun q => (Reader.signed 16 q.1, q.2)) ((Reader.u2 : Decoder Nat) code (pc + 1)) from by show Except.bind _ _ = _; cases (Reader.u2 : Decoder Nat) code (pc + 1) <;> rfl, dc_u2 (p := pc + 1) (dcb_at (i := 1) h rfl) (dcb_at (i := 2) h rfl)]
  rfl)
theorem dc_161 {code : ByteArray} {pc a b : Nat} {v : Int} (h : dcb code pc 3 = [161, a, b]) (e : Reader.signed 16 (a * 256 + b) = v) : decode code pc = .ok (.if_icmp .lt v, 3) := dc_of (by
  subst e
  show Except.bind ((Reader.u1 : Decoder Nat) code pc) _ = _
  rw [dc_u1 (p := pc) (dcb_at (i := 0) h rfl)]
  show Except.bind ((Reader.s2 : Decoder Int) code (pc + 1)) _ = _
  rw [show (Reader.s2 : Decoder Int) code (pc + 1) = Except.map (fun q => (Reader.signed 16 q.1, q.2)) ((Reader.u2 : Decoder Nat) code (pc + 1)) from by show Except.bind _ _ = _; cases (Reader.u2 : Decoder Nat) code (pc + 1) <;> rfl, dc_u2 (p := pc + 1) (dcb_at (i := 1) h rfl) (dcb_at (i := 2) h rfl)]
  rfl)
theorem dc_162 {code : ByteArray} {pc a b : Nat} {v : Int} (h : dcb code pc 3 = [162, a, b]) (e : Reader.signed 16 (a * 256 + b) = v) : decode code pc = .ok (.if_icmp .ge v, 3) := dc_of (by
  subst e
  show Except.bind ((Reader.u1 : Decoder Nat) code pc) _ = _
  rw [dc_u1 (p := pc) (dcb_at (i := 0) h rfl)]
  show Except.bind ((Reader.s2 : Decoder Int) code (pc + 1)) _ = _
  rw [show (Reader.s2 : Decoder Int) code (pc + 1) = Except.map (fun q => (Reader.signed 16 q.1, q.2)) ((Reader.u2 : Decoder Nat) code (pc + 1)) from by show Except.bind _ _ = _; cases (Reader.u2 : Decoder Nat) code (pc + 1) <;> rfl, dc_u2 (p := pc + 1) (dcb_at (i := 1) h rfl) (dcb_at (i := 2) h rfl)]
  rfl)
theorem dc_163 {code : ByteArray} {pc a b : Nat} {v : Int} (h : dcb code pc 3 = [163, a, b]) (e : Reader.signed 16 (a * 256 + b) = v) : decode code pc = .ok (.if_icmp .gt v, 3) := dc_of (by
  subst e
  show Except.bind ((Reader.u1 : Decoder Nat) code pc) _ = _
  rw [dc_u1 (p := pc) (dcb_at (i := 0) h rfl)]
  show Except.bind ((Reader.s2 : Decoder Int) code (pc + 1)) _ = _
  rw [show (Reader.s2 : Decoder Int) code (pc + 1) = Except.map (fun q => (Reader.signed 16 q.1, q.2)) ((Reader.u2 : Decoder Nat) code (pc + 1)) from by show Except.bind _ _ = _; cases (Reader.u2 : Decoder Nat) code (pc + 1) <;> rfl, dc_u2 (p := pc + 1) (dcb_at (i := 1) h rfl) (dcb_at (i := 2) h rfl)]
  rfl)
theorem dc_164 {code : ByteArray} {pc a b : Nat} {v : Int} (h : dcb code pc 3 = [164, a, b]) (e : Reader.signed 16 (a * 256 + b) = v) : decode code pc = .ok (.if_icmp .le v, 3) := dc_of (by
  subst e
  show Except.bind ((Reader.u1 : Decoder Nat) code pc) _ = _
  rw [dc_u1 (p := pc) (dcb_at (i := 0) h rfl)]
  show Except.bind ((Reader.s2 : Decoder Int) code (pc + 1)) _ = _
  rw [show (Reader.s2 : Decoder Int) code (pc + 1) = Except.map (fun q => (Reader.signed 16 q.1, q.2)) ((Reader.u2 : Decoder Nat) code (pc + 1)) from by show Except.bind _ _ = _; cases (Reader.u2 : Decoder Nat) code (pc + 1) <;> rfl, dc_u2 (p := pc + 1) (dcb_at (i := 1) h rfl) (dcb_at (i := 2) h rfl)]
  rfl)
theorem dc_167 {code : ByteArray} {pc a b : Nat} {v : Int} (h : dcb code pc 3 = [167, a, b]) (e : Reader.signed 16 (a * 256 + b) = v) : decode code pc = .ok (.goto v, 3) := dc_of (by
  subst e
  show Except.bind ((Reader.u1 : Decoder Nat) code pc) _ = _
  rw [dc_u1 (p := pc) (dcb_at (i := 0) h rfl)]
  show Except.bind ((Reader.s2 : Decoder Int) code (pc + 1)) _ = _
  rw [show (Reader.s2 : Decoder Int) code (pc + 1) = Except.map (fun q => (Reader.signed 16 q.1, q.2)) ((Reader.u2 : Decoder Nat) code (pc + 1)) from by show Except.bind _ _ = _; cases (Reader.u2 : Decoder Nat) code (pc + 1) <;> rfl, dc_u2 (p := pc + 1) (dcb_at (i := 1) h rfl) (dcb_at (i := 2) h rfl)]
  rfl)
theorem dc_172 {code : ByteArray} {pc : Nat} (h : dcb code pc 1 = [172]) : decode code pc = .ok (.ireturn, 1) := dc_of (by
  show Except.bind ((Reader.u1 : Decoder Nat) code pc) _ = _
  rw [dc_u1 (p := pc) (dcb_at (i := 0) h rfl)]
  rfl)
theorem dc_173 {code : ByteArray} {pc : Nat} (h : dcb code pc 1 = [173]) : decode code pc = .ok (.lreturn, 1) := dc_of (by
  show Except.bind ((Reader.u1 : Decoder Nat) code pc) _ = _
  rw [dc_u1 (p := pc) (dcb_at (i := 0) h rfl)]
  rfl)
theorem dc_176 {code : ByteArray} {pc : Nat} (h : dcb code pc 1 = [176]) : decode code pc = .ok (.areturn, 1) := dc_of (by
  show Except.bind ((Reader.u1 : Decoder Nat) code pc) _ = _
  rw [dc_u1 (p := pc) (dcb_at (i := 0) h rfl)]
  rfl)
theorem dc_177 {code : ByteArray} {pc : Nat} (h : dcb code pc 1 = [177]) : decode code pc = .ok (.return_, 1) := dc_of (by
  show Except.bind ((Reader.u1 : Decoder Nat) code pc) _ = _
  rw [dc_u1 (p := pc) (dcb_at (i := 0) h rfl)]
  rfl)
theorem dc_178 {code : ByteArray} {pc a b : Nat} {v : Nat} (h : dcb code pc 3 = [178, a, b]) (e : a * 256 + b = v) : decode code pc = .ok (.getstatic v, 3) := dc_of (by
  subst e
  show Except.bind ((Reader.u1 : Decoder Nat) code pc) _ = _
  rw [dc_u1 (p := pc) (dcb_at (i := 0) h rfl)]
  show Except.bind ((Reader.u2 : Decoder Nat) code (pc + 1)) _ = _
  rw [dc_u2 (p := pc + 1) (dcb_at (i := 1) h rfl) (dcb_at (i := 2) h rfl)]
  rfl)
theorem dc_180 {code : ByteArray} {pc a b : Nat} {v : Nat} (h : dcb code pc 3 = [180, a, b]) (e : a * 256 + b = v) : decode code pc = .ok (.getfield v, 3) := dc_of (by
  subst e
  show Except.bind ((Reader.u1 : Decoder Nat) code pc) _ = _
  rw [dc_u1 (p := pc) (dcb_at (i := 0) h rfl)]
  show Except.bind ((Reader.u2 : Decoder Nat) code (pc + 1)) _ = _
  rw [dc_u2 (p := pc + 1) (dcb_at (i := 1) h rfl) (dcb_at (i := 2) h rfl)]
  rfl)
theorem dc_181 {code : ByteArray} {pc a b : Nat} {v : Nat} (h : dcb code pc 3 = [181, a, b]) (e : a * 256 + b = v) : decode code pc = .ok (.putfield v, 3) := dc_of (by
  subst e
  show Except.bind ((Reader.u1 : Decoder Nat) code pc) _ = _
  rw [dc_u1 (p := pc) (dcb_at (i := 0) h rfl)]
  show Except.bind ((Reader.u2 : Decoder Nat) code (pc + 1)) _ = _
  rw [dc_u2 (p := pc + 1) (dcb_at (i := 1) h rfl) (dcb_at (i := 2) h rfl)]
  rfl)
theorem dc_182 {code : ByteArray} {pc a b : Nat} {v : Nat} (h : dcb code pc 3 = [182, a, b]) (e : a * 256 + b = v) : decode code pc = .ok (.invokevirtual v, 3) := dc_of (by
  subst e
  show Except.bind ((Reader.u1 : Decoder Nat) code pc) _ = _
  rw [dc_u1 (p := pc) (dcb_at (i := 0) h rfl)]
  show Except.bind ((Reader.u2 : Decoder Nat) code (pc + 1)) _ = _
  rw [dc_u2 (p := pc + 1) (dcb_at (i := 1) h rfl) (dcb_at (i := 2) h rfl)]
  rfl)
theorem dc_183 {code : ByteArray} {pc a b : Nat} {v : Nat} (h : dcb code pc 3 = [183, a, b]) (e : a * 256 + b = v) : decode code pc = .ok (.invokespecial v, 3) := dc_of (by
  subst e
  show Except.bind ((Reader.u1 : Decoder Nat) code pc) _ = _
  rw [dc_u1 (p := pc) (dcb_at (i := 0) h rfl)]
  show Except.bind ((Reader.u2 : Decoder Nat) code (pc + 1)) _ = _
  rw [dc_u2 (p := pc + 1) (dcb_at (i := 1) h rfl) (dcb_at (i := 2) h rfl)]
  rfl)
theorem dc_184 {code : ByteArray} {pc a b : Nat} {v : Nat} (h : dcb code pc 3 = [184, a, b]) (e : a * 256 + b = v) : decode code pc = .ok (.invokestatic v, 3) := dc_of (by
  subst e
  show Except.bind ((Reader.u1 : Decoder Nat) code pc) _ = _
  rw [dc_u1 (p := pc) (dcb_at (i := 0) h rfl)]
  show Except.bind ((Reader.u2 : Decoder Nat) code (pc + 1)) _ = _
  rw [dc_u2 (p := pc + 1) (dcb_at (i := 1) h rfl) (dcb_at (i := 2) h rfl)]
  rfl)
theorem dc_187 {code : ByteArray} {pc a b : Nat} {v : Nat} (h : dcb code pc 3 = [187, a, b]) (e : a * 256 + b = v) : decode code pc = .ok (.new v, 3) := dc_of (by
  subst e
  show Except.bind ((Reader.u1 : Decoder Nat) code pc) _ = _
  rw [dc_u1 (p := pc) (dcb_at (i := 0) h rfl)]
  show Except.bind ((Reader.u2 : Decoder Nat) code (pc + 1)) _ = _
  rw [dc_u2 (p := pc + 1) (dcb_at (i := 1) h rfl) (dcb_at (i := 2) h rfl)]
  rfl)
theorem dc_189 {code : ByteArray} {pc a b : Nat} {v : Nat} (h : dcb code pc 3 = [189, a, b]) (e : a * 256 + b = v) : decode code pc = .ok (.anewarray v, 3) := dc_of (by
  subst e
  show Except.bind ((Reader.u1 : Decoder Nat) code pc) _ = _
  rw [dc_u1 (p := pc) (dcb_at (i := 0) h rfl)]
  show Except.bind ((Reader.u2 : Decoder Nat) code (pc + 1)) _ = _
  rw [dc_u2 (p := pc + 1) (dcb_at (i := 1) h rfl) (dcb_at (i := 2) h rfl)]
  rfl)
theorem dc_190 {code : ByteArray} {pc : Nat} (h : dcb code pc 1 = [190]) : decode code pc = .ok (.arraylength, 1) := dc_of (by
  show Except.bind ((Reader.u1 : Decoder Nat) code pc) _ = _
  rw [dc_u1 (p := pc) (dcb_at (i := 0) h rfl)]
  rfl)
