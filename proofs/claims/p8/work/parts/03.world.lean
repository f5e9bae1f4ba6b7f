abbrev Hp : Type := (Nat → Nat → Int32) × Int64
abbrev Sl : Type := Nat ⊕ Bool
abbrev Sk : Type := (Nat × Nat × Option (List Nat)) ⊕ (Nat × List Sl)
abbrev Xc : Type := va_G × (Nat → Nat) × (Nat → ClassId)
abbrev Pl : Type := List (Option Value)
def vv_ar (n : Nat) : Sk := .inl (0, n, none)
/-- a county at place k: 17 places -/
def vv_cty (k : Nat) : List Sk := [.inr (1, [.inl (k + 1), .inl (k + 7), .inl (k + 12), .inr false, .inr false]), .inr (2, [.inr false, .inr false, .inr false, .inr false, .inl (k + 2), .inl (k + 3), .inl (k + 4), .inl (k + 5), .inl (k + 6)]), vv_ar 16, vv_ar 16, vv_ar 16, vv_ar 16, vv_ar 16, .inr (3, [.inl (k + 8), .inl (k + 9), .inl (k + 10), .inl (k + 11), .inr false]), vv_ar 4, vv_ar 8, vv_ar 8, vv_ar 8, .inr (7, [.inl (k + 13), .inl (k + 14), .inl (k + 15), .inl (k + 16), .inr false]), vv_ar 8, vv_ar 8, vv_ar 8, vv_ar 8]
def vv_sk : List Sk := vv_cty 0 ++ vv_cty 17 ++ vv_cty 34 ++ vv_cty 51 ++ vv_cty 68 ++ [.inr (10, [.inl 0, .inl 17, .inl 86, .inl 87, .inl 88, .inl 89, .inl 93, .inl 102, .inl 104, .inl 107, .inr false]), .inl (3, 2, some [34, 51]), .inl (2, 2, none), .inr (5, [.inl 89, .inl 68, .inl 91, .inl 92, .inr false, .inr false, .inr false]), .inr (8, [.inl 90, .inr false, .inr false, .inr false, .inr false, .inr false]), .inl (1, 160, none), vv_ar 3, vv_ar 10, .inr (9, [.inl 94, .inl 101]), .inl (5, 6, some [95, 96, 97, 98, 99, 100]), vv_ar 16, vv_ar 16, vv_ar 16, vv_ar 16, vv_ar 16, vv_ar 16, vv_ar 6, .inr (4, [.inl 103, .inr false, .inr false]), vv_ar 4, .inr (0, [.inl 105, .inr false, .inl 106, .inr false, .inr false, .inr false, .inr false, .inr false]), vv_ar 48, vv_ar 10, .inl (4, 4, some [108, 110, 112, 114]), .inr (6, [.inl 109, .inr false, .inr false]), vv_ar 40, .inr (6, [.inl 111, .inr false, .inr false]), vv_ar 40, .inr (6, [.inl 113, .inr false, .inr false]), vv_ar 40, .inr (6, [.inl 115, .inr false, .inr false]), vv_ar 40, .inr (11, [.inl 117, .inl 118, .inr false, .inr false, .inr false, .inr false, .inl 119, .inr false, .inr false, .inr false, .inr false, .inr false, .inl 120, .inr false, .inl 121, .inr false, .inr false, .inr false, .inr false, .inr false, .inr false, .inr false, .inl 122, .inl 123, .inl 124, .inr false, .inr true, .inl 125, .inr false, .inl 126, .inr false, .inl 127, .inl 128, .inl 129, .inl 130, .inr false, .inl 131]), vv_ar 432, .inl (2, 2, none), vv_ar 144, vv_ar 6, vv_ar 160, vv_ar 128, vv_ar 4, vv_ar 4, vv_ar 48, vv_ar 4, vv_ar 16, vv_ar 4, vv_ar 4, vv_ar 160, vv_ar 20]
theorem vv_skN : vv_sk.length = 132 := by decide +kernel
def rv (ad : Nat → Nat) (v : Value) : Value := match v with
  | .ref k => .ref (ad k)
  | w => w
theorem rv_cat (ad : Nat → Nat) (v : Value) : (rv ad v).category = v.category := by cases v <;> rfl
/-- what a slot holds, by places -/
def slP (h : Hp) (k i : Nat) (sl : Sl) : Value := match sl with
  | .inl r => .ref r
  | .inr false => .int (h.1 k i)
  | .inr true => .long h.2
def clE (X : Xc) (h : Hp) (k : Nat) (q : Sk) : va_E := match q with
  | .inl (t, n, none) => .inl (X.2.2 t, n, .inl (h.1 k))
  | .inl (t, n, some f) => .inl (X.2.2 t, n, .inr (.inr (.inr (.inr (fun j => (f[j]?).map X.2.1)))))
  | .inr (ci, ss) => .inr (ci, ss.mapIdx (fun i sl => rv X.2.1 (slP h k i sl)))
def wsX (X : Xc) (h : Hp) : va_W := vv_sk.mapIdx (fun k q => (X.2.1 k, clE X h k q))
def tysX (X : Xc) : List (ClassId × FieldType) := [(X.2.2 0, .int), (X.2.2 1, .byte), (X.2.2 2, .boolean), (X.2.2 3, .object "RodOwes$County"), (X.2.2 4, .object "RodOwes$Sheet"), (X.2.2 5, .array .int)]
theorem wsX_get {X : Xc} {h : Hp} {k : Nat} {q : Sk} (hs : vv_sk[k]? = some q) : (wsX X h)[k]? = some (X.2.1 k, clE X h k q) := by
  unfold wsX
  rw [List.getElem?_mapIdx, hs]
  rfl
theorem wsX_inv {X : Xc} {h : Hp} {k : Nat} {q : Nat × va_E} (hs : (wsX X h)[k]? = some q) : k < 132 ∧ q.1 = X.2.1 k := by
  unfold wsX at hs
  rw [List.getElem?_mapIdx] at hs
  cases hq : vv_sk[k]? with
  | none => rw [hq] at hs; cases hs
  | some z =>
    rw [hq] at hs
    cases hs
    exact ⟨by have := (List.getElem?_eq_some_iff.mp hq).1; rw [vv_skN] at this; exact this, rfl⟩
def adOk (X : Xc) (A : Nat → Prop) : Prop := (∀ i j : Nat, i < 132 → j < 132 → X.2.1 i = X.2.1 j → i = j) ∧ ∀ k : Nat, k < 132 → A (X.2.1 k)
theorem adOk.D {X : Xc} {A : Nat → Prop} (h : adOk X A) (g : Hp) : va_D A (wsX X g) := by
  refine ⟨fun i j p q hi hj e => ?_, fun k q hk => ?_⟩
  · obtain ⟨a1, a2⟩ := wsX_inv hi
    obtain ⟨b1, b2⟩ := wsX_inv hj
    exact h.1 i j a1 b1 (by rw [← a2, ← b2]; exact e)
  · obtain ⟨a1, a2⟩ := wsX_inv hk
    rw [a2]
    exact h.2 k a1
/-- a row of a place replaced; one element; the long -/
def pR (h : Hp) (k : Nat) (f : Nat → Int32) : Hp := (fun a => if a = k then f else h.1 a, h.2)
def pI (h : Hp) (k i : Nat) (x : Int32) : Hp := pR h k (upd (h.1 k) i x)
def pL (h : Hp) (x : Int64) : Hp := (h.1, x)
theorem pR_eq (h : Hp) (k : Nat) (f : Nat → Int32) : (pR h k f).1 k = f := if_pos rfl
theorem pR_ne {h : Hp} {k j : Nat} {f : Nat → Int32} (e : j ≠ k) : (pR h k f).1 j = h.1 j := if_neg e
theorem pI_eq (h : Hp) (k i : Nat) (x : Int32) : (pI h k i x).1 k i = x := by rw [pI, pR_eq]; exact if_pos rfl
theorem pI_ne {h : Hp} {k j i : Nat} {x : Int32} (e : j ≠ k) : (pI h k i x).1 j = h.1 j := if_neg e
theorem pI_nei {h : Hp} {k i j : Nat} {x : Int32} (e : j ≠ i) : (pI h k i x).1 k j = h.1 k j := by rw [pI, pR_eq]; exact if_neg e
theorem clE_ne {X : Xc} {h : Hp} {k j : Nat} {f : Nat → Int32} (q : Sk) (e : j ≠ k) : clE X (pR h k f) j q = clE X h j q := by
  have e1 : (pR h k f).1 j = h.1 j := pR_ne e
  match q with
  | .inl (t, n, none) => simp only [clE, e1]
  | .inl (t, n, some f) => rfl
  | .inr (ci, ss) =>
    have e2 : (fun (i : Nat) (sl : Sl) => rv X.2.1 (slP (pR h k f) j i sl)) = (fun (i : Nat) (sl : Sl) => rv X.2.1 (slP h j i sl)) := by
      funext i sl
      match sl with
      | .inl r => rfl
      | .inr false => simp only [slP, e1]
      | .inr true => rfl
    simp only [clE, e2]
theorem wsX_upd {X : Xc} {h : Hp} {k : Nat} {q : Sk} {f : Nat → Int32} {E : va_E} (hs : vv_sk[k]? = some q) (hE : E = clE X (pR h k f) k q) : (wsX X h).set k (X.2.1 k, E) = wsX X (pR h k f) := by
  apply List.ext_getElem?
  intro j
  by_cases hj : j = k
  · subst hj
    rw [wsX_get (h := pR h j f) hs, hE]
    have hl : j < (wsX X h).length := by
      have := (List.getElem?_eq_some_iff.mp (wsX_get (X := X) (h := h) hs)).1
      exact this
    rw [List.getElem?_set_self hl]
  · rw [List.getElem?_set_ne (fun e => hj e.symm)]
    unfold wsX
    rw [List.getElem?_mapIdx, List.getElem?_mapIdx]
    cases hq : vv_sk[j]? with
    | none => rfl
    | some z =>
      show some (X.2.1 j, clE X h j z) = some (X.2.1 j, clE X (pR h k f) j z)
      rw [clE_ne z hj]
theorem wsX_row {X : Xc} {h : Hp} {k t n : Nat} {f : Nat → Int32} (hs : vv_sk[k]? = some (.inl (t, n, none))) : (wsX X h).set k (X.2.1 k, .inl (X.2.2 t, n, .inl f)) = wsX X (pR h k f) :=
  wsX_upd hs (by simp only [clE, pR_eq])
theorem wsX_fld {X : Xc} {h : Hp} {k ci i : Nat} {ss : List Sl} {x : Int32} (hs : vv_sk[k]? = some (.inr (ci, ss))) (hi : ss[i]? = some (.inr false)) : (wsX X h).set k (X.2.1 k, .inr (ci, (ss.mapIdx (fun i sl => rv X.2.1 (slP h k i sl))).set i (.int x))) = wsX X (pI h k i x) := by
  refine wsX_upd hs ?_
  simp only [clE]
  congr 2
  apply List.ext_getElem?
  intro j
  by_cases hj : j = i
  · subst hj
    have hl : j < (ss.mapIdx (fun i sl => rv X.2.1 (slP h k i sl))).length := by
      rw [List.length_mapIdx]
      exact (List.getElem?_eq_some_iff.mp hi).1
    rw [List.getElem?_set_self hl, List.getElem?_mapIdx, hi]
    show some _ = some _
    have : (pR h k (upd (h.1 k) j x)).1 k j = x := by rw [pR_eq]; exact if_pos rfl
    simp only [slP, rv, this]
  · rw [List.getElem?_set_ne (fun e => hj e.symm), List.getElem?_mapIdx, List.getElem?_mapIdx]
    cases hq : ss[j]? with
    | none => rfl
    | some z =>
      show some _ = some _
      have : (pR h k (upd (h.1 k) i x)).1 k j = h.1 k j := by rw [pR_eq]; exact if_neg hj
      match z with
      | .inl r => rfl
      | .inr false => simp only [slP, rv, this]
      | .inr true => rfl
def vv_noL (q : Sk) : Bool := match q with
  | .inl _ => true
  | .inr (_, ss) => ss.all (fun s => match s with | .inr true => false | _ => true)
theorem vv_oneL : ∀ k, k < 132 → k ≠ 116 → (vv_sk[k]?.map vv_noL) = some true := by decide +kernel
theorem clE_noL {X : Xc} {h : Hp} {k : Nat} {x : Int64} {q : Sk} (hq : vv_noL q = true) : clE X (pL h x) k q = clE X h k q := by
  match q with
  | .inl (t, n, none) => rfl
  | .inl (t, n, some f) => rfl
  | .inr (ci, ss) =>
    simp only [clE]
    congr 2
    apply List.ext_getElem?
    intro j
    rw [List.getElem?_mapIdx, List.getElem?_mapIdx]
    cases hz : ss[j]? with
    | none => rfl
    | some z =>
      have := List.all_eq_true.mp hq z (List.mem_of_getElem? hz)
      match z with
      | .inl r => rfl
      | .inr false => rfl
      | .inr true => cases this
theorem wsX_long {X : Xc} {h : Hp} {ci : Nat} {ss : List Sl} {x : Int64} (hs : vv_sk[116]? = some (.inr (ci, ss))) (hi : ss[26]? = some (.inr true)) (ho : ∀ j, j ≠ 26 → ss[j]? ≠ some (.inr true)) : (wsX X h).set 116 (X.2.1 116, .inr (ci, (ss.mapIdx (fun i sl => rv X.2.1 (slP h 116 i sl))).set 26 (.long x))) = wsX X (pL h x) := by
  apply List.ext_getElem?
  intro j
  by_cases hj : j = 116
  · subst hj
    rw [wsX_get (h := pL h x) hs]
    rw [List.getElem?_set_self (List.getElem?_eq_some_iff.mp (wsX_get (X := X) (h := h) hs)).1]
    congr 2
    simp only [clE]
    congr 2
    apply List.ext_getElem?
    intro j
    by_cases hj : j = 26
    · subst hj
      rw [List.getElem?_set_self (by rw [List.length_mapIdx]; exact (List.getElem?_eq_some_iff.mp hi).1), List.getElem?_mapIdx, hi]
      rfl
    · rw [List.getElem?_set_ne (fun e => hj e.symm), List.getElem?_mapIdx, List.getElem?_mapIdx]
      cases hq : ss[j]? with
      | none => rfl
      | some z =>
        show some _ = some _
        match z with
        | .inl r => rfl
        | .inr false => rfl
        | .inr true => exact absurd hq (ho j hj)
  · rw [List.getElem?_set_ne (fun e => hj e.symm)]
    unfold wsX
    rw [List.getElem?_mapIdx, List.getElem?_mapIdx]
    cases hq : vv_sk[j]? with
    | none => rfl
    | some z =>
      show some (X.2.1 j, clE X h j z) = some (X.2.1 j, clE X (pL h x) j z)
      have hl : j < 132 := by have := (List.getElem?_eq_some_iff.mp hq).1; rw [vv_skN] at this; exact this
      have h1 := vv_oneL j hl hj
      rw [hq] at h1
      rw [clE_noL (by simpa using h1)]
/-- what may be written: the world's cells, and what comes new -/
def vv_A (X : Xc) (sz : Nat) : Nat → Prop := fun q => (∃ k : Nat, k < 132 ∧ q = X.2.1 k) ∨ sz ≤ q
def vv_numL : List Int32 := [2, 2, 1, 2, 2, 2, 1, 1, 1, 3]
def vv_leastL : List Int32 := [2, 2, 0, 0, 1, 0, 0, 0, 0, 0, 0, 0, 0, 0, 0, 0, 0, 0, 1, 0, 0, 1, 0, 0, 1, 0, 0, 0, 0, 1]
def vv_mostL : List Int32 := [4, 4, 0, 15, 9, 0, 15, 0, 0, 15, 10, 0, 15, 3, 0, 3, 99, 0, 9, 0, 0, 99, 0, 0, 9, 0, 0, 3, 3, 99]
def vv_txI : List Nat := [182, 184, 186, 187, 188, 190, 192, 193, 194, 196, 198, 199, 201, 203]
def vv_txS : List String := ["county", "wet", "iron", "odds", "claim", "purse", "cost", "price", "rod", "owe", "water", "steps", "wishes", "both"]
def vv_txL : List Nat := [6, 3, 4, 4, 5, 5, 4, 5, 3, 3, 5, 5, 6, 4]
def vv_txB : List (List Int32) := [[99, 111, 117, 110, 116, 121], [119, 101, 116], [105, 114, 111, 110], [111, 100, 100, 115], [99, 108, 97, 105, 109], [112, 117, 114, 115, 101], [99, 111, 115, 116], [112, 114, 105, 99, 101], [114, 111, 100], [111, 119, 101], [119, 97, 116, 101, 114], [115, 116, 101, 112, 115], [119, 105, 115, 104, 101, 115], [98, 111, 116, 104]]
def vv_nest : List (String × Nat × MethodName) := [(R_County, 116, y_Rod_oneIf), (R_County, 79, y_Rod_isOwner), (R_County, 86, y_Rod_isDepth), (R_Land, 78, y_Rod_natureOf), (R_Land, 81, y_Rod_reachOf)]
def vv_ro (X : Xc) (A : Nat → Prop) (U : State) (H : Heap) (nm : String) (k : Nat) (l : List Int32) : Prop := va_Z R_Reader nm "[I" (.ref (X.2.1 k)) A U H ∧ va_T .int (X.2.1 k) l.length (fun j => .int (l.getD j 0)) A U H
/-- the formatter: null, or at place 163 -/
def vv_fm (X : Xc) (A : Nat → Prop) (U : State) (H : Heap) : Prop := va_Z "jdk/internal/util/Preconditions" "SIOOBE_FORMATTER" "Ljava/util/function/BiFunction;" .null A U H ∨ va_Z "jdk/internal/util/Preconditions" "SIOOBE_FORMATTER" "Ljava/util/function/BiFunction;" (.ref (X.2.1 163)) A U H
/-- read alone: NUMBERS at 132, LEAST at 133, MOST at 134, the texts at 135 .. 148, their bytes at 149 .. 162 -/
def Ro (X : Xc) (A : Nat → Prop) (U : State) (H : Heap) : Prop :=
  vv_ro X A U H "NUMBERS" 132 vv_numL ∧ vv_ro X A U H "LEAST" 133 vv_leastL ∧ vv_ro X A U H "MOST" 134 vv_mostL ∧
  va_Z "java/lang/String" "COMPACT_STRINGS" "Z" (.int 1) A U H ∧ vv_fm X A U H ∧
  vk_S 14 vv_txL vv_txB (fun i => X.2.1 (135 + i)) (fun i => X.2.1 (149 + i)) A U H ∧
  (∀ i : Nat, i < 14 → vk_R R_Reader (vv_txI.getD i 0) (vv_txS.getD i "") (X.2.1 (135 + i)) U) ∧
  ∀ q ∈ vv_nest, va_Nw (.methodLinkNest q.1 q.2.1 q.2.2 R_Rod) U
theorem vv_ro.to {X : Xc} {A B : Nat → Prop} {s U : State} {H H1 : Heap} {nm : String} {k : Nat} {l : List Int32} (hvm : s.vm.Alike U.vm) (hq : ∀ a : Nat, a < H.size → ¬ A a → H1[a]? = H[a]?) (hAB : ∀ q, B q → A q) (h : vv_ro X A s H nm k l) : vv_ro X B U H1 nm k l :=
  ⟨((h.1.moved hvm).kept hq).narrow hAB, ((h.2.moved hvm).kept hq).narrow hAB⟩
theorem Ro.to {X : Xc} {A B : Nat → Prop} {s U : State} {H H1 : Heap} (hW : s.WarmedH U.vm) (hq : ∀ a : Nat, a < H.size → ¬ A a → H1[a]? = H[a]?) (hAB : ∀ q, B q → A q) (h : Ro X A s H) : Ro X B U H1 := by
  obtain ⟨h1, h2, h3, h4, h5, h6, h7, h8⟩ := h
  have hvm := hW.alike
  exact ⟨h1.to hvm hq hAB, h2.to hvm hq hAB, h3.to hvm hq hAB, ((h4.moved hvm).kept hq).narrow hAB, h5.imp (fun q => ((q.moved hvm).kept hq).narrow hAB) (fun q => ((q.moved hvm).kept hq).narrow hAB), ((h6.moved hvm).kept hq).narrow hAB, fun i hi => (h7 i hi).warm hW, fun q hm => va_Nw.warmM hW (h8 q hm)⟩
theorem Ro.blind {X : Xc} {A : Nat → Prop} {U : State} {H : Heap} (g : JFrame) (mk : MethodId) (a : Array Value) (h : Ro X A U H) : Ro X A (U.calling g mk a) H := by
  obtain ⟨h1, h2, h3, h4, h5, h6, h7, h8⟩ := h
  have hvm : U.vm.Alike (U.calling g mk a).vm := Vm.Alike.refl U.vm
  exact ⟨⟨h1.1.moved hvm, h1.2.moved hvm⟩, ⟨h2.1.moved hvm, h2.2.moved hvm⟩, ⟨h3.1.moved hvm, h3.2.moved hvm⟩, h4.moved hvm, h5.imp (fun q => q.moved hvm) (fun q => q.moved hvm), h6.moved hvm, fun i hi => vk_R.same (u := U) rfl (h7 i hi), fun q hm => va_Nw.same (u := U) rfl rfl (h8 q hm)⟩
