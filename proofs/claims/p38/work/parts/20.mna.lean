section
def va_AOA (t : FieldType) (U : State) : Prop := (Cond.arrayOver (.array t)).before #[] U = true
theorem va_AOA.of {t : FieldType} {A : Array Value} {U : State} (h : (Cond.arrayOver (.array t)).before A U = true) : va_AOA t U := h
theorem va_AOA.use {t : FieldType} {A : Array Value} {U : State} (h : va_AOA t U) : (Cond.arrayOver (.array t)).before A U = true := h
theorem va_AOA.moved {t : FieldType} {u U : State} (hvm : u.vm.Alike U.vm) (h : va_AOA t u) : va_AOA t U := by
  have h0 : (Cond.arrayOver (.array t)).before #[] u = true := h
  unfold Cond.before Cond.holds at h0
  simp only [Cond.value, beq_iff_eq] at h0
  cases hc : u.vm.findClass (FieldType.array t).toString with
  | none => simp [hc] at h0
  | some comp =>
    simp only [hc, Option.bind_some, Option.bind_eq_some_iff, Option.map_eq_some_iff] at h0
    obtain ⟨c, hi0, k, hk, hb⟩ := h0
    obtain ⟨k', hk', he⟩ := hvm.2.2 _ _ hk
    have hi : (U.vm.classes.findIdx? fun (x : Class) => match x.kind with | .array component _ => component == comp | _ => false) = some c := by
      have e1 := va_idx_bare U.vm comp
      have e2 := va_idx_bare u.vm comp
      have eb : U.vm.bare = u.vm.bare := by first | exact hvm.bare_eq | exact hvm.bare_eq.symm
      rw [eb] at e1
      exact (e1.symm.trans e2).trans hi0
    have f1 : U.vm.findClass (FieldType.array t).toString = some comp := by rw [hvm.findClass]; exact hc
    have hfc : ∀ n, U.vm.findClass n = u.vm.findClass n := fun n => hvm.findClass n none
    unfold va_AOA Cond.before Cond.holds
    simp only [Cond.value]
    rw [f1, Option.bind_some]
    refine (congrArg (fun o : Option Nat => (o.bind (fun c => (U.vm.classes[c]?).map fun (k : Class) => match k.kind with | .array _ ty => decide (ty = FieldType.array t) && decide (U.vm.findClass ("[" ++ (FieldType.array t).toString) = some c) | _ => false) == some true)) hi).trans ?_
    cases hkind : k.kind with
    | array component ty =>
      rw [hkind] at hb
      have hkind' : k'.kind = .array component ty := by rw [he]; exact hkind
      simp at hb
      simp [hk', hkind', hfc, hb.1, hb.2]
    | _ => rw [hkind] at hb; simp at hb
-- what follows is the printed block of the claim's NAMES.whole (new T[n][m]), pasted as it stands
/-- f, but v at every address of l -/
def vr_up {α : Type} (f : Nat → α) (l : List Nat) (v : α) : Nat → α := fun a => if a ∈ l then v else f a
theorem vr_up_in {α : Type} {f : Nat → α} {l : List Nat} {v : α} {a : Nat} (h : a ∈ l) : vr_up f l v a = v := if_pos h
theorem vr_up_ne {α : Type} {f : Nat → α} {l : List Nat} {v : α} {a : Nat} (h : a ∉ l) : vr_up f l v a = f a := if_neg h
theorem vr_rows {L l : List Nat} {f : Nat → va_E} {e : va_E} (h : ∀ a, a ∈ l → a ∉ L) : va_pl L f ++ l.map (fun a => (a, e)) = va_pl (L ++ l) (vr_up f l e) := by
  unfold va_pl
  rw [List.map_append]
  congr 1
  · apply List.map_congr_left
    intro a ha
    rw [vr_up_ne (fun q => h a q ha)]
  · apply List.map_congr_left
    intro a ha
    rw [vr_up_in ha]
theorem vr_lay {X rows : va_W} {x : Nat × va_E} {pl : va_W} {D : va_G} {cl : List vw_C} {H : Heap} (hP : va_P D cl (((X ++ pl) ++ [x]) ++ rows) H) : va_P D cl ((X ++ [x]) ++ (pl ++ rows)) H := by
  rw [List.append_assoc (X ++ pl)] at hP
  have h := va_P.swap hP
  rw [← List.append_assoc X] at h
  have h2 := va_P.swap h
  rw [List.append_assoc (X ++ [x])] at h2
  exact h2
theorem vr_layD {X rows : va_W} {x : Nat × va_E} {pl : va_W} {A : Nat → Prop} (hD : va_D A (((X ++ pl) ++ [x]) ++ rows)) : va_D A ((X ++ [x]) ++ (pl ++ rows)) := by
  rw [List.append_assoc (X ++ pl)] at hD
  have h := va_D.swap hD
  rw [← List.append_assoc X] at h
  have h2 := va_D.swap h
  rw [List.append_assoc (X ++ [x])] at h2
  exact h2
theorem vr_outer (c : ClassId) (N h0 : Nat) : ∀ i : Nat, Jvm.Free.Multi.outerC c N h0 i = arrV c N (fun j => va_rf (if j < i then some (h0 + 1 + j) else none))
  | 0 => by
    show ({ cls := c, slots := Array.replicate N .null, vm := .none } : Cell) = _
    rw [arrV_new]
    refine congrArg (arrV c N) (funext fun j => ?_)
    simp [va_rf]
  | i + 1 => by
    show (Jvm.Free.Multi.outerC c N h0 i).setSlot i (.ref (h0 + 1 + i)) = _
    rw [vr_outer c N h0 i, arrV_store]
    refine congrArg (arrV c N) (funext fun j => ?_)
    by_cases e : j = i
    · subst e
      simp [updV, va_rf]
    · by_cases h : j < i
      · simp [updV, e, h, Nat.lt_succ_of_lt h]
      · simp [updV, e, h, show ¬ j < i + 1 by (first | decide +kernel | omega)]
section VGM
variable {p : Program} {l : Launch} {e : Env} {R : Room} {s : State} {m : MethodId} {args : Array Value} {below : List Frame} {meth : Method} {c : Code} {H : Heap} {locs : List Loc} {cells slots : Nat} {Q : State → Prop}
variable {cc : ByteArray} {pc : Nat} {ls : Array Slot} {rest : List Value} {D : va_G} {cl : List vw_C} {A : Nat → Prop} {a : Nat} {tys : List (ClassId × FieldType)} {ws : va_W} {H0 : Heap}
theorem va_mna {X : va_W} {L : List Nat} {f : Nat → va_E} {cc : ByteArray} (hexec : p.tables.exec = Jvm.exec) (hb : c.code = cc) {own : String} {index : Nat} {ty : FieldType} {cy : ClassId} (hown : s.vm.findClass own = some m.cls) (hclink : (Cond.classLink own index ("[" ++ (FieldType.array ty).toString)).before args s = true) (hover : va_AOA ty s) (harr : (Cond.arrayClass ty).before args s = true) (hcy : s.vm.findClass (FieldType.array ty).toString = some cy)
    (hK : va_K D cl tys s) (hP : va_P D cl (X ++ va_pl L f) H) (hD : va_D A (X ++ va_pl L f)) (hS : va_S A H0 H locs) (hA : ∀ q, H0.size ≤ q → A q) {n k : Int32} {N' K' : Nat} {z : vp_A} (hn : ¬ n < 0) (hk : ¬ k < 0) (hN : n.toNatClampNeg = N') (hM : k.toNatClampNeg = K')
    (hb1 : N' * 4 ≤ 536870912) (hb2 : K' * componentBytes ty ≤ 536870912) (hb3 : K' ≤ 536870912) (hdf : fits ty (defaultValue ty) = true) (hdd : (defaultValue ty).isDefault = true) (hcells : cells + (1 + N') ≤ R.cells) (hslots : slots + (N' + N' * K') ≤ R.slots) (hz : ∀ c : ClassId, Jvm.Free.Multi.innerC c K' (defaultValue ty) = vp_cell c z) (hdg : decode cc pc = .ok (.multianewarray index 2, 4))
    (kk : ∀ (q : Nat) (r : Nat → Nat) (cA : ClassId) (H1 : Heap), (∀ i j : Nat, i < N' → j < N' → r i = r j → i = j) → (∀ i : Nat, i < N' → r i ∉ L) → va_K D cl (tys ++ [(cA, .array ty)]) s →
      va_P D cl ((X ++ [(q, .inl (cA, N', .inr (.inr (.inr (.inr (fun i => if i < N' then some (r i) else none))))))]) ++ va_pl (L ++ (List.range N').map r) (vr_up f ((List.range N').map r) (.inl (cy, z)))) H1 → va_D A ((X ++ [(q, .inl (cA, N', .inr (.inr (.inr (.inr (fun i => if i < N' then some (r i) else none))))))]) ++ va_pl (L ++ (List.range N').map r) (vr_up f ((List.range N').map r) (.inl (cy, z)))) → va_S A H0 H1 locs →
      W p l e R s m args below meth c H1 locs (cells + 1 + N') (slots + N' + N' * K') Q (F0 m (pc + 4) ls (.ref q :: rest))) : W p l e R s m args below meth c H locs cells slots Q (F0 m pc ls (.int k :: .int n :: rest)) := by
  subst hN
  subst hM
  intro T hT Xs
  obtain ⟨vm₁, cA, comp, -, fA, fC, hO, -, X', step⟩ := Xs.multianewarray2F hexec hown hclink (va_AOA.use hover) harr (g := F0 m pc ls (.int k :: .int n :: rest)) rfl (by rw [hb]; exact hdg) rfl hn hk hb1 hb2 hb3 hdf hdd hcells hslots
  have ec : some cy = some comp := hcy.symm.trans fC
  cases ec
  generalize hF : Jvm.Free.Multi.fill (T.setVm vm₁) cA cy n.toNatClampNeg k.toNatClampNeg (defaultValue ty) n.toNatClampNeg = F at X' step
  have hTh : (T.setVm vm₁).heap = H := hT
  obtain ⟨f1, f2, -, -⟩ := Jvm.Free.Multi.fill_facts (T.setVm vm₁) cA cy n.toNatClampNeg k.toNatClampNeg (defaultValue ty) n.toNatClampNeg
  rw [hF, hTh] at f1 f2
  have hold : ∀ x : Nat, x < H.size → F.heap[x]? = H[x]? := fun x hx => by
    have := Jvm.Free.Multi.fill_old (T.setVm vm₁) cA cy n.toNatClampNeg k.toNatClampNeg (defaultValue ty) (a := x) (by rw [hTh]; exact hx) n.toNatClampNeg
    rw [hF, hTh] at this
    exact this
  have hrow : ∀ j : Nat, j < n.toNatClampNeg → F.heap[H.size + 1 + j]? = some (vp_cell cy z) := fun j hj => by
    have := Jvm.Free.Multi.fill_inner (T.setVm vm₁) cA cy n.toNatClampNeg k.toNatClampNeg (defaultValue ty) n.toNatClampNeg j hj
    rw [hF, hTh, hz] at this
    exact this
  have hout : Jvm.Free.Multi.outerC cA n.toNatClampNeg H.size n.toNatClampNeg = vp_cell cA (n.toNatClampNeg, .inr (.inr (.inr (.inr (fun i => if i < n.toNatClampNeg then some (H.size + 1 + i) else none))))) := by
    rw [vp_cell_q]
    exact vr_outer cA n.toNatClampNeg H.size n.toNatClampNeg
  rw [hout] at f2
  have hlt : ∀ a, a ∈ L → a < H.size := fun a ha => by
    obtain ⟨k9, hk9⟩ := va_pl_get (X := X) (f := f) ha
    exact (hP k9 _ hk9).lt
  have hnl : ∀ i : Nat, i < n.toNatClampNeg → H.size + 1 + i ∉ L := fun i _ h => by
    have := hlt _ h
    omega
  have hnm : ∀ a, a ∈ (List.range n.toNatClampNeg).map (fun i => H.size + 1 + i) → a ∉ L := fun a ha h => by
    obtain ⟨i, -, rfl⟩ := List.mem_map.mp ha
    have := hlt _ h
    omega
  have hP0 : va_P D cl (X ++ va_pl L f) F.heap := hP.kept (fun k9 x hx => hold x.1 ((hP k9 x hx).lt))
  have hP1 : va_P D cl ((X ++ va_pl L f) ++ [(H.size, .inl (cA, n.toNatClampNeg, .inr (.inr (.inr (.inr (fun i => if i < n.toNatClampNeg then some (H.size + 1 + i) else none))))))]) F.heap := hP0.app (fun k9 x hx => by
    have h0 : k9 < 1 := (List.getElem?_eq_some_iff.mp hx).1
    rw [show k9 = 0 by (first | decide +kernel | omega)] at hx
    cases hx
    exact f2)
  have hP2 : va_P D cl (((X ++ va_pl L f) ++ [(H.size, .inl (cA, n.toNatClampNeg, .inr (.inr (.inr (.inr (fun i => if i < n.toNatClampNeg then some (H.size + 1 + i) else none))))))]) ++ ((List.range n.toNatClampNeg).map (fun i => H.size + 1 + i)).map (fun a => (a, .inl (cy, z)))) F.heap := hP1.app (fun k9 x hx => by
    obtain ⟨a, ha, rfl⟩ := List.mem_map.mp (List.mem_of_getElem? hx)
    obtain ⟨i, hi, rfl⟩ := List.mem_map.mp ha
    exact hrow i (List.mem_range.mp hi))
  have hD2 : va_D A (((X ++ va_pl L f) ++ [(H.size, .inl (cA, n.toNatClampNeg, .inr (.inr (.inr (.inr (fun i => if i < n.toNatClampNeg then some (H.size + 1 + i) else none))))))]) ++ ((List.range n.toNatClampNeg).map (fun i => H.size + 1 + i)).map (fun a => (a, .inl (cy, z)))) := by
    have hD1 := hD.push (e := .inl (cA, n.toNatClampNeg, .inr (.inr (.inr (.inr (fun i => if i < n.toNatClampNeg then some (H.size + 1 + i) else none)))))) hP rfl (hA _ hS.1)
    generalize hW1 : (X ++ va_pl L f) ++ [(H.size, .inl (cA, n.toNatClampNeg, .inr (.inr (.inr (.inr (fun i => if i < n.toNatClampNeg then some (H.size + 1 + i) else none))))))] = W1 at hD1 hP1 ⊢
    have hle : ∀ (k9 : Nat) (x : Nat × va_E), W1[k9]? = some x → x.1 ≤ H.size := fun k9 x hx => by
      rw [← hW1] at hx
      by_cases hl : k9 < (X ++ va_pl L f).length
      · rw [List.getElem?_append_left hl] at hx
        exact Nat.le_of_lt ((hP k9 x hx).lt)
      · rw [List.getElem?_append_right (by (first | decide +kernel | omega))] at hx
        have h0 : k9 - (X ++ va_pl L f).length < 1 := (List.getElem?_eq_some_iff.mp hx).1
        rw [show k9 - (X ++ va_pl L f).length = 0 by (first | decide +kernel | omega)] at hx
        cases hx
        exact Nat.le_refl _
    have hr : ∀ (k9 : Nat) (x : Nat × va_E), (((List.range n.toNatClampNeg).map (fun i => H.size + 1 + i)).map (fun a => ((a, .inl (cy, z)) : Nat × va_E)))[k9]? = some x → x.1 = H.size + 1 + k9 := fun k9 x hx => by
      rw [List.getElem?_map, List.getElem?_map] at hx
      by_cases h9 : k9 < n.toNatClampNeg
      · rw [List.getElem?_range h9] at hx
        cases hx
        rfl
      · have hn0 : (List.range n.toNatClampNeg)[k9]? = none := List.getElem?_eq_none (by rw [List.length_range]; omega)
        rw [hn0] at hx
        cases hx
    refine ⟨fun i j x y hi hj hxy => ?_, fun k9 x hx => ?_⟩
    · by_cases h1 : i < W1.length <;> by_cases h2 : j < W1.length
      · rw [List.getElem?_append_left h1] at hi
        rw [List.getElem?_append_left h2] at hj
        exact hD1.1 i j x y hi hj hxy
      · rw [List.getElem?_append_left h1] at hi
        rw [List.getElem?_append_right (by (first | decide +kernel | omega))] at hj
        have := hle _ _ hi
        have := hr _ _ hj
        omega
      · rw [List.getElem?_append_right (by (first | decide +kernel | omega))] at hi
        rw [List.getElem?_append_left h2] at hj
        have := hle _ _ hj
        have := hr _ _ hi
        omega
      · rw [List.getElem?_append_right (by (first | decide +kernel | omega))] at hi hj
        have := hr _ _ hi
        have := hr _ _ hj
        omega
    · by_cases h1 : k9 < W1.length
      · rw [List.getElem?_append_left h1] at hx
        exact hD1.2 k9 x hx
      · rw [List.getElem?_append_right (by (first | decide +kernel | omega))] at hx
        have := hr _ _ hx
        exact hA _ (by have := hS.1; omega)
  have hAr : ArrOfT s cA (.array ty) := fun N9 z9 => by
    obtain ⟨-, k9, hk9, cm9, hkk9⟩ := (hO 0 0 0).1
    exact ⟨(fun q hq => by cases hq), k9, hk9, cm9, hkk9⟩
  have hK2 : va_K D cl (tys ++ [(cA, .array ty)]) s := ⟨hK.1, fun k9 x hx => by
    by_cases hl : k9 < tys.length
    · rw [List.getElem?_append_left hl] at hx
      exact hK.2 k9 x hx
    · rw [List.getElem?_append_right (by (first | decide +kernel | omega))] at hx
      have h0 : k9 - tys.length < 1 := (List.getElem?_eq_some_iff.mp hx).1
      rw [show k9 - tys.length = 0 by (first | decide +kernel | omega)] at hx
      cases hx
      exact ⟨hAr, fA⟩⟩
  obtain ⟨t, a1, b1⟩ := kk H.size (fun i => H.size + 1 + i) cA F.heap (fun i j _ _ h => by have h9 : H.size + 1 + i = H.size + 1 + j := h; omega) hnl hK2 (by rw [← vr_rows hnm]; exact vr_lay hP2) (by rw [← vr_rows hnm]; exact vr_layD hD2) ⟨by rw [f1]; have := hS.1; omega, fun x h1 h2 => (hold x (Nat.lt_of_lt_of_le h1 hS.1)).trans (hS.2.1 x h1 h2), hS.2.2⟩ F rfl X'
  refine ⟨t, step t ?_, b1⟩
  have e : T.heap.size = H.size := by rw [hT]
  rw [e]
  exact a1
end VGM
end
section
def tysC (ca : Nat → ClassId) : List (ClassId × FieldType) := [(ca 0, .int), (ca 1, .byte), (ca 2, .boolean), (ca 3, .object "RodOwes$County"), (ca 4, .object "RodOwes$Sheet"), (ca 5, .array .int)]
def kNest : List (String × Nat × MethodName) := [(R_Rod, 29, y_Reader_init), (R_Rod, 41, y_Walks_init), (R_Rod, 48, y_Plans_init), (R_Rod, 55, y_Beds_init), (R_Rod, 66, y_Sheet_init), (R_County, 11, y_Land_init), (R_County, 20, y_Ledger_init), (R_County, 27, y_Sights_init), (R_Reader, 11, y_Tape_init)]
def Kw (U : State) : Prop := (∀ q ∈ kNest, va_Nw (.methodLinkNest q.1 q.2.1 q.2.2 R_Rod) U) ∧ va_AO "RodOwes$County" U ∧ va_AO "RodOwes$Sheet" U ∧ va_AOA .int U
theorem Kw.to {s U : State} (hW : s.WarmedH U.vm) (h : Kw s) : Kw U := ⟨fun q hm => va_Nw.warmM hW (h.1 q hm), h.2.1.moved hW.alike, h.2.2.1.moved hW.alike, h.2.2.2.moved hW.alike⟩
theorem Kw.blind {U : State} (g : JFrame) (mk : MethodId) (a : Array Value) (h : Kw U) : Kw (U.calling g mk a) := ⟨fun q hm => va_Nw.same (u := U) rfl rfl (h.1 q hm), h.2.1.moved (Vm.Alike.refl U.vm), h.2.2.1.moved (Vm.Alike.refl U.vm), h.2.2.2.moved (Vm.Alike.refl U.vm)⟩
def rmC (F L C S : Nat) : Room := { frames := F, cells := C, slots := S, locals := L }
def Qu (D : va_G) (A : Nat → Prop) (post : va_W → Prop) : Array Value → State → Outcome → State → Prop := fun _ st oc t => (∃ ws : va_W, oc = .returned none ∧ post ws ∧ va_P D classes ws t.heap ∧ va_D A ws) ∧ va_F A st t
def Ku (own : String) (cc : ByteArray) (nL : Nat) (ini : Bool) (D : va_G) (ca : Nat → ClassId) (p : Program) (s : State) (m : MethodId) (args : Array Value) (meth : Method) (c : Code) (A : Nat → Prop) : Prop :=
  p.tables.exec = Jvm.exec ∧ c.code = cc ∧ c.maxLocals = nL ∧ s.vm.findClass own = some m.cls ∧ (∀ w ∈ vv_G, w.before args s = true) ∧ meth.locks = false ∧ meth.sig.returnType = none ∧ va_K D classes (tysC ca) s ∧ (∀ q : Nat, s.heap.size ≤ q → A q) ∧ (ini = true → meth.name = "<init>") ∧ Kw s
def U (own : String) (cc : ByteArray) (nL : Nat) (ini : Bool) (F L C S : Nat) (D : va_G) (ca : Nat → ClassId) (post : va_W → Prop) (ws : va_W) (cl sl pc : Nat) (ls : Pl) (st : List Value) : Prop :=
  ∀ (p : Program) (l : Launch) (e : Env) (s : State) (m : MethodId) (args : Array Value) (below : List Frame) (meth : Method) (c : Code) (A : Nat → Prop) (H : Heap) (locs : List Loc) (lsA : Array Slot),
    Ku own cc nL ini D ca p s m args meth c A → va_P D classes ws H → va_D A ws → va_S A s.heap H locs → lh (fun k => k) lsA nL ls →
    W p l e (rmC F L C S) s m args below meth c H locs cl sl (MQ below (Qu D A post) args s C S A) (F0 m pc lsA st)
def Cu (y : MethodName) (cc : ByteArray) (nL : Nat) (F L C S : Nat) (D : va_G) (ca : Nat → ClassId) (As : List Value) (ws : va_W) (post : va_W → Prop) : Prop :=
  ∀ (l : Launch) (sz : Nat), Met l y (.code y cc nL none :: vv_G) (rmC F L C S) (va_Pc As (fun U => U.heap.size = sz ∧ va_P D classes ws U.heap ∧ va_K D classes (tysC ca) U ∧ va_D (fun _ => True) ws ∧ Kw U)) (Qu D (va_A ws sz) post) C S (va_A ws sz)
theorem rv_id (v : Value) : rv (fun k => k) v = v := by cases v <;> rfl
theorem cu_of {y : MethodName} {cc : ByteArray} {nL F L C S : Nat} {D : va_G} {ca : Nat → ClassId} {As : List Value} {ws : va_W} {post : va_W → Prop} (own : String) (ini : Bool) (ls : Pl) (ho : y.cls = own) (hi : ini = true → y.name = "<init>") (hy : plainName y.cls = true) (hls : argLs As ++ List.replicate (nL - (argLs As).length) none = ls) (hn : (argLs As).length ≤ nL) (hV : U own cc nL ini F L C S D ca post ws 0 0 0 ls []) : Cu y cc nL F L C S D ca As ws post := by
  intro l sz
  refine Met.ofW (cc := cc) (maxL := nL) (ret := none) hy rfl ?_
  intro p e s m args below meth c s₁ B hml hv
  obtain ⟨rfl, hsz, hP, hK, hD, hKw⟩ := hv
  have hts := atoms_spec (ws := .code y cc nL none :: vv_G) B.pre
  subst hsz
  have hmap : As.map (rv (fun k => k)) = As := by
    rw [show (rv (fun k => k)) = id from funext rv_id]; simp
  have hl := lv_entry As (n := nL) (by have := argLs_len (fun k => k) As; rw [hmap] at this; rw [this]; exact hn)
  rw [lg_entry_eq]
  refine hV p l e s m _ below meth c (va_A ws s.heap.size) s.heap [] _ ⟨B.exec, B.bytes, hml, ho ▸ findClass_of_methodNamed B.named, fun w hw => hts w (List.mem_cons_of_mem _ hw), B.notSynchronized, B.returns, hK, fun q hq => Or.inr hq, fun q => ((name_of_methodNamed B.named B.method).1).trans (hi q), hKw⟩ hP hD.self va_S.rf ⟨hl.1, hl.2.1, fun i v hi => ?_⟩
  rw [← hls] at hi
  by_cases hlt : i < (argLs As).length
  · rw [List.getElem?_append_left hlt] at hi
    have h1 := argLs_in (fun k => k) As 0 i v hi
    rw [Nat.zero_add, hmap] at h1
    exact hl.2.2 (i, rv (fun k => k) v) h1
  · rw [List.getElem?_append_right (by (first | decide +kernel | omega))] at hi
    have := List.eq_of_mem_replicate (List.mem_of_getElem? hi)
    cases this
section UR
variable {own : String} {cc : ByteArray} {nL : Nat} {ini : Bool} {F L C S : Nat} {D : va_G} {ca : Nat → ClassId} {post : va_W → Prop} {ws : va_W} {cl sl pc : Nat} {ls : Pl} {st : List Value}
theorem U_iconst {n : Int} (v : Int32) (d : decode cc pc = .ok (.iconst n, 1)) (hv : Int32.ofInt n = v) (k : U own cc nL ini F L C S D ca post ws cl sl (pc + 1) ls (.int v :: st)) : U own cc nL ini F L C S D ca post ws cl sl pc ls st := fun p l e s m args below meth c A H locs lsA K hP hD hS hl => lv_iconst K.1 K.2.1 d hv (k p l e s m args below meth c A H locs lsA K hP hD hS hl)
theorem U_bipush {n : Int} (v : Int32) (d : decode cc pc = .ok (.bipush n, 2)) (hv : (Int8.ofInt n).toInt32 = v) (k : U own cc nL ini F L C S D ca post ws cl sl (pc + 2) ls (.int v :: st)) : U own cc nL ini F L C S D ca post ws cl sl pc ls st := fun p l e s m args below meth c A H locs lsA K hP hD hS hl => lv_bipush K.1 K.2.1 d hv (k p l e s m args below meth c A H locs lsA K hP hD hS hl)
theorem U_sipush {n : Int} (v : Int32) (d : decode cc pc = .ok (.sipush n, 3)) (hv : (Int16.ofInt n).toInt32 = v) (k : U own cc nL ini F L C S D ca post ws cl sl (pc + 3) ls (.int v :: st)) : U own cc nL ini F L C S D ca post ws cl sl pc ls st := fun p l e s m args below meth c A H locs lsA K hP hD hS hl => lv_sipush K.1 K.2.1 d hv (k p l e s m args below meth c A H locs lsA K hP hD hS hl)
theorem U_aload_n {n : Fin 4} (i : Nat) {x : Nat} (d : decode cc pc = .ok (.aload_n n, 1)) (hi : (n : Nat) = i) (hx : ls[i]? = some (some (.ref x))) (k : U own cc nL ini F L C S D ca post ws cl sl (pc + 1) ls (.ref x :: st)) : U own cc nL ini F L C S D ca post ws cl sl pc ls st := fun p l e s m args below meth c A H locs lsA K hP hD hS hl => lv_aload_n K.1 K.2.1 d hi (hl.2.2 i _ hx) (k p l e s m args below meth c A H locs lsA K hP hD hS hl)
theorem U_iload_n {n : Fin 4} (i : Nat) {x : Int32} (d : decode cc pc = .ok (.iload_n n, 1)) (hi : (n : Nat) = i) (hx : ls[i]? = some (some (.int x))) (k : U own cc nL ini F L C S D ca post ws cl sl (pc + 1) ls (.int x :: st)) : U own cc nL ini F L C S D ca post ws cl sl pc ls st := fun p l e s m args below meth c A H locs lsA K hP hD hS hl => lv_iload_n K.1 K.2.1 d hi (hl.2.2 i _ hx) (k p l e s m args below meth c A H locs lsA K hP hD hS hl)
theorem U_istore_n {n : Fin 4} (i : Nat) (ls1 : Pl) {x : Int32} (d : decode cc pc = .ok (.istore_n n, 1)) (hi : (n : Nat) = i) (hn : i < nL) (ho : okS ls i = true) (h1 : ls.set i (some (.int x)) = ls1) (k : U own cc nL ini F L C S D ca post ws cl sl (pc + 1) ls1 st) : U own cc nL ini F L C S D ca post ws cl sl pc ls (.int x :: st) := fun p l e s m args below meth c A H locs lsA K hP hD hS hl => lv_istore_n K.1 K.2.1 d hi (asc_has hl) hn rfl (fun lsB hB => k p l e s m args below meth c A H locs lsB K hP hD hS (lh_set1 rfl ho h1 hB))
theorem U_iinc {n : Int} (i : Nat) (ls1 : Pl) {x v : Int32} (d : decode cc pc = .ok (.iinc i n, 3)) (hx : ls[i]? = some (some (.int x))) (hv : x + Int32.ofInt n = v) (hn : i < nL) (ho : okS ls i = true) (h1 : ls.set i (some (.int v)) = ls1) (k : U own cc nL ini F L C S D ca post ws cl sl (pc + 3) ls1 st) : U own cc nL ini F L C S D ca post ws cl sl pc ls st := fun p l e s m args below meth c A H locs lsA K hP hD hS hl => by
  have hm : (i, Value.int x) ∈ asc (fun k => k) ls := asc_in (ad := fun k => k) hx
  obtain ⟨q, hq⟩ := List.getElem?_of_mem hm
  exact lv_iinc K.1 K.2.1 d (asc_has hl) hq hv hn rfl (fun lsB hB => k p l e s m args below meth c A H locs lsB K hP hD hS (lh_set1 rfl ho h1 hB))
theorem U_dup {v : Value} (d : decode cc pc = .ok (.dup, 1)) (hv : v.category = 1) (k : U own cc nL ini F L C S D ca post ws cl sl (pc + 1) ls (v :: v :: st)) : U own cc nL ini F L C S D ca post ws cl sl pc ls (v :: st) := fun p l e s m args below meth c A H locs lsA K hP hD hS hl => lv_dup K.1 K.2.1 d hv (k p l e s m args below meth c A H locs lsA K hP hD hS hl)
theorem U_goto {off : Int} (tgt : Nat) (d : decode cc pc = .ok (.goto off, 3)) (ht : (pc : Int) + off = (tgt : Int)) (k : U own cc nL ini F L C S D ca post ws cl sl tgt ls st) : U own cc nL ini F L C S D ca post ws cl sl pc ls st := fun p l e s m args below meth c A H locs lsA K hP hD hS hl => lv_goto K.1 K.2.1 d ht (k p l e s m args below meth c A H locs lsA K hP hD hS hl)
theorem U_icmp_ge {x y : Int32} {off : Int} (tgt : Nat) (d : decode cc pc = .ok (.if_icmp .ge off, 3)) (ht : (pc : Int) + off = (tgt : Int)) (kt : y ≤ x → U own cc nL ini F L C S D ca post ws cl sl tgt ls st) (kf : ¬ y ≤ x → U own cc nL ini F L C S D ca post ws cl sl (pc + 3) ls st) : U own cc nL ini F L C S D ca post ws cl sl pc ls (.int y :: .int x :: st) := fun p l e s m args below meth c A H locs lsA K hP hD hS hl => lv_icmp_ge K.1 K.2.1 d ht (fun q => kt q p l e s m args below meth c A H locs lsA K hP hD hS hl) (fun q => kf q p l e s m args below meth c A H locs lsA K hP hD hS hl)
theorem U_obj {idx a : Nat} (hw : Cond.methodLink own idx objectInit ∈ vv_G) (h1 : Cond.instanceMethod objectInit ∈ vv_G) (h2 : Cond.code objectInit ⟨#[0xb1]⟩ 1 none ∈ vv_G) (d : decode cc pc = .ok (.invokespecial idx, 3)) (hF : 1 ≤ F) (hL : (st.map fun v => v.category).sum + 12 ≤ L) (k : U own cc nL ini F L C S D ca post ws cl sl (pc + 3) ls st) : U own cc nL ini F L C S D ca post ws cl sl pc ls (.ref a :: st) := fun p l e s m args below meth c A H locs lsA K hP hD hS hl => by
  have hts := K.2.2.2.2.1
  refine W.objInit K.1 K.2.1 K.2.2.2.1 (hts _ hw) (hts _ h1) (hts _ h2) rfl (hl.1.trans K.2.2.1.symm) rfl d hF ?_ (k p l e s m args below meth c A H locs lsA K hP hD hS hl)
  have : 2 * (F0 m pc lsA (Value.ref a :: st)).monitorRoom = 0 := rfl
  rw [this]
  show 0 + _ + 12 ≤ L
  omega
theorem U_new {idx ci N : Nat} {Cn : String} {T : u_T} {fs : List Value} (ty : Nat → FieldType) (hc : classes[ci]? = some (Cn, T, N)) (hin : ∀ w ∈ u_ws Cn T N, w ∈ vv_G) (hty : ∀ k, k < N → parseFieldDescriptor (T k).2.2.1 = some (ty k)) (hw : Cond.classLink own idx Cn ∈ vv_G) (h1 : Cond.instantiable Cn N ∈ vv_G) (h2 : Cond.initialized Cn ∈ vv_G) (hfs : ∀ j, j < N → defaultValue (ty j) = vp_V fs j) (d : decode cc pc = .ok (.new idx, 3)) (hC : cl + 1 ≤ C) (hSl : sl + N ≤ S)
    (k : ∀ q : Nat, U own cc nL ini F L C S D ca post (ws ++ [(q, .inr (ci, fs))]) (cl + 1) (sl + N) (pc + 3) ls (.ref q :: st)) : U own cc nL ini F L C S D ca post ws cl sl pc ls st := fun p l e s m args below meth c A H locs lsA K hP hD hS hl => by
  have hts := K.2.2.2.2.1
  exact va_new (D := D) (ci := ci) (fs := fs) K.1 K.2.1 hts hin ty hty K.2.2.2.1 (hts _ hw) (hts _ h1) (hts _ h2) K.2.2.2.2.2.2.2.1 hP hD hS K.2.2.2.2.2.2.2.2.1 hc hfs hC hSl d (fun q H1 hP1 hD1 hS1 => k q p l e s m args below meth c A H1 locs lsA K hP1 hD1 hS1 hl)
theorem ca_prim {s : State} {cA c0 : ClassId} {ty : FieldType} (h1 : s.vm.findClass ("[" ++ ty.toString) = some cA) (h2 : s.vm.findClass ("[" ++ ty.toString) = some c0) : cA = c0 := Option.some.inj (h1.symm.trans h2)
theorem U_newI (N : Nat) {n : Int32} (hn : ¬ n < 0) (hN : n.toNatClampNeg = N) (hw : Cond.arrayClass .int ∈ vv_G) (hby : N * componentBytes .int ≤ 536870912) (d : decode cc pc = .ok (.newarray .int, 2)) (hC : cl + 1 ≤ C) (hSl : sl + N ≤ S)
    (k : ∀ q : Nat, U own cc nL ini F L C S D ca post (ws ++ [(q, .inl (ca 0, N, .inl (fun _ => 0)))]) (cl + 1) (sl + N) (pc + 2) ls (.ref q :: st)) : U own cc nL ini F L C S D ca post ws cl sl pc ls (.int n :: st) := fun p l e s m args below meth c A H locs lsA K hP hD hS hl => by
  have hts := K.2.2.2.2.1
  refine va_newa (atype := .int) (D := D) (ty := .int) (a0 := (N, .inl (fun _ => 0))) K.1 K.2.1 (hts _ hw) rfl K.2.2.2.2.2.2.2.1 hP hD hS K.2.2.2.2.2.2.2.2.1 (fun _ => rfl) hn hN hby hC hSl d (fun q cA H1 hK1 hP1 hD1 hS1 => ?_)
  have eA : cA = ca 0 := ca_prim (hK1.2 6 _ rfl).2 (K.2.2.2.2.2.2.2.1.2 0 _ rfl).2
  subst eA
  exact k q p l e s m args below meth c A H1 locs lsA K hP1 hD1 hS1 hl
theorem U_newB (N : Nat) {n : Int32} (hn : ¬ n < 0) (hN : n.toNatClampNeg = N) (hw : Cond.arrayClass .byte ∈ vv_G) (hby : N * componentBytes .byte ≤ 536870912) (d : decode cc pc = .ok (.newarray .byte, 2)) (hC : cl + 1 ≤ C) (hSl : sl + N ≤ S)
    (k : ∀ q : Nat, U own cc nL ini F L C S D ca post (ws ++ [(q, .inl (ca 1, N, .inl (fun _ => 0)))]) (cl + 1) (sl + N) (pc + 2) ls (.ref q :: st)) : U own cc nL ini F L C S D ca post ws cl sl pc ls (.int n :: st) := fun p l e s m args below meth c A H locs lsA K hP hD hS hl => by
  have hts := K.2.2.2.2.1
  refine va_newa (atype := .byte) (D := D) (ty := .byte) (a0 := (N, .inl (fun _ => 0))) K.1 K.2.1 (hts _ hw) rfl K.2.2.2.2.2.2.2.1 hP hD hS K.2.2.2.2.2.2.2.2.1 (fun _ => rfl) hn hN hby hC hSl d (fun q cA H1 hK1 hP1 hD1 hS1 => ?_)
  have eA : cA = ca 1 := ca_prim (hK1.2 6 _ rfl).2 (K.2.2.2.2.2.2.2.1.2 1 _ rfl).2
  subst eA
  exact k q p l e s m args below meth c A H1 locs lsA K hP1 hD1 hS1 hl
theorem U_newZ (N : Nat) {n : Int32} (hn : ¬ n < 0) (hN : n.toNatClampNeg = N) (hw : Cond.arrayClass .boolean ∈ vv_G) (hby : N * componentBytes .boolean ≤ 536870912) (d : decode cc pc = .ok (.newarray .boolean, 2)) (hC : cl + 1 ≤ C) (hSl : sl + N ≤ S)
    (k : ∀ q : Nat, U own cc nL ini F L C S D ca post (ws ++ [(q, .inl (ca 2, N, .inl (fun _ => 0)))]) (cl + 1) (sl + N) (pc + 2) ls (.ref q :: st)) : U own cc nL ini F L C S D ca post ws cl sl pc ls (.int n :: st) := fun p l e s m args below meth c A H locs lsA K hP hD hS hl => by
  have hts := K.2.2.2.2.1
  refine va_newa (atype := .boolean) (D := D) (ty := .boolean) (a0 := (N, .inl (fun _ => 0))) K.1 K.2.1 (hts _ hw) rfl K.2.2.2.2.2.2.2.1 hP hD hS K.2.2.2.2.2.2.2.2.1 (fun _ => rfl) hn hN hby hC hSl d (fun q cA H1 hK1 hP1 hD1 hS1 => ?_)
  have eA : cA = ca 2 := ca_prim (hK1.2 6 _ rfl).2 (K.2.2.2.2.2.2.2.1.2 2 _ rfl).2
  subst eA
  exact k q p l e s m args below meth c A H1 locs lsA K hP1 hD1 hS1 hl
theorem ca_obj {s : State} {cA c0 : ClassId} {Cn : String} (h1 : va_RA s cA (.object Cn)) (h2 : va_RA s c0 (.object Cn)) : cA = c0 := by
  obtain ⟨_, _, _, _, _, a⟩ := h1
  obtain ⟨_, _, _, _, _, b⟩ := h2
  exact Option.some.inj (a.symm.trans b)
theorem U_newq {idx t N : Nat} {n : Int32} (Cn : String) (ht : t = 3 ∧ Cn = "RodOwes$County" ∨ t = 4 ∧ Cn = "RodOwes$Sheet") (hn : ¬ n < 0) (hN : n.toNatClampNeg = N) (hby : N * 4 ≤ 536870912) (hw : Cond.classLink own idx Cn ∈ vv_G) (d : decode cc pc = .ok (.anewarray idx, 3)) (hC : cl + 1 ≤ C) (hSl : sl + N ≤ S)
    (k : ∀ q : Nat, U own cc nL ini F L C S D ca post (ws ++ [(q, .inl (ca t, N, .inr (.inr (.inr (.inr (fun _ => none))))))]) (cl + 1) (sl + N) (pc + 3) ls (.ref q :: st)) : U own cc nL ini F L C S D ca post ws cl sl pc ls (.int n :: st) := fun p l e s m args below meth c A H locs lsA K hP hD hS hl => by
  have hts := K.2.2.2.2.1
  have hK := K.2.2.2.2.2.2.2.1
  rcases ht with ⟨rfl, rfl⟩ | ⟨rfl, rfl⟩
  · refine va_newq (D := D) K.1 K.2.1 K.2.2.2.1 (hts _ hw) K.2.2.2.2.2.2.2.2.2.2.2.1 hK hP hD hS K.2.2.2.2.2.2.2.2.1 hn hN hby hC hSl d (fun q cA H1 hK1 hP1 hD1 hS1 => ?_)
    have eA : cA = ca 3 := ca_obj (hK1.2 6 _ rfl).2 (hK.2 3 _ rfl).2
    subst eA
    exact k q p l e s m args below meth c A H1 locs lsA K hP1 hD1 hS1 hl
  · refine va_newq (D := D) K.1 K.2.1 K.2.2.2.1 (hts _ hw) K.2.2.2.2.2.2.2.2.2.2.2.2.1 hK hP hD hS K.2.2.2.2.2.2.2.2.1 hn hN hby hC hSl d (fun q cA H1 hK1 hP1 hD1 hS1 => ?_)
    have eA : cA = ca 4 := ca_obj (hK1.2 6 _ rfl).2 (hK.2 4 _ rfl).2
    subst eA
    exact k q p l e s m args below meth c A H1 locs lsA K hP1 hD1 hS1 hl
theorem U_eq (ws1 : va_W) (h : ws = ws1) (k : U own cc nL ini F L C S D ca post ws1 cl sl pc ls st) : U own cc nL ini F L C S D ca post ws cl sl pc ls st := by subst h; exact k
/-- a final field of references, in the constructor -/
theorem U_putF {idx ci N i a r : Nat} {Cn : String} {T : u_T} {fs : List Value} {ty : FieldType} (t0 : Nat → FieldType) (q0 : Nat) (he : ws[q0]? = some (a, .inr (ci, fs))) (hc : classes[ci]? = some (Cn, T, N)) (hin : ∀ w ∈ u_ws Cn T N, w ∈ vv_G) (hty : ∀ k, k < N → parseFieldDescriptor (T k).2.2.1 = some (t0 k)) (hnm : ∀ a, a < N → ∀ b, b < N → a ≠ b → (T a).2.1 ≠ (T b).2.1) (hi : i < N) (hw : Cond.fieldLink own idx (T i).1 (T i).2.1 (T i).2.2.1 ∈ vv_G) (hfin : (T i).2.2.2 = true) (hini : ini = true) (hdecl : (T i).1 = own) (hd : parseFieldDescriptor (T i).2.2.1 = some ty) (hn : narrow ty (.ref r) = .ref r) (hfit : fits ty (.ref r) = true) (hl0 : i < fs.length) (d : decode cc pc = .ok (.putfield idx, 3))
    (k : U own cc nL ini F L C S D ca post (ws.set q0 (a, .inr (ci, fs.set i (.ref r)))) cl sl (pc + 3) ls st) : U own cc nL ini F L C S D ca post ws cl sl pc ls (.ref r :: .ref a :: st) := fun p l e s m args below meth c A H locs lsA K hP hD hS hl => by
  have hts := K.2.2.2.2.1
  exact va_putF (D := D) (ci := ci) (v := .ref r) (ty := ty) K.1 K.2.1 hts hin t0 hty hnm K.2.2.2.1 K.2.2.2.2.2.2.2.1 hP hD hS q0 he hc i hi (hts _ hw) (fun _ q => q) hfin (K.2.2.2.2.2.2.2.2.2.1 hini) hdecl hd hn hfit hl0 d (fun H1 locs1 hP1 hD1 hS1 => k p l e s m args below meth c A H1 locs1 lsA K hP1 hD1 hS1 hl)
theorem U_putI {idx ci N i a : Nat} {x : Int32} {Cn : String} {T : u_T} {fs : List Value} (t0 : Nat → FieldType) (q0 : Nat) (he : ws[q0]? = some (a, .inr (ci, fs))) (hc : classes[ci]? = some (Cn, T, N)) (hin : ∀ w ∈ u_ws Cn T N, w ∈ vv_G) (hty : ∀ k, k < N → parseFieldDescriptor (T k).2.2.1 = some (t0 k)) (hnm : ∀ a, a < N → ∀ b, b < N → a ≠ b → (T a).2.1 ≠ (T b).2.1) (hi : i < N) (hw : Cond.fieldLink own idx (T i).1 (T i).2.1 (T i).2.2.1 ∈ vv_G) (hfin : (T i).2.2.2 = false) (hd : parseFieldDescriptor (T i).2.2.1 = some .int) (hl0 : i < fs.length) (d : decode cc pc = .ok (.putfield idx, 3))
    (k : U own cc nL ini F L C S D ca post (ws.set q0 (a, .inr (ci, fs.set i (.int x)))) cl sl (pc + 3) ls st) : U own cc nL ini F L C S D ca post ws cl sl pc ls (.int x :: .ref a :: st) := fun p l e s m args below meth c A H locs lsA K hP hD hS hl => by
  have hts := K.2.2.2.2.1
  exact va_put (D := D) (ci := ci) (v := .int x) (ty := .int) K.1 K.2.1 hts hin t0 hty hnm K.2.2.2.1 K.2.2.2.2.2.2.2.1 hP hD hS q0 he hc i hi (hts _ hw) (fun _ q => q) hfin hd rfl rfl hl0 d (fun H1 locs1 hP1 hD1 hS1 => k p l e s m args below meth c A H1 locs1 lsA K hP1 hD1 hS1 hl)
theorem U_get {idx ci i a : Nat} {fs : List Value} (v : Value) (q0 : Nat) (fa : FA own idx ci i) (he : ws[q0]? = some (a, .inr (ci, fs))) (hv : fs[i]? = some v) (d : decode cc pc = .ok (.getfield idx, 3)) (k : U own cc nL ini F L C S D ca post ws cl sl (pc + 3) ls (v :: st)) : U own cc nL ini F L C S D ca post ws cl sl pc ls (.ref a :: st) := fun p l e s m args below meth c A H locs lsA K hP hD hS hl => by
  obtain ⟨Cn, T, N, f1, f2, f3, f4⟩ := fa
  have hts := K.2.2.2.2.1
  exact va_get (D := D) (ci := ci) (v := v) K.1 K.2.1 hts f2 K.2.2.2.1 K.2.2.2.2.2.2.2.1 hP q0 he f1 i f3 (hts _ f4) (fun _ q => q) hv d (k p l e s m args below meth c A H locs lsA K hP hD hS hl)
theorem U_vret (d : decode cc pc = .ok (.return_, 1)) (hp : post ws) (hc : cl = C) (hs : sl = S) : U own cc nL ini F L C S D ca post ws cl sl pc ls [] := fun p l e s m args below meth c A H locs lsA K hP hD hS hl => by
  subst hc
  subst hs
  have hlocks : meth.locks = false := K.2.2.2.2.2.1
  exact W.vret K.1 K.2.1 K.2.2.2.2.2.2.1 (fun t ht hW => ⟨⟨ws, rfl, hp, by rw [ht]; exact hP, hD⟩, hS.F ht⟩) hS.2.2 d
theorem U_aast {t q0 qk ci a v n : Nat} {i : Int32} {Cn : String} {vs : List Value} {r : vw_C} {f : Nat → Option Nat} (ht : t = 3 ∧ Cn = "RodOwes$County" ∨ t = 4 ∧ Cn = "RodOwes$Sheet") (ha : ws[q0]? = some (a, .inl (ca t, n, .inr (.inr (.inr (.inr f)))))) (hv : ws[qk]? = some (v, .inr (ci, vs))) (hc : classes[ci]? = some r) (hr : r.1 = Cn) (hin : vp_in i n) (d : decode cc pc = .ok (.aastore, 1))
    (k : U own cc nL ini F L C S D ca post (ws.set q0 (a, .inl (ca t, n, .inr (.inr (.inr (.inr (va_up f i.toNatClampNeg (some v)))))))) cl sl (pc + 1) ls st) : U own cc nL ini F L C S D ca post ws cl sl pc ls (.ref v :: .int i :: .ref a :: st) := fun p l e s m args below meth c A H locs lsA K hP hD hS hl => by
  have hK := K.2.2.2.2.2.2.2.1
  rcases ht with ⟨rfl, rfl⟩ | ⟨rfl, rfl⟩
  · exact va_astq (D := D) K.1 K.2.1 hK hP hD hS q0 3 qk ci ha (by rw [hr]; rfl) hv hc hin d (fun H1 locs1 hP1 hD1 hS1 => k p l e s m args below meth c A H1 locs1 lsA K hP1 hD1 hS1 hl)
  · exact va_astq (D := D) K.1 K.2.1 hK hP hD hS q0 4 qk ci ha (by rw [hr]; rfl) hv hc hin d (fun H1 locs1 hP1 hD1 hS1 => k p l e s m args below meth c A H1 locs1 lsA K hP1 hD1 hS1 hl)
end UR
theorem arrV_congr {cA : ClassId} {n : Nat} {f g : Nat → Int32} (h : ∀ j, j < n → f j = g j) : vp_cell cA (n, .inl f) = vp_cell cA (n, .inl g) := by
  rw [vp_cell_i, vp_cell_i]
  unfold arrV
  congr 1
  apply Array.ext
  · simp
  · intro i h1 h2
    simp at h1
    simp [h i h1]
section UC
variable {own : String} {cc : ByteArray} {nL : Nat} {ini : Bool} {F L C S : Nat} {D : va_G} {ca : Nat → ClassId} {post : va_W → Prop} {ws : va_W} {cl sl pc : Nat} {ls : Pl} {st : List Value}
variable {p : Program} {l : Launch} {e : Env} {s : State} {m : MethodId} {args : Array Value} {below : List Frame} {meth : Method} {c : Code} {A : Nat → Prop} {H : Heap} {locs : List Loc} {lsA : Array Slot}
theorem uu_pre {wc : va_W} (K : Ku own cc nL ini D ca p s m args meth c A) (hP : va_P D classes wc H) (hD : va_D A wc) (As : List Value) : FrameBlind (va_Pc As (fun U => U.heap.size = H.size ∧ va_P D classes wc U.heap ∧ va_K D classes (tysC ca) U ∧ va_D (fun _ => True) wc ∧ Kw U)) ∧ ∀ U : State, U.heap = H → s.WarmedH U.vm → va_Pc As (fun U => U.heap.size = H.size ∧ va_P D classes wc U.heap ∧ va_K D classes (tysC ca) U ∧ va_D (fun _ => True) wc ∧ Kw U) As.toArray U := by
  refine ⟨fun a U g mk q => ?_, fun U hU hW => ⟨rfl, ?_⟩⟩
  · obtain ⟨q0, q1, qP, qK, qA, qR⟩ := q
    exact ⟨q0, q1, qP, va_K.moved (u := U) (U := U.calling g mk a) (Vm.Alike.refl U.vm) qK, qA, Kw.blind g mk a qR⟩
  · exact ⟨by rw [hU], by rw [hU]; exact hP, va_K.moved hW.alike K.2.2.2.2.2.2.2.1, hD.weaken (fun _ _ _ _ => trivial), Kw.to hW K.2.2.2.2.2.2.2.2.2.2⟩
theorem uu_after {wc wr : va_W} {st0 rest : List Value} {a : Array Value} {C' S' : Nat} {post' : va_W → Prop} (isC isR : List Nat) (hC : isC.map (fun i => ws[i]?) = wc.map some) (hR : isR.map (fun i => ws[i]?) = wr.map some) (hn : va_nd isR = true) (hdis : ∀ i ∈ isR, i ∉ isC) (hr : va_Run p l e (rmC F L C S) s m args below meth c H locs cl sl C' S' (F0 m pc lsA st0) rest (Qu D (va_A wc H.size) post' a) (va_A wc H.size)) (K : Ku own cc nL ini D ca p s m args meth c A) (hP : va_P D classes ws H) (hD : va_D A ws) (hS : va_S A s.heap H locs) (hl : lh (fun k => k) lsA nL ls)
    (kk : ∀ w1 : va_W, post' w1 → U own cc nL ini F L C S D ca post (wr ++ w1) (cl + C') (sl + S') (pc + 3) ls rest) : W p l e (rmC F L C S) s m args below meth c H locs cl sl (MQ below (Qu D A post) args s C S A) (F0 m pc lsA st0) := by
  have hFc := va_free (wc := wc) hD hS K.2.2.2.2.2.2.2.2.1 isC hC
  intro T hT Xs
  obtain ⟨v, st₀, t, T', L', h0, X', hL, e1, e2, ⟨⟨w1, hv, hp, hb, hb2⟩, hz, hk⟩, stp⟩ := hr T hT Xs
  have hv' : v = none := by injection hv
  subst hv'
  rw [h0] at hz hk
  obtain ⟨hPj, hDj⟩ := va_join (wr := wr) (w1 := w1) (H1 := t.heap) hP hD isC isR hC hR hn hdis hk hFc hb hb2
  have hS' : va_S A s.heap T'.heap (locs ++ L') := ⟨Nat.le_trans hS.1 (by rw [e1]; exact hz), fun q h1 h2 => by rw [e1, hk q (Nat.lt_of_lt_of_le h1 hS.1) (fun z => h2 (hFc q z))]; exact hS.2.1 q h1 h2, fun q hq => by
      rcases List.mem_append.mp hq with h | h
      · exact hS.2.2 q h
      · exact hFc _ (hL q h)⟩
  obtain ⟨t2, a1, b1⟩ := kk w1 hp p l e s m args below meth c A T'.heap (locs ++ L') lsA K (by rw [e1]; exact hPj) hDj hS' hl T' rfl X'
  exact ⟨t2, stp t2 a1, b1⟩
end UC
section UD
variable {own : String} {cc : ByteArray} {nL : Nat} {ini : Bool} {F L C S : Nat} {D : va_G} {ca : Nat → ClassId} {post : va_W → Prop} {ws : va_W} {cl sl pc : Nat} {ls : Pl} {st : List Value}
def CI (own : String) (idx : Nat) (y : MethodName) (cc' : ByteArray) (nL' : Nat) (n : Nat) : Prop := CB y cc' nL' none n ∧ y.name = "<init>" ∧ Cond.instanceMethod y ∈ vv_G ∧ (Cond.methodLink own idx y ∈ vv_G ∨ (own, idx, y) ∈ kNest)
theorem U_callI {y : MethodName} {cc' : ByteArray} {nL' F' L' C' S' idx b : Nat} {wc : va_W} {post' : va_W → Prop} (wr : va_W) (rest : List Value) (isC isR : List Nat) (ci : CI own idx y cc' nL' 0) (hC : isC.map (fun i => ws[i]?) = wc.map some) (hR : isR.map (fun i => ws[i]?) = wr.map some) (hn : va_nd isR = true) (hdis : ∀ i ∈ isR, i ∉ isC) (hns : va_nd isC = true) (d : decode cc pc = .ok (.invokespecial idx, 3)) (hrm : (rest.map fun v => v.category).sum ≤ 8) (hF : F' + 1 ≤ F) (hL : 8 + (nL' + 11) + L' ≤ L) (hcl : cl + C' ≤ C) (hsl : sl + S' ≤ S)
    (ct : Cu y cc' nL' F' L' C' S' D ca [.ref b] wc post') (kk : ∀ w1 : va_W, post' w1 → U own cc nL ini F L C S D ca post (wr ++ w1) (cl + C') (sl + S') (pc + 3) ls rest) : U own cc nL ini F L C S D ca post ws cl sl pc ls (.ref b :: rest) := fun p l e s m args below meth c A H locs lsA K hP hD hS hl => by
  obtain ⟨⟨q1, q2, q3⟩, q4, q5, q6⟩ := ci
  have hts := K.2.2.2.2.1
  have hPc : va_P D classes wc H := fun k q hk => by
    have h1 : (isC.map (fun i => ws[i]?))[k]? = some (some q) := by rw [hC, List.getElem?_map, hk]; rfl
    rw [List.getElem?_map] at h1
    cases hi : isC[k]? with
    | none => rw [hi] at h1; cases h1
    | some i => rw [hi] at h1; exact hP i q (Option.some.inj h1)
  obtain ⟨b1, b2⟩ := uu_pre K hPc (hD.sub isC hns hC) [.ref b]
  rcases q6 with q6 | q6
  · exact uu_after isC isR hC hR hn hdis (va_runI (Ts := vv_G) (As := []) (b := b) (n := 0) ⟨K.1, K.2.1, K.2.2.1, K.2.2.2.1, hts⟩ (ct l H.size) ⟨callB_of 0 hts (vv_good q1) rfl rfl rfl (hts _ q3) (hts _ q6) q2 ⟨hF, hL⟩, q4, hts _ q5⟩ ⟨b1, b2⟩ rfl rfl hl.1 rfl (lv_room hrm) d ⟨hcl, hsl⟩) K hP hD hS hl kk
  · have hN := K.2.2.2.2.2.2.2.2.2.2.1 _ q6
    exact uu_after isC isR hC hR hn hdis (va_runIN (Ts := vv_G) (As := []) (b := b) (n := 0) ⟨K.1, K.2.1, K.2.2.1, K.2.2.2.1, hts⟩ (ct l H.size) ⟨va_cnB 0 hts (vv_good q1) rfl rfl rfl hN (hts _ q3) q2 ⟨hF, hL⟩, q4, hts _ q5⟩ ⟨b1, b2⟩ rfl rfl hl.1 rfl (lv_room hrm) d ⟨hcl, hsl⟩) K hP hD hS hl kk
theorem U_callV {y : MethodName} {cc' : ByteArray} {nL' F' L' C' S' idx b ck qb : Nat} {wc : va_W} {fsb : List Value} {post' : va_W → Prop} (wr : va_W) (rest : List Value) (isC isR : List Nat) (cv : CV own idx y cc' nL' none 0) (hb : ws[qb]? = some (b, .inr (ck, fsb))) (hcn : (classes[ck]?).map (fun q => q.1) = some y.cls) (hC : isC.map (fun i => ws[i]?) = wc.map some) (hR : isR.map (fun i => ws[i]?) = wr.map some) (hn : va_nd isR = true) (hdis : ∀ i ∈ isR, i ∉ isC) (hns : va_nd isC = true) (d : decode cc pc = .ok (.invokevirtual idx, 3)) (hrm : (rest.map fun v => v.category).sum ≤ 8) (hF : F' + 1 ≤ F) (hL : 8 + (nL' + 11) + L' ≤ L) (hcl : cl + C' ≤ C) (hsl : sl + S' ≤ S)
    (ct : Cu y cc' nL' F' L' C' S' D ca [.ref b] wc post') (kk : ∀ w1 : va_W, post' w1 → U own cc nL ini F L C S D ca post (wr ++ w1) (cl + C') (sl + S') (pc + 3) ls rest) : U own cc nL ini F L C S D ca post ws cl sl pc ls (.ref b :: rest) := fun p l e s m args below meth c A H locs lsA K hP hD hS hl => by
  obtain ⟨⟨q1, q2, q3⟩, q4, q5, q6⟩ := cv
  have hts := K.2.2.2.2.1
  have hPc : va_P D classes wc H := fun k q hk => by
    have h1 : (isC.map (fun i => ws[i]?))[k]? = some (some q) := by rw [hC, List.getElem?_map, hk]; rfl
    rw [List.getElem?_map] at h1
    cases hi : isC[k]? with
    | none => rw [hi] at h1; cases h1
    | some i => rw [hi] at h1; exact hP i q (Option.some.inj h1)
  obtain ⟨b1, b2⟩ := uu_pre K hPc (hD.sub isC hns hC) [.ref b]
  obtain ⟨r, hr, hrc⟩ : ∃ r, classes[ck]? = some r ∧ r.1 = y.cls := by
    cases hz : classes[ck]? with
    | none => rw [hz] at hcn; cases hcn
    | some r => rw [hz] at hcn; exact ⟨r, rfl, Option.some.inj hcn⟩
  have hrecv := va_recv K.2.2.2.2.2.2.2.1 hP hr hb
  rw [hrc] at hrecv
  exact uu_after isC isR hC hR hn hdis (va_runV (Ts := vv_G) (As := []) (b := b) (C := y.cls) (n := 0) ⟨K.1, K.2.1, K.2.2.1, K.2.2.2.1, hts⟩ (ct l H.size) ⟨callB_of 0 hts (vv_good q1) rfl rfl rfl (hts _ q3) (hts _ q6) q2 ⟨hF, hL⟩, hts _ q4, hts _ q5⟩ ⟨b1, hrecv, b2⟩ rfl rfl hl.1 rfl (lv_room hrm) d ⟨hcl, hsl⟩) K hP hD hS hl kk
theorem U_callS {y : MethodName} {cc' : ByteArray} {nL' F' L' C' S' idx : Nat} {wc : va_W} {post' : va_W → Prop} (As : List Value) (wr : va_W) (rest : List Value) (isC isR : List Nat) (cs : CS own idx y cc' nL' none As.length) (hC : isC.map (fun i => ws[i]?) = wc.map some) (hR : isR.map (fun i => ws[i]?) = wr.map some) (hn : va_nd isR = true) (hdis : ∀ i ∈ isR, i ∉ isC) (hns : va_nd isC = true) (hno : (own, idx, y) ∉ vv_nest) (d : decode cc pc = .ok (.invokestatic idx, 3)) (hst : st = As.reverse ++ rest) (hrm : (rest.map fun v => v.category).sum ≤ 8) (hF : F' + 1 ≤ F) (hL : 8 + (nL' + 11) + L' ≤ L) (hcl : cl + C' ≤ C) (hsl : sl + S' ≤ S)
    (ct : Cu y cc' nL' F' L' C' S' D ca As wc post') (kk : ∀ w1 : va_W, post' w1 → U own cc nL ini F L C S D ca post (wr ++ w1) (cl + C') (sl + S') (pc + 3) ls rest) : U own cc nL ini F L C S D ca post ws cl sl pc ls st := fun p l e s m args below meth c A H locs lsA K hP hD hS hl => by
  obtain ⟨⟨q1, q2, q3⟩, q4, q6⟩ := cs
  have q6 := q6.resolve_right hno
  have hts := K.2.2.2.2.1
  have hPc : va_P D classes wc H := fun k q hk => by
    have h1 : (isC.map (fun i => ws[i]?))[k]? = some (some q) := by rw [hC, List.getElem?_map, hk]; rfl
    rw [List.getElem?_map] at h1
    cases hi : isC[k]? with
    | none => rw [hi] at h1; cases h1
    | some i => rw [hi] at h1; exact hP i q (Option.some.inj h1)
  obtain ⟨b1, b2⟩ := uu_pre K hPc (hD.sub isC hns hC) As
  exact uu_after isC isR hC hR hn hdis (va_runS (Ts := vv_G) (As := As) (n := As.length) ⟨K.1, K.2.1, K.2.2.1, K.2.2.2.1, hts⟩ (ct l H.size) ⟨callB_of As.length hts (vv_good q1) rfl rfl rfl (hts _ q3) (hts _ q6) q2 ⟨hF, hL⟩, hts _ q4⟩ ⟨b1, b2⟩ rfl rfl hl.1 (by rw [hst]) (lv_room hrm) d ⟨hcl, hsl⟩) K hP hD hS hl kk
end UD
end
section
section UM
variable {own : String} {cc : ByteArray} {nL : Nat} {ini : Bool} {F L C S : Nat} {D : va_G} {ca : Nat → ClassId} {post : va_W → Prop} {ws : va_W} {cl sl pc : Nat} {ls : Pl} {st : List Value}
theorem U_mna {idx : Nat} (hw : Cond.classLink own idx "[[I" ∈ vv_G) (ha : Cond.arrayClass .int ∈ vv_G) (d : decode cc pc = .ok (.multianewarray idx 2, 4)) (hC : cl + 7 ≤ C) (hSl : sl + 102 ≤ S)
    (k : ∀ (q : Nat) (r : Nat → Nat), U own cc nL ini F L C S D ca post (ws ++ [(q, .inl (ca 5, 6, .inr (.inr (.inr (.inr (fun i => if i < 6 then some (r i) else none)))))), (r 0, .inl (ca 0, 16, .inl (fun _ => 0))), (r 1, .inl (ca 0, 16, .inl (fun _ => 0))), (r 2, .inl (ca 0, 16, .inl (fun _ => 0))), (r 3, .inl (ca 0, 16, .inl (fun _ => 0))), (r 4, .inl (ca 0, 16, .inl (fun _ => 0))), (r 5, .inl (ca 0, 16, .inl (fun _ => 0)))]) (cl + 7) (sl + 102) (pc + 4) ls (.ref q :: st)) : U own cc nL ini F L C S D ca post ws cl sl pc ls (.int 16 :: .int 6 :: st) := fun p l e s m args below meth c A H locs lsA K hP hD hS hl => by
  have hts := K.2.2.2.2.1
  have hK := K.2.2.2.2.2.2.2.1
  have hcy : s.vm.findClass (FieldType.array .int).toString = some (ca 0) := (hK.2 0 _ rfl).2
  have e0 : ws ++ va_pl [] (fun _ => .inl (ca 0, 0, .inl (fun _ => 0))) = ws := List.append_nil ws
  refine va_mna (D := D) (ty := .int) (own := own) (index := idx) (X := ws) (L := []) (f := fun _ => .inl (ca 0, 0, .inl (fun _ => 0))) (N' := 6) (K' := 16) (z := (16, .inl (fun _ => 0))) K.1 K.2.1 K.2.2.2.1 (hts _ hw) K.2.2.2.2.2.2.2.2.2.2.2.2.2 (hts _ ha) hcy hK (by rw [e0]; exact hP) (by rw [e0]; exact hD) hS K.2.2.2.2.2.2.2.2.1 (by decide) (by decide) (by decide) (by decide) (by decide) (by decide) (by decide) (by decide) (by decide) (by show cl + (1 + 6) ≤ C; omega) (by show sl + (6 + 6 * 16) ≤ S; omega) (fun _ => rfl) d (fun q r cA H1 _ _ hK1 hP1 hD1 hS1 => ?_)
  have eA : cA = ca 5 := ca_prim (ty := .array .int) (hK1.2 6 _ rfl).2 (hK.2 5 _ rfl).2
  subst eA
  have e1 : (ws ++ [(q, Sum.inl (ca 5, 6, Sum.inr (Sum.inr (Sum.inr (Sum.inr (fun i => if i < 6 then some (r i) else none))))))]) ++ va_pl ([] ++ (List.range 6).map r) (vr_up (fun _ => Sum.inl (ca 0, 0, Sum.inl (fun _ => 0))) ((List.range 6).map r) (.inl (ca 0, 16, .inl (fun _ => 0)))) = ws ++ [(q, .inl (ca 5, 6, .inr (.inr (.inr (.inr (fun i => if i < 6 then some (r i) else none)))))), (r 0, .inl (ca 0, 16, .inl (fun _ => 0))), (r 1, .inl (ca 0, 16, .inl (fun _ => 0))), (r 2, .inl (ca 0, 16, .inl (fun _ => 0))), (r 3, .inl (ca 0, 16, .inl (fun _ => 0))), (r 4, .inl (ca 0, 16, .inl (fun _ => 0))), (r 5, .inl (ca 0, 16, .inl (fun _ => 0)))] := by
    rw [List.append_assoc]
    congr 1
    have hm : ∀ i, i < 6 → vr_up (fun _ => Sum.inl (ca 0, 0, Sum.inl (fun _ => 0))) ((List.range 6).map r) (.inl (ca 0, 16, .inl (fun _ => 0))) (r i) = (.inl (ca 0, 16, .inl (fun _ => 0)) : va_E) := fun i hi => vr_up_in (List.mem_map.mpr ⟨i, List.mem_range.mpr hi, rfl⟩)
    show [_] ++ List.map _ [r 0, r 1, r 2, r 3, r 4, r 5] = _
    simp only [List.map_cons, List.map_nil, List.cons_append, List.nil_append]
    rw [hm 0 (by decide), hm 1 (by decide), hm 2 (by decide), hm 3 (by decide), hm 4 (by decide), hm 5 (by decide)]
  rw [e1] at hP1 hD1
  exact W.widen (by (first | decide +kernel | omega)) (by (first | decide +kernel | omega)) (k q r p l e s m args below meth c A H1 locs lsA K hP1 hD1 hS1 hl)
theorem U_iast {q0 a n : Nat} {i x : Int32} {f : Nat → Int32} (ha : ws[q0]? = some (a, .inl (ca 0, n, .inl f))) (hin : vp_in i n) (d : decode cc pc = .ok (.iastore, 1)) (k : U own cc nL ini F L C S D ca post (ws.set q0 (a, .inl (ca 0, n, .inl (upd f i.toNatClampNeg x)))) cl sl (pc + 1) ls st) : U own cc nL ini F L C S D ca post ws cl sl pc ls (.int x :: .int i :: .ref a :: st) := fun p l e s m args below meth c A H locs lsA K hP hD hS hl =>
  va_iast (D := D) K.1 K.2.1 K.2.2.2.2.2.2.2.1 hP hD hS q0 0 ha rfl hin d (fun H1 locs1 hP1 hD1 hS1 => k p l e s m args below meth c A H1 locs1 lsA K hP1 hD1 hS1 hl)
theorem U_alen {q0 a n : Nat} {v : Int32} {f : Nat → Int32} (ha : ws[q0]? = some (a, .inl (ca 0, n, .inl f))) (hv : Int32.ofNat n = v) (d : decode cc pc = .ok (.arraylength, 1)) (k : U own cc nL ini F L C S D ca post ws cl sl (pc + 1) ls (.int v :: st)) : U own cc nL ini F L C S D ca post ws cl sl pc ls (.ref a :: st) := fun p l e s m args below meth c A H locs lsA K hP hD hS hl =>
  va_alen (D := D) K.1 K.2.1 K.2.2.2.2.2.2.2.1 hP q0 0 ha rfl hv d (k p l e s m args below meth c A H locs lsA K hP hD hS hl)
theorem U_row1 {q n : Nat} {f g : Nat → Int32} (h : ∀ j, j < n → f j = g j) (k : U own cc nL ini F L C S D ca post [(q, .inl (ca 0, n, .inl g))] cl sl pc ls st) : U own cc nL ini F L C S D ca post [(q, .inl (ca 0, n, .inl f))] cl sl pc ls st := fun p l e s m args below meth c A H locs lsA K hP hD hS hl => by
  refine k p l e s m args below meth c A H locs lsA K ?_ ?_ hS hl
  · intro k9 x hx
    have h0 : k9 < 1 := (List.getElem?_eq_some_iff.mp hx).1
    rw [show k9 = 0 by (first | decide +kernel | omega)] at hx
    cases hx
    have h1 := hP 0 _ rfl
    show H[q]? = some (vp_cell (ca 0) (n, .inl g))
    rw [← arrV_congr h]
    exact h1
  · refine ⟨fun i j x y hx hy _ => ?_, fun k9 x hx => ?_⟩
    · have h0 : i < 1 := (List.getElem?_eq_some_iff.mp hx).1
      have h1 : j < 1 := (List.getElem?_eq_some_iff.mp hy).1
      omega
    · have h0 : k9 < 1 := (List.getElem?_eq_some_iff.mp hx).1
      rw [show k9 = 0 by (first | decide +kernel | omega)] at hx
      cases hx
      exact hD.2 0 (q, .inl (ca 0, n, .inl f)) rfl
end UM
theorem k_fill_l (D : va_G) (ca : Nat → ClassId) (q n : Nat) (hn : n < 1000) (v w : Int32) (hw : w.toInt = n) : ∀ (d j : Nat) (x : Int32) (f : Nat → Int32), n - j = d → x.toInt = j → j ≤ n → (∀ i, i < j → f i = v) → U R_Arr b_Arr_fill 4 false 0 0 0 0 D ca (fun w => w = [(q, .inl (ca 0, n, .inl (fun _ => v)))]) [(q, .inl (ca 0, n, .inl f))] 0 0 5 [some (.ref q), some (.int v), some (.int x), some (.int w)] [] := by
  intro d
  induction d with
  | zero =>
    intro j x f hd hx hj hf
    refine U_iload_n 2 d_Arr_fill_5 rfl rfl ?_
    refine U_iload_n 3 d_Arr_fill_6 rfl rfl ?_
    refine U_icmp_ge 20 d_Arr_fill_7 (by decide) (fun _ => ?_) (fun c => absurd ((ti_le hw hx).mpr (by (first | decide +kernel | omega))) c)
    refine U_row1 (g := fun _ => v) (fun i hi => hf i (by (first | decide +kernel | omega))) ?_
    exact U_vret d_Arr_fill_20 rfl rfl rfl
  | succ d ih =>
    intro j x f hd hx hj hf
    refine U_iload_n 2 d_Arr_fill_5 rfl rfl ?_
    refine U_iload_n 3 d_Arr_fill_6 rfl rfl ?_
    refine U_icmp_ge 20 d_Arr_fill_7 (by decide) (fun c => absurd ((ti_le hw hx).mp c) (by (first | decide +kernel | omega))) (fun _ => ?_)
    refine U_aload_n 0 d_Arr_fill_10 rfl rfl ?_
    refine U_iload_n 2 d_Arr_fill_11 rfl rfl ?_
    refine U_iload_n 1 d_Arr_fill_12 rfl rfl ?_
    refine U_iast (q0 := 0) rfl (vp_in_of_ti hx (by (first | decide +kernel | omega))) d_Arr_fill_13 ?_
    refine U_iinc (v := x + 1) 2 [some (.ref q), some (.int v), some (.int (x + 1)), some (.int w)] d_Arr_fill_14 rfl rfl (by decide) rfl rfl ?_
    refine U_goto 5 d_Arr_fill_17 (by decide) ?_
    refine ih (j + 1) (x + 1) (upd f x.toNatClampNeg v) (by (first | decide +kernel | omega)) ?_ (by (first | decide +kernel | omega)) ?_
    · rw [ti_add hx (show (1 : Int32).toInt = 1 by decide) (by (first | decide +kernel | omega))]; omega
    · intro i hi
      have e : x.toNatClampNeg = j := by rw [ti_cl, hx]; omega
      rw [e]
      by_cases hij : i = j
      · subst hij; exact if_pos rfl
      · exact (if_neg hij).trans (hf i (by (first | decide +kernel | omega)))
theorem k_fill (D : va_G) (ca : Nat → ClassId) (q n : Nat) (hn : n < 1000) (f : Nat → Int32) (v : Int32) : Cu y_Arr_fill b_Arr_fill 4 0 0 0 0 D ca [.ref q, .int v] [(q, .inl (ca 0, n, .inl f))] (fun w => w = [(q, .inl (ca 0, n, .inl (fun _ => v)))]) := by
  refine cu_of R_Arr false [some (.ref q), some (.int v), none, none] rfl (fun q => by cases q) (by decide) rfl (Nat.le_of_ble_eq_true rfl) ?_
  refine U_iconst 0 d_Arr_fill_0 (by decide) ?_
  refine U_istore_n 2 [some (.ref q), some (.int v), some (.int 0), none] d_Arr_fill_1 rfl (by decide) rfl rfl ?_
  refine U_aload_n 0 d_Arr_fill_2 rfl rfl ?_
  refine U_alen (q0 := 0) rfl rfl d_Arr_fill_3 ?_
  refine U_istore_n 3 [some (.ref q), some (.int v), some (.int 0), some (.int (Int32.ofNat n))] d_Arr_fill_4 rfl (by decide) rfl rfl ?_
  have hw : (Int32.ofNat n).toInt = n := by
    rw [Int32.toInt_ofNat_of_lt (by (first | decide +kernel | omega))]
  exact k_fill_l D ca q n hn v _ hw (n - 0) 0 0 f rfl (by decide) (by (first | decide +kernel | omega)) (fun i hi => absurd hi (by (first | decide +kernel | omega)))
end
section
theorem wo_Land_3 : Cond.methodLink R_Land 3 objectInit ∈ vv_G := vv_Gin (List.mem_append_right _ (List.mem_append_left _ (List.mem_of_getElem? (i := 40) (by decide +kernel)))) (by decide +kernel)
theorem wo1 : Cond.instanceMethod objectInit ∈ vv_G := vv_Gin (List.mem_append_right _ (List.mem_append_left _ (List.mem_of_getElem? (i := 27) (by decide +kernel)))) (by decide +kernel)
theorem wo2 : Cond.code objectInit ⟨#[0xb1]⟩ 1 none ∈ vv_G := vv_Gin (List.mem_append_right _ (List.mem_append_left _ (List.mem_of_getElem? (i := 28) (by decide +kernel)))) (by decide +kernel)
theorem wa_int : Cond.arrayClass .int ∈ vv_G := vv_Gin (List.mem_append_right _ (List.mem_append_left _ (List.mem_of_getElem? (i := 99) (by decide +kernel)))) (by decide +kernel)
theorem fl_Land_9 : Cond.fieldLink R_Land 9 (T_Land 4).1 (T_Land 4).2.1 (T_Land 4).2.2.1 ∈ vv_G := vv_Gin (List.mem_append_right _ (List.mem_append_left _ (List.mem_of_getElem? (i := 59) rfl))) rfl
theorem fl_Land_15 : Cond.fieldLink R_Land 15 (T_Land 5).1 (T_Land 5).2.1 (T_Land 5).2.2.1 ∈ vv_G := vv_Gin (List.mem_append_right _ (List.mem_append_left _ (List.mem_of_getElem? (i := 64) rfl))) rfl
theorem fl_Land_18 : Cond.fieldLink R_Land 18 (T_Land 6).1 (T_Land 6).2.1 (T_Land 6).2.2.1 ∈ vv_G := vv_Gin (List.mem_append_right _ (List.mem_append_left _ (List.mem_of_getElem? (i := 67) rfl))) rfl
theorem fl_Land_21 : Cond.fieldLink R_Land 21 (T_Land 7).1 (T_Land 7).2.1 (T_Land 7).2.2.1 ∈ vv_G := vv_Gin (List.mem_append_right _ (List.mem_append_left _ (List.mem_of_getElem? (i := 71) rfl))) rfl
theorem fl_Land_24 : Cond.fieldLink R_Land 24 (T_Land 8).1 (T_Land 8).2.1 (T_Land 8).2.2.1 ∈ vv_G := vv_Gin (List.mem_append_right _ (List.mem_append_left _ (List.mem_of_getElem? (i := 76) rfl))) rfl
theorem wo_Ledger_3 : Cond.methodLink R_Ledger 3 objectInit ∈ vv_G := vv_Gin (List.mem_append_right _ (List.mem_append_left _ (List.mem_of_getElem? (i := 105) (by decide +kernel)))) (by decide +kernel)
theorem fl_Ledger_9 : Cond.fieldLink R_Ledger 9 (T_Ledger 0).1 (T_Ledger 0).2.1 (T_Ledger 0).2.2.1 ∈ vv_G := vv_Gin (List.mem_append_right _ (List.mem_append_left _ (List.mem_of_getElem? (i := 106) rfl))) rfl
theorem fl_Ledger_15 : Cond.fieldLink R_Ledger 15 (T_Ledger 1).1 (T_Ledger 1).2.1 (T_Ledger 1).2.2.1 ∈ vv_G := vv_Gin (List.mem_append_right _ (List.mem_append_left _ (List.mem_of_getElem? (i := 110) rfl))) rfl
theorem fl_Ledger_18 : Cond.fieldLink R_Ledger 18 (T_Ledger 2).1 (T_Ledger 2).2.1 (T_Ledger 2).2.2.1 ∈ vv_G := vv_Gin (List.mem_append_right _ (List.mem_append_left _ (List.mem_of_getElem? (i := 111) rfl))) rfl
theorem fl_Ledger_21 : Cond.fieldLink R_Ledger 21 (T_Ledger 3).1 (T_Ledger 3).2.1 (T_Ledger 3).2.2.1 ∈ vv_G := vv_Gin (List.mem_append_right _ (List.mem_append_left _ (List.mem_of_getElem? (i := 112) rfl))) rfl
theorem wo_Sights_3 : Cond.methodLink R_Sights 3 objectInit ∈ vv_G := vv_Gin (List.mem_append_right _ (List.mem_append_left _ (List.mem_of_getElem? (i := 132) (by decide +kernel)))) (by decide +kernel)
theorem fl_Sights_9 : Cond.fieldLink R_Sights 9 (T_Sights 0).1 (T_Sights 0).2.1 (T_Sights 0).2.2.1 ∈ vv_G := vv_Gin (List.mem_append_right _ (List.mem_append_left _ (List.mem_of_getElem? (i := 133) rfl))) rfl
theorem fl_Sights_15 : Cond.fieldLink R_Sights 15 (T_Sights 1).1 (T_Sights 1).2.1 (T_Sights 1).2.2.1 ∈ vv_G := vv_Gin (List.mem_append_right _ (List.mem_append_left _ (List.mem_of_getElem? (i := 135) rfl))) rfl
theorem fl_Sights_18 : Cond.fieldLink R_Sights 18 (T_Sights 2).1 (T_Sights 2).2.1 (T_Sights 2).2.2.1 ∈ vv_G := vv_Gin (List.mem_append_right _ (List.mem_append_left _ (List.mem_of_getElem? (i := 137) rfl))) rfl
theorem fl_Sights_21 : Cond.fieldLink R_Sights 21 (T_Sights 3).1 (T_Sights 3).2.1 (T_Sights 3).2.2.1 ∈ vv_G := vv_Gin (List.mem_append_right _ (List.mem_append_left _ (List.mem_of_getElem? (i := 139) rfl))) rfl
theorem fl_Land_27 : Cond.fieldLink R_Land 27 (T_Land 0).1 (T_Land 0).2.1 (T_Land 0).2.2.1 ∈ vv_G := vv_Gin (List.mem_append_right _ (List.mem_append_left _ (List.mem_of_getElem? (i := 41) rfl))) rfl
theorem fl_Land_31 : Cond.fieldLink R_Land 31 (T_Land 1).1 (T_Land 1).2.1 (T_Land 1).2.2.1 ∈ vv_G := vv_Gin (List.mem_append_right _ (List.mem_append_left _ (List.mem_of_getElem? (i := 45) rfl))) rfl
theorem fl_Land_34 : Cond.fieldLink R_Land 34 (T_Land 2).1 (T_Land 2).2.1 (T_Land 2).2.2.1 ∈ vv_G := vv_Gin (List.mem_append_right _ (List.mem_append_left _ (List.mem_of_getElem? (i := 49) rfl))) rfl
theorem fl_Land_37 : Cond.fieldLink R_Land 37 (T_Land 3).1 (T_Land 3).2.1 (T_Land 3).2.2.1 ∈ vv_G := vv_Gin (List.mem_append_right _ (List.mem_append_left _ (List.mem_of_getElem? (i := 54) rfl))) rfl
theorem fl_Ledger_30 : Cond.fieldLink R_Ledger 30 (T_Ledger 4).1 (T_Ledger 4).2.1 (T_Ledger 4).2.2.1 ∈ vv_G := vv_Gin (List.mem_append_right _ (List.mem_append_left _ (List.mem_of_getElem? (i := 113) rfl))) rfl
theorem fl_County_37 : Cond.fieldLink R_County 37 (T_Sights 4).1 (T_Sights 4).2.1 (T_Sights 4).2.2.1 ∈ vv_G := vv_Gin (List.mem_append_right _ (List.mem_append_left _ (List.mem_of_getElem? (i := 141) rfl))) rfl
theorem fl_County_41 : Cond.fieldLink R_County 41 (T_County 3).1 (T_County 3).2.1 (T_County 3).2.2.1 ∈ vv_G := vv_Gin (List.mem_append_right _ (List.mem_append_left _ (List.mem_of_getElem? (i := 180) rfl))) rfl
theorem fl_County_44 : Cond.fieldLink R_County 44 (T_County 4).1 (T_County 4).2.1 (T_County 4).2.2.1 ∈ vv_G := vv_Gin (List.mem_append_right _ (List.mem_append_left _ (List.mem_of_getElem? (i := 183) rfl))) rfl
theorem wo_County_3 : Cond.methodLink R_County 3 objectInit ∈ vv_G := vv_Gin (List.mem_append_right _ (List.mem_append_left _ (List.mem_of_getElem? (i := 34) (by decide +kernel)))) (by decide +kernel)
theorem wk_County_9 : Cond.classLink R_County 9 R_Land ∈ vv_G := vv_Gin (List.mem_append_right _ (List.mem_append_left _ (List.mem_of_getElem? (i := 35) (by decide +kernel)))) (by decide +kernel)
theorem wi_Land : Cond.instantiable R_Land 9 ∈ vv_G := vv_Gin (List.mem_append_right _ (List.mem_append_left _ (List.mem_of_getElem? (i := 36) (by decide +kernel)))) (by decide +kernel)
theorem wn_Land : Cond.initialized R_Land ∈ vv_G := vv_Gin (List.mem_append_right _ (List.mem_append_left _ (List.mem_of_getElem? (i := 3) (by decide +kernel)))) (by decide +kernel)
theorem wd_Land : ∀ j, j < 9 → defaultValue (t_Land j) = vp_V [.int 0, .int 0, .int 0, .int 0, .null, .null, .null, .null, .null] j := by decide
theorem cb_Land_init : CB y_Land_init b_Land_init 1 none 0 := ⟨vv_Gin (List.mem_append_right _ (List.mem_append_left _ (List.mem_of_getElem? (i := 39) rfl))) rfl, by decide +kernel, vv_Gin (List.mem_append_right _ (List.mem_append_left _ (List.mem_of_getElem? (i := 3) rfl))) rfl⟩
theorem im_Land_init : Cond.instanceMethod y_Land_init ∈ vv_G := vv_Gin (List.mem_append_right _ (List.mem_append_left _ (List.mem_of_getElem? (i := 38) rfl))) rfl
theorem ck_County_11 : CI R_County 11 y_Land_init b_Land_init 1 0 := ⟨cb_Land_init, rfl, im_Land_init, Or.inr (by decide +kernel)⟩
theorem fl_County_12 : Cond.fieldLink R_County 12 (T_County 0).1 (T_County 0).2.1 (T_County 0).2.2.1 ∈ vv_G := vv_Gin (List.mem_append_right _ (List.mem_append_left _ (List.mem_of_getElem? (i := 171) rfl))) rfl
theorem wk_County_18 : Cond.classLink R_County 18 R_Ledger ∈ vv_G := vv_Gin (List.mem_append_right _ (List.mem_append_left _ (List.mem_of_getElem? (i := 100) (by decide +kernel)))) (by decide +kernel)
theorem wi_Ledger : Cond.instantiable R_Ledger 5 ∈ vv_G := vv_Gin (List.mem_append_right _ (List.mem_append_left _ (List.mem_of_getElem? (i := 101) (by decide +kernel)))) (by decide +kernel)
theorem wn_Ledger : Cond.initialized R_Ledger ∈ vv_G := vv_Gin (List.mem_append_right _ (List.mem_append_left _ (List.mem_of_getElem? (i := 4) (by decide +kernel)))) (by decide +kernel)
theorem wd_Ledger : ∀ j, j < 5 → defaultValue (t_Ledger j) = vp_V [.null, .null, .null, .null, .int 0] j := by decide
theorem cb_Ledger_init : CB y_Ledger_init b_Ledger_init 1 none 0 := ⟨vv_Gin (List.mem_append_right _ (List.mem_append_left _ (List.mem_of_getElem? (i := 104) rfl))) rfl, by decide +kernel, vv_Gin (List.mem_append_right _ (List.mem_append_left _ (List.mem_of_getElem? (i := 4) rfl))) rfl⟩
theorem im_Ledger_init : Cond.instanceMethod y_Ledger_init ∈ vv_G := vv_Gin (List.mem_append_right _ (List.mem_append_left _ (List.mem_of_getElem? (i := 103) rfl))) rfl
theorem ck_County_20 : CI R_County 20 y_Ledger_init b_Ledger_init 1 0 := ⟨cb_Ledger_init, rfl, im_Ledger_init, Or.inr (by decide +kernel)⟩
theorem fl_County_21 : Cond.fieldLink R_County 21 (T_County 1).1 (T_County 1).2.1 (T_County 1).2.2.1 ∈ vv_G := vv_Gin (List.mem_append_right _ (List.mem_append_left _ (List.mem_of_getElem? (i := 175) rfl))) rfl
theorem wk_County_25 : Cond.classLink R_County 25 R_Sights ∈ vv_G := vv_Gin (List.mem_append_right _ (List.mem_append_left _ (List.mem_of_getElem? (i := 127) (by decide +kernel)))) (by decide +kernel)
theorem wi_Sights : Cond.instantiable R_Sights 5 ∈ vv_G := vv_Gin (List.mem_append_right _ (List.mem_append_left _ (List.mem_of_getElem? (i := 128) (by decide +kernel)))) (by decide +kernel)
theorem wn_Sights : Cond.initialized R_Sights ∈ vv_G := vv_Gin (List.mem_append_right _ (List.mem_append_left _ (List.mem_of_getElem? (i := 5) (by decide +kernel)))) (by decide +kernel)
theorem wd_Sights : ∀ j, j < 5 → defaultValue (t_Sights j) = vp_V [.null, .null, .null, .null, .int 0] j := by decide
theorem cb_Sights_init : CB y_Sights_init b_Sights_init 1 none 0 := ⟨vv_Gin (List.mem_append_right _ (List.mem_append_left _ (List.mem_of_getElem? (i := 131) rfl))) rfl, by decide +kernel, vv_Gin (List.mem_append_right _ (List.mem_append_left _ (List.mem_of_getElem? (i := 5) rfl))) rfl⟩
theorem im_Sights_init : Cond.instanceMethod y_Sights_init ∈ vv_G := vv_Gin (List.mem_append_right _ (List.mem_append_left _ (List.mem_of_getElem? (i := 130) rfl))) rfl
theorem ck_County_27 : CI R_County 27 y_Sights_init b_Sights_init 1 0 := ⟨cb_Sights_init, rfl, im_Sights_init, Or.inr (by decide +kernel)⟩
theorem fl_County_28 : Cond.fieldLink R_County 28 (T_County 2).1 (T_County 2).2.1 (T_County 2).2.2.1 ∈ vv_G := vv_Gin (List.mem_append_right _ (List.mem_append_left _ (List.mem_of_getElem? (i := 178) rfl))) rfl
theorem cv_County_32 : CV R_County 32 y_County_reset b_County_reset 1 none 0 := ⟨cb_County_reset, im_County_reset, se_County_reset, vv_Gin (List.mem_append_right _ (List.mem_append_left _ (List.mem_of_getElem? (i := 155) rfl))) rfl⟩
theorem wo_Tape_3 : Cond.methodLink R_Tape 3 objectInit ∈ vv_G := vv_Gin (List.mem_append_right _ (List.mem_append_left _ (List.mem_of_getElem? (i := 209) (by decide +kernel)))) (by decide +kernel)
theorem wa_byte : Cond.arrayClass .byte ∈ vv_G := vv_Gin (List.mem_append_right _ (List.mem_append_left _ (List.mem_of_getElem? (i := 236) (by decide +kernel)))) (by decide +kernel)
theorem fl_Tape_9 : Cond.fieldLink R_Tape 9 (T_Tape 0).1 (T_Tape 0).2.1 (T_Tape 0).2.2.1 ∈ vv_G := vv_Gin (List.mem_append_right _ (List.mem_append_left _ (List.mem_of_getElem? (i := 210) rfl))) rfl
theorem wo_Reader_3 : Cond.methodLink R_Reader 3 objectInit ∈ vv_G := vv_Gin (List.mem_append_right _ (List.mem_append_left _ (List.mem_of_getElem? (i := 203) (by decide +kernel)))) (by decide +kernel)
theorem wk_Reader_9 : Cond.classLink R_Reader 9 R_Tape ∈ vv_G := vv_Gin (List.mem_append_right _ (List.mem_append_left _ (List.mem_of_getElem? (i := 204) (by decide +kernel)))) (by decide +kernel)
theorem wi_Tape : Cond.instantiable R_Tape 6 ∈ vv_G := vv_Gin (List.mem_append_right _ (List.mem_append_left _ (List.mem_of_getElem? (i := 205) (by decide +kernel)))) (by decide +kernel)
theorem wn_Tape : Cond.initialized R_Tape ∈ vv_G := vv_Gin (List.mem_append_right _ (List.mem_append_left _ (List.mem_of_getElem? (i := 8) (by decide +kernel)))) (by decide +kernel)
theorem wd_Tape : ∀ j, j < 6 → defaultValue (t_Tape j) = vp_V [.null, .int 0, .int 0, .int 0, .int 0, .int 0] j := by decide
theorem cb_Tape_init : CB y_Tape_init b_Tape_init 1 none 0 := ⟨vv_Gin (List.mem_append_right _ (List.mem_append_left _ (List.mem_of_getElem? (i := 208) rfl))) rfl, by decide +kernel, vv_Gin (List.mem_append_right _ (List.mem_append_left _ (List.mem_of_getElem? (i := 8) rfl))) rfl⟩
theorem im_Tape_init : Cond.instanceMethod y_Tape_init ∈ vv_G := vv_Gin (List.mem_append_right _ (List.mem_append_left _ (List.mem_of_getElem? (i := 207) rfl))) rfl
theorem ck_Reader_11 : CI R_Reader 11 y_Tape_init b_Tape_init 1 0 := ⟨cb_Tape_init, rfl, im_Tape_init, Or.inr (by decide +kernel)⟩
theorem fl_Reader_12 : Cond.fieldLink R_Reader 12 (T_Reader 0).1 (T_Reader 0).2.1 (T_Reader 0).2.2.1 ∈ vv_G := vv_Gin (List.mem_append_right _ (List.mem_append_left _ (List.mem_of_getElem? (i := 239) rfl))) rfl
theorem wk_Reader_18 : Cond.classLink R_Reader 18 R_County ∈ vv_G := vv_Gin (List.mem_append_right _ (List.mem_append_left _ (List.mem_of_getElem? (i := 237) (by decide +kernel)))) (by decide +kernel)
theorem wi_County : Cond.instantiable R_County 5 ∈ vv_G := vv_Gin (List.mem_append_right _ (List.mem_append_left _ (List.mem_of_getElem? (i := 30) (by decide +kernel)))) (by decide +kernel)
theorem wn_County : Cond.initialized R_County ∈ vv_G := vv_Gin (List.mem_append_right _ (List.mem_append_left _ (List.mem_of_getElem? (i := 2) (by decide +kernel)))) (by decide +kernel)
theorem wd_County : ∀ j, j < 5 → defaultValue (t_County j) = vp_V [.null, .null, .null, .int 0, .int 0] j := by decide
theorem cb_County_init : CB y_County_init b_County_init 1 none 0 := ⟨vv_Gin (List.mem_append_right _ (List.mem_append_left _ (List.mem_of_getElem? (i := 33) rfl))) rfl, by decide +kernel, vv_Gin (List.mem_append_right _ (List.mem_append_left _ (List.mem_of_getElem? (i := 2) rfl))) rfl⟩
theorem im_County_init : Cond.instanceMethod y_County_init ∈ vv_G := vv_Gin (List.mem_append_right _ (List.mem_append_left _ (List.mem_of_getElem? (i := 32) rfl))) rfl
theorem ck_Reader_20 : CI R_Reader 20 y_County_init b_County_init 1 0 := ⟨cb_County_init, rfl, im_County_init, Or.inl (vv_Gin (List.mem_append_right _ (List.mem_append_left _ (List.mem_of_getElem? (i := 238) rfl))) rfl)⟩
theorem fl_Reader_21 : Cond.fieldLink R_Reader 21 (T_Reader 1).1 (T_Reader 1).2.1 (T_Reader 1).2.2.1 ∈ vv_G := vv_Gin (List.mem_append_right _ (List.mem_append_right _ (List.mem_append_left _ (List.mem_of_getElem? (i := 1) rfl)))) rfl
theorem fl_Reader_25 : Cond.fieldLink R_Reader 25 (T_Reader 2).1 (T_Reader 2).2.1 (T_Reader 2).2.2.1 ∈ vv_G := vv_Gin (List.mem_append_right _ (List.mem_append_right _ (List.mem_append_left _ (List.mem_of_getElem? (i := 3) rfl)))) rfl
theorem fl_Reader_29 : Cond.fieldLink R_Reader 29 (T_Reader 3).1 (T_Reader 3).2.1 (T_Reader 3).2.2.1 ∈ vv_G := vv_Gin (List.mem_append_right _ (List.mem_append_right _ (List.mem_append_left _ (List.mem_of_getElem? (i := 4) rfl)))) rfl
theorem wo_Plans_3 : Cond.methodLink R_Plans 3 objectInit ∈ vv_G := vv_Gin (List.mem_append_right _ (List.mem_append_right _ (List.mem_append_left _ (List.mem_of_getElem? (i := 45) (by decide +kernel))))) (by decide +kernel)
theorem fl_Plans_9 : Cond.fieldLink R_Plans 9 (T_Plans 0).1 (T_Plans 0).2.1 (T_Plans 0).2.2.1 ∈ vv_G := vv_Gin (List.mem_append_right _ (List.mem_append_right _ (List.mem_append_left _ (List.mem_of_getElem? (i := 46) rfl)))) rfl
theorem wo_Beds_3 : Cond.methodLink R_Beds 3 objectInit ∈ vv_G := vv_Gin (List.mem_append_right _ (List.mem_append_right _ (List.mem_append_left _ (List.mem_of_getElem? (i := 63) (by decide +kernel))))) (by decide +kernel)
theorem fl_Beds_9 : Cond.fieldLink R_Beds 9 (T_Beds 0).1 (T_Beds 0).2.1 (T_Beds 0).2.2.1 ∈ vv_G := vv_Gin (List.mem_append_right _ (List.mem_append_right _ (List.mem_append_left _ (List.mem_of_getElem? (i := 64) rfl)))) rfl
theorem fl_Beds_15 : Cond.fieldLink R_Beds 15 (T_Beds 2).1 (T_Beds 2).2.1 (T_Beds 2).2.2.1 ∈ vv_G := vv_Gin (List.mem_append_right _ (List.mem_append_right _ (List.mem_append_left _ (List.mem_of_getElem? (i := 66) rfl)))) rfl
theorem wo_Sheet_3 : Cond.methodLink R_Sheet 3 objectInit ∈ vv_G := vv_Gin (List.mem_append_right _ (List.mem_append_right _ (List.mem_append_left _ (List.mem_of_getElem? (i := 99) (by decide +kernel))))) (by decide +kernel)
theorem fl_Sheet_9 : Cond.fieldLink R_Sheet 9 (T_Sheet 0).1 (T_Sheet 0).2.1 (T_Sheet 0).2.2.1 ∈ vv_G := vv_Gin (List.mem_append_right _ (List.mem_append_right _ (List.mem_append_left _ (List.mem_of_getElem? (i := 100) rfl)))) rfl
theorem fl_Sheet_15 : Cond.fieldLink R_Sheet 15 (T_Sheet 1).1 (T_Sheet 1).2.1 (T_Sheet 1).2.2.1 ∈ vv_G := vv_Gin (List.mem_append_right _ (List.mem_append_right _ (List.mem_append_left _ (List.mem_of_getElem? (i := 102) rfl)))) rfl
theorem wo_Walks_3 : Cond.methodLink R_Walks 3 objectInit ∈ vv_G := vv_Gin (List.mem_append_right _ (List.mem_append_right _ (List.mem_append_left _ (List.mem_of_getElem? (i := 29) (by decide +kernel))))) (by decide +kernel)
theorem wk_Walks_9 : Cond.classLink R_Walks 9 "[[I" ∈ vv_G := vv_Gin (List.mem_append_right _ (List.mem_append_right _ (List.mem_append_left _ (List.mem_of_getElem? (i := 30) (by decide +kernel))))) (by decide +kernel)
theorem fl_Walks_11 : Cond.fieldLink R_Walks 11 (T_Walks 0).1 (T_Walks 0).2.1 (T_Walks 0).2.2.1 ∈ vv_G := vv_Gin (List.mem_append_right _ (List.mem_append_right _ (List.mem_append_left _ (List.mem_of_getElem? (i := 32) rfl)))) rfl
theorem fl_Walks_16 : Cond.fieldLink R_Walks 16 (T_Walks 1).1 (T_Walks 1).2.1 (T_Walks 1).2.2.1 ∈ vv_G := vv_Gin (List.mem_append_right _ (List.mem_append_right _ (List.mem_append_left _ (List.mem_of_getElem? (i := 33) rfl)))) rfl
theorem d_Land_init_0 : decode b_Land_init 0 = .ok (.aload_n 0, 1) := dc_42 (by decide +kernel)
theorem d_Land_init_1 : decode b_Land_init 1 = .ok (.invokespecial 3, 3) := dc_183 (a := 0) (b := 3) (by decide +kernel) rfl
theorem d_Land_init_4 : decode b_Land_init 4 = .ok (.aload_n 0, 1) := dc_42 (by decide +kernel)
theorem d_Land_init_5 : decode b_Land_init 5 = .ok (.bipush 16, 2) := dc_16 (a := 16) (by decide +kernel) rfl
theorem d_Land_init_7 : decode b_Land_init 7 = .ok (.newarray .int, 2) := by decide +kernel
theorem d_Land_init_9 : decode b_Land_init 9 = .ok (.putfield 9, 3) := dc_181 (a := 0) (b := 9) (by decide +kernel) rfl
theorem d_Land_init_12 : decode b_Land_init 12 = .ok (.aload_n 0, 1) := dc_42 (by decide +kernel)
theorem d_Land_init_13 : decode b_Land_init 13 = .ok (.bipush 16, 2) := dc_16 (a := 16) (by decide +kernel) rfl
theorem d_Land_init_15 : decode b_Land_init 15 = .ok (.newarray .int, 2) := by decide +kernel
theorem d_Land_init_17 : decode b_Land_init 17 = .ok (.putfield 15, 3) := dc_181 (a := 0) (b := 15) (by decide +kernel) rfl
theorem d_Land_init_20 : decode b_Land_init 20 = .ok (.aload_n 0, 1) := dc_42 (by decide +kernel)
theorem d_Land_init_21 : decode b_Land_init 21 = .ok (.bipush 16, 2) := dc_16 (a := 16) (by decide +kernel) rfl
theorem d_Land_init_23 : decode b_Land_init 23 = .ok (.newarray .int, 2) := by decide +kernel
theorem d_Land_init_25 : decode b_Land_init 25 = .ok (.putfield 18, 3) := dc_181 (a := 0) (b := 18) (by decide +kernel) rfl
theorem d_Land_init_28 : decode b_Land_init 28 = .ok (.aload_n 0, 1) := dc_42 (by decide +kernel)
theorem d_Land_init_29 : decode b_Land_init 29 = .ok (.bipush 16, 2) := dc_16 (a := 16) (by decide +kernel) rfl
theorem d_Land_init_31 : decode b_Land_init 31 = .ok (.newarray .int, 2) := by decide +kernel
theorem d_Land_init_33 : decode b_Land_init 33 = .ok (.putfield 21, 3) := dc_181 (a := 0) (b := 21) (by decide +kernel) rfl
theorem d_Land_init_36 : decode b_Land_init 36 = .ok (.aload_n 0, 1) := dc_42 (by decide +kernel)
theorem d_Land_init_37 : decode b_Land_init 37 = .ok (.bipush 16, 2) := dc_16 (a := 16) (by decide +kernel) rfl
theorem d_Land_init_39 : decode b_Land_init 39 = .ok (.newarray .int, 2) := by decide +kernel
theorem d_Land_init_41 : decode b_Land_init 41 = .ok (.putfield 24, 3) := dc_181 (a := 0) (b := 24) (by decide +kernel) rfl
theorem d_Land_init_44 : decode b_Land_init 44 = .ok (.return_, 1) := dc_177 (by decide +kernel)
set_option maxRecDepth 100000 in
theorem k_Land_init (D : va_G) (ca : Nat → ClassId) (a0 : Nat) : Cu y_Land_init b_Land_init 1 1 20 5 80 D ca [.ref a0] [(a0, .inr (2, [.int 0, .int 0, .int 0, .int 0, .null, .null, .null, .null, .null]))] (fun w => ∃ (q1 : Nat) (q2 : Nat) (q3 : Nat) (q4 : Nat) (q5 : Nat), w = [(a0, .inr (2, [.int 0, .int 0, .int 0, .int 0, .ref q1, .ref q2, .ref q3, .ref q4, .ref q5])), (q1, .inl (ca 0, 16, .inl (fun _ => 0))), (q2, .inl (ca 0, 16, .inl (fun _ => 0))), (q3, .inl (ca 0, 16, .inl (fun _ => 0))), (q4, .inl (ca 0, 16, .inl (fun _ => 0))), (q5, .inl (ca 0, 16, .inl (fun _ => 0)))]) := by
  refine cu_of R_Land true [some (.ref a0)] rfl (fun _ => rfl) (by decide) rfl (Nat.le_of_ble_eq_true rfl) ?_
  refine U_aload_n 0 d_Land_init_0 rfl rfl ?_
  refine U_obj wo_Land_3 wo1 wo2 d_Land_init_1 (by decide) (Nat.le_of_ble_eq_true rfl) ?_
  refine U_aload_n 0 d_Land_init_4 rfl rfl ?_
  refine U_bipush 16 d_Land_init_5 (by decide) ?_
  refine U_newI 16 (by decide) (by decide) wa_int (by decide) d_Land_init_7 (by decide) (by decide) (fun q1 => ?_)
  refine U_eq [(a0, .inr (2, [.int 0, .int 0, .int 0, .int 0, .null, .null, .null, .null, .null])), (q1, .inl (ca 0, 16, .inl (fun _ => 0)))] rfl ?_
  refine U_putF (ty := t_Land 4) t_Land 0 rfl rfl i_Land t_Land_ok n_Land (by decide) fl_Land_9 rfl rfl rfl (t_Land_ok 4 (by decide)) rfl rfl (Nat.le_of_ble_eq_true rfl) d_Land_init_9 ?_
  refine U_eq [(a0, .inr (2, [.int 0, .int 0, .int 0, .int 0, .ref q1, .null, .null, .null, .null])), (q1, .inl (ca 0, 16, .inl (fun _ => 0)))] rfl ?_
  refine U_aload_n 0 d_Land_init_12 rfl rfl ?_
  refine U_bipush 16 d_Land_init_13 (by decide) ?_
  refine U_newI 16 (by decide) (by decide) wa_int (by decide) d_Land_init_15 (by decide) (by decide) (fun q2 => ?_)
  refine U_eq [(a0, .inr (2, [.int 0, .int 0, .int 0, .int 0, .ref q1, .null, .null, .null, .null])), (q1, .inl (ca 0, 16, .inl (fun _ => 0))), (q2, .inl (ca 0, 16, .inl (fun _ => 0)))] rfl ?_
  refine U_putF (ty := t_Land 5) t_Land 0 rfl rfl i_Land t_Land_ok n_Land (by decide) fl_Land_15 rfl rfl rfl (t_Land_ok 5 (by decide)) rfl rfl (Nat.le_of_ble_eq_true rfl) d_Land_init_17 ?_
  refine U_eq [(a0, .inr (2, [.int 0, .int 0, .int 0, .int 0, .ref q1, .ref q2, .null, .null, .null])), (q1, .inl (ca 0, 16, .inl (fun _ => 0))), (q2, .inl (ca 0, 16, .inl (fun _ => 0)))] rfl ?_
  refine U_aload_n 0 d_Land_init_20 rfl rfl ?_
  refine U_bipush 16 d_Land_init_21 (by decide) ?_
  refine U_newI 16 (by decide) (by decide) wa_int (by decide) d_Land_init_23 (by decide) (by decide) (fun q3 => ?_)
  refine U_eq [(a0, .inr (2, [.int 0, .int 0, .int 0, .int 0, .ref q1, .ref q2, .null, .null, .null])), (q1, .inl (ca 0, 16, .inl (fun _ => 0))), (q2, .inl (ca 0, 16, .inl (fun _ => 0))), (q3, .inl (ca 0, 16, .inl (fun _ => 0)))] rfl ?_
  refine U_putF (ty := t_Land 6) t_Land 0 rfl rfl i_Land t_Land_ok n_Land (by decide) fl_Land_18 rfl rfl rfl (t_Land_ok 6 (by decide)) rfl rfl (Nat.le_of_ble_eq_true rfl) d_Land_init_25 ?_
  refine U_eq [(a0, .inr (2, [.int 0, .int 0, .int 0, .int 0, .ref q1, .ref q2, .ref q3, .null, .null])), (q1, .inl (ca 0, 16, .inl (fun _ => 0))), (q2, .inl (ca 0, 16, .inl (fun _ => 0))), (q3, .inl (ca 0, 16, .inl (fun _ => 0)))] rfl ?_
  refine U_aload_n 0 d_Land_init_28 rfl rfl ?_
  refine U_bipush 16 d_Land_init_29 (by decide) ?_
  refine U_newI 16 (by decide) (by decide) wa_int (by decide) d_Land_init_31 (by decide) (by decide) (fun q4 => ?_)
  refine U_eq [(a0, .inr (2, [.int 0, .int 0, .int 0, .int 0, .ref q1, .ref q2, .ref q3, .null, .null])), (q1, .inl (ca 0, 16, .inl (fun _ => 0))), (q2, .inl (ca 0, 16, .inl (fun _ => 0))), (q3, .inl (ca 0, 16, .inl (fun _ => 0))), (q4, .inl (ca 0, 16, .inl (fun _ => 0)))] rfl ?_
  refine U_putF (ty := t_Land 7) t_Land 0 rfl rfl i_Land t_Land_ok n_Land (by decide) fl_Land_21 rfl rfl rfl (t_Land_ok 7 (by decide)) rfl rfl (Nat.le_of_ble_eq_true rfl) d_Land_init_33 ?_
  refine U_eq [(a0, .inr (2, [.int 0, .int 0, .int 0, .int 0, .ref q1, .ref q2, .ref q3, .ref q4, .null])), (q1, .inl (ca 0, 16, .inl (fun _ => 0))), (q2, .inl (ca 0, 16, .inl (fun _ => 0))), (q3, .inl (ca 0, 16, .inl (fun _ => 0))), (q4, .inl (ca 0, 16, .inl (fun _ => 0)))] rfl ?_
  refine U_aload_n 0 d_Land_init_36 rfl rfl ?_
  refine U_bipush 16 d_Land_init_37 (by decide) ?_
  refine U_newI 16 (by decide) (by decide) wa_int (by decide) d_Land_init_39 (by decide) (by decide) (fun q5 => ?_)
  refine U_eq [(a0, .inr (2, [.int 0, .int 0, .int 0, .int 0, .ref q1, .ref q2, .ref q3, .ref q4, .null])), (q1, .inl (ca 0, 16, .inl (fun _ => 0))), (q2, .inl (ca 0, 16, .inl (fun _ => 0))), (q3, .inl (ca 0, 16, .inl (fun _ => 0))), (q4, .inl (ca 0, 16, .inl (fun _ => 0))), (q5, .inl (ca 0, 16, .inl (fun _ => 0)))] rfl ?_
  refine U_putF (ty := t_Land 8) t_Land 0 rfl rfl i_Land t_Land_ok n_Land (by decide) fl_Land_24 rfl rfl rfl (t_Land_ok 8 (by decide)) rfl rfl (Nat.le_of_ble_eq_true rfl) d_Land_init_41 ?_
  refine U_eq [(a0, .inr (2, [.int 0, .int 0, .int 0, .int 0, .ref q1, .ref q2, .ref q3, .ref q4, .ref q5])), (q1, .inl (ca 0, 16, .inl (fun _ => 0))), (q2, .inl (ca 0, 16, .inl (fun _ => 0))), (q3, .inl (ca 0, 16, .inl (fun _ => 0))), (q4, .inl (ca 0, 16, .inl (fun _ => 0))), (q5, .inl (ca 0, 16, .inl (fun _ => 0)))] rfl ?_
  exact U_vret d_Land_init_44 ⟨q1, q2, q3, q4, q5, rfl⟩ rfl rfl
theorem d_Ledger_init_0 : decode b_Ledger_init 0 = .ok (.aload_n 0, 1) := dc_42 (by decide +kernel)
theorem d_Ledger_init_1 : decode b_Ledger_init 1 = .ok (.invokespecial 3, 3) := dc_183 (a := 0) (b := 3) (by decide +kernel) rfl
theorem d_Ledger_init_4 : decode b_Ledger_init 4 = .ok (.aload_n 0, 1) := dc_42 (by decide +kernel)
theorem d_Ledger_init_5 : decode b_Ledger_init 5 = .ok (.iconst 4, 1) := dc_7 (by decide +kernel)
theorem d_Ledger_init_6 : decode b_Ledger_init 6 = .ok (.newarray .int, 2) := by decide +kernel
theorem d_Ledger_init_8 : decode b_Ledger_init 8 = .ok (.putfield 9, 3) := dc_181 (a := 0) (b := 9) (by decide +kernel) rfl
theorem d_Ledger_init_11 : decode b_Ledger_init 11 = .ok (.aload_n 0, 1) := dc_42 (by decide +kernel)
theorem d_Ledger_init_12 : decode b_Ledger_init 12 = .ok (.bipush 8, 2) := dc_16 (a := 8) (by decide +kernel) rfl
theorem d_Ledger_init_14 : decode b_Ledger_init 14 = .ok (.newarray .int, 2) := by decide +kernel
theorem d_Ledger_init_16 : decode b_Ledger_init 16 = .ok (.putfield 15, 3) := dc_181 (a := 0) (b := 15) (by decide +kernel) rfl
theorem d_Ledger_init_19 : decode b_Ledger_init 19 = .ok (.aload_n 0, 1) := dc_42 (by decide +kernel)
theorem d_Ledger_init_20 : decode b_Ledger_init 20 = .ok (.bipush 8, 2) := dc_16 (a := 8) (by decide +kernel) rfl
theorem d_Ledger_init_22 : decode b_Ledger_init 22 = .ok (.newarray .int, 2) := by decide +kernel
theorem d_Ledger_init_24 : decode b_Ledger_init 24 = .ok (.putfield 18, 3) := dc_181 (a := 0) (b := 18) (by decide +kernel) rfl
theorem d_Ledger_init_27 : decode b_Ledger_init 27 = .ok (.aload_n 0, 1) := dc_42 (by decide +kernel)
theorem d_Ledger_init_28 : decode b_Ledger_init 28 = .ok (.bipush 8, 2) := dc_16 (a := 8) (by decide +kernel) rfl
theorem d_Ledger_init_30 : decode b_Ledger_init 30 = .ok (.newarray .int, 2) := by decide +kernel
theorem d_Ledger_init_32 : decode b_Ledger_init 32 = .ok (.putfield 21, 3) := dc_181 (a := 0) (b := 21) (by decide +kernel) rfl
theorem d_Ledger_init_35 : decode b_Ledger_init 35 = .ok (.return_, 1) := dc_177 (by decide +kernel)
set_option maxRecDepth 100000 in
theorem k_Ledger_init (D : va_G) (ca : Nat → ClassId) (a0 : Nat) : Cu y_Ledger_init b_Ledger_init 1 1 20 4 28 D ca [.ref a0] [(a0, .inr (3, [.null, .null, .null, .null, .int 0]))] (fun w => ∃ (q1 : Nat) (q2 : Nat) (q3 : Nat) (q4 : Nat), w = [(a0, .inr (3, [.ref q1, .ref q2, .ref q3, .ref q4, .int 0])), (q1, .inl (ca 0, 4, .inl (fun _ => 0))), (q2, .inl (ca 0, 8, .inl (fun _ => 0))), (q3, .inl (ca 0, 8, .inl (fun _ => 0))), (q4, .inl (ca 0, 8, .inl (fun _ => 0)))]) := by
  refine cu_of R_Ledger true [some (.ref a0)] rfl (fun _ => rfl) (by decide) rfl (Nat.le_of_ble_eq_true rfl) ?_
  refine U_aload_n 0 d_Ledger_init_0 rfl rfl ?_
  refine U_obj wo_Ledger_3 wo1 wo2 d_Ledger_init_1 (by decide) (Nat.le_of_ble_eq_true rfl) ?_
  refine U_aload_n 0 d_Ledger_init_4 rfl rfl ?_
  refine U_iconst 4 d_Ledger_init_5 (by decide) ?_
  refine U_newI 4 (by decide) (by decide) wa_int (by decide) d_Ledger_init_6 (by decide) (by decide) (fun q1 => ?_)
  refine U_eq [(a0, .inr (3, [.null, .null, .null, .null, .int 0])), (q1, .inl (ca 0, 4, .inl (fun _ => 0)))] rfl ?_
  refine U_putF (ty := t_Ledger 0) t_Ledger 0 rfl rfl i_Ledger t_Ledger_ok n_Ledger (by decide) fl_Ledger_9 rfl rfl rfl (t_Ledger_ok 0 (by decide)) rfl rfl (Nat.le_of_ble_eq_true rfl) d_Ledger_init_8 ?_
  refine U_eq [(a0, .inr (3, [.ref q1, .null, .null, .null, .int 0])), (q1, .inl (ca 0, 4, .inl (fun _ => 0)))] rfl ?_
  refine U_aload_n 0 d_Ledger_init_11 rfl rfl ?_
  refine U_bipush 8 d_Ledger_init_12 (by decide) ?_
  refine U_newI 8 (by decide) (by decide) wa_int (by decide) d_Ledger_init_14 (by decide) (by decide) (fun q2 => ?_)
  refine U_eq [(a0, .inr (3, [.ref q1, .null, .null, .null, .int 0])), (q1, .inl (ca 0, 4, .inl (fun _ => 0))), (q2, .inl (ca 0, 8, .inl (fun _ => 0)))] rfl ?_
  refine U_putF (ty := t_Ledger 1) t_Ledger 0 rfl rfl i_Ledger t_Ledger_ok n_Ledger (by decide) fl_Ledger_15 rfl rfl rfl (t_Ledger_ok 1 (by decide)) rfl rfl (Nat.le_of_ble_eq_true rfl) d_Ledger_init_16 ?_
  refine U_eq [(a0, .inr (3, [.ref q1, .ref q2, .null, .null, .int 0])), (q1, .inl (ca 0, 4, .inl (fun _ => 0))), (q2, .inl (ca 0, 8, .inl (fun _ => 0)))] rfl ?_
  refine U_aload_n 0 d_Ledger_init_19 rfl rfl ?_
  refine U_bipush 8 d_Ledger_init_20 (by decide) ?_
  refine U_newI 8 (by decide) (by decide) wa_int (by decide) d_Ledger_init_22 (by decide) (by decide) (fun q3 => ?_)
  refine U_eq [(a0, .inr (3, [.ref q1, .ref q2, .null, .null, .int 0])), (q1, .inl (ca 0, 4, .inl (fun _ => 0))), (q2, .inl (ca 0, 8, .inl (fun _ => 0))), (q3, .inl (ca 0, 8, .inl (fun _ => 0)))] rfl ?_
  refine U_putF (ty := t_Ledger 2) t_Ledger 0 rfl rfl i_Ledger t_Ledger_ok n_Ledger (by decide) fl_Ledger_18 rfl rfl rfl (t_Ledger_ok 2 (by decide)) rfl rfl (Nat.le_of_ble_eq_true rfl) d_Ledger_init_24 ?_
  refine U_eq [(a0, .inr (3, [.ref q1, .ref q2, .ref q3, .null, .int 0])), (q1, .inl (ca 0, 4, .inl (fun _ => 0))), (q2, .inl (ca 0, 8, .inl (fun _ => 0))), (q3, .inl (ca 0, 8, .inl (fun _ => 0)))] rfl ?_
  refine U_aload_n 0 d_Ledger_init_27 rfl rfl ?_
  refine U_bipush 8 d_Ledger_init_28 (by decide) ?_
  refine U_newI 8 (by decide) (by decide) wa_int (by decide) d_Ledger_init_30 (by decide) (by decide) (fun q4 => ?_)
  refine U_eq [(a0, .inr (3, [.ref q1, .ref q2, .ref q3, .null, .int 0])), (q1, .inl (ca 0, 4, .inl (fun _ => 0))), (q2, .inl (ca 0, 8, .inl (fun _ => 0))), (q3, .inl (ca 0, 8, .inl (fun _ => 0))), (q4, .inl (ca 0, 8, .inl (fun _ => 0)))] rfl ?_
  refine U_putF (ty := t_Ledger 3) t_Ledger 0 rfl rfl i_Ledger t_Ledger_ok n_Ledger (by decide) fl_Ledger_21 rfl rfl rfl (t_Ledger_ok 3 (by decide)) rfl rfl (Nat.le_of_ble_eq_true rfl) d_Ledger_init_32 ?_
  refine U_eq [(a0, .inr (3, [.ref q1, .ref q2, .ref q3, .ref q4, .int 0])), (q1, .inl (ca 0, 4, .inl (fun _ => 0))), (q2, .inl (ca 0, 8, .inl (fun _ => 0))), (q3, .inl (ca 0, 8, .inl (fun _ => 0))), (q4, .inl (ca 0, 8, .inl (fun _ => 0)))] rfl ?_
  exact U_vret d_Ledger_init_35 ⟨q1, q2, q3, q4, rfl⟩ rfl rfl
theorem d_Sights_init_0 : decode b_Sights_init 0 = .ok (.aload_n 0, 1) := dc_42 (by decide +kernel)
theorem d_Sights_init_1 : decode b_Sights_init 1 = .ok (.invokespecial 3, 3) := dc_183 (a := 0) (b := 3) (by decide +kernel) rfl
theorem d_Sights_init_4 : decode b_Sights_init 4 = .ok (.aload_n 0, 1) := dc_42 (by decide +kernel)
theorem d_Sights_init_5 : decode b_Sights_init 5 = .ok (.bipush 8, 2) := dc_16 (a := 8) (by decide +kernel) rfl
theorem d_Sights_init_7 : decode b_Sights_init 7 = .ok (.newarray .int, 2) := by decide +kernel
theorem d_Sights_init_9 : decode b_Sights_init 9 = .ok (.putfield 9, 3) := dc_181 (a := 0) (b := 9) (by decide +kernel) rfl
theorem d_Sights_init_12 : decode b_Sights_init 12 = .ok (.aload_n 0, 1) := dc_42 (by decide +kernel)
theorem d_Sights_init_13 : decode b_Sights_init 13 = .ok (.bipush 8, 2) := dc_16 (a := 8) (by decide +kernel) rfl
theorem d_Sights_init_15 : decode b_Sights_init 15 = .ok (.newarray .int, 2) := by decide +kernel
theorem d_Sights_init_17 : decode b_Sights_init 17 = .ok (.putfield 15, 3) := dc_181 (a := 0) (b := 15) (by decide +kernel) rfl
theorem d_Sights_init_20 : decode b_Sights_init 20 = .ok (.aload_n 0, 1) := dc_42 (by decide +kernel)
theorem d_Sights_init_21 : decode b_Sights_init 21 = .ok (.bipush 8, 2) := dc_16 (a := 8) (by decide +kernel) rfl
theorem d_Sights_init_23 : decode b_Sights_init 23 = .ok (.newarray .int, 2) := by decide +kernel
theorem d_Sights_init_25 : decode b_Sights_init 25 = .ok (.putfield 18, 3) := dc_181 (a := 0) (b := 18) (by decide +kernel) rfl
theorem d_Sights_init_28 : decode b_Sights_init 28 = .ok (.aload_n 0, 1) := dc_42 (by decide +kernel)
theorem d_Sights_init_29 : decode b_Sights_init 29 = .ok (.bipush 8, 2) := dc_16 (a := 8) (by decide +kernel) rfl
theorem d_Sights_init_31 : decode b_Sights_init 31 = .ok (.newarray .int, 2) := by decide +kernel
theorem d_Sights_init_33 : decode b_Sights_init 33 = .ok (.putfield 21, 3) := dc_181 (a := 0) (b := 21) (by decide +kernel) rfl
theorem d_Sights_init_36 : decode b_Sights_init 36 = .ok (.return_, 1) := dc_177 (by decide +kernel)
set_option maxRecDepth 100000 in
theorem k_Sights_init (D : va_G) (ca : Nat → ClassId) (a0 : Nat) : Cu y_Sights_init b_Sights_init 1 1 20 4 32 D ca [.ref a0] [(a0, .inr (7, [.null, .null, .null, .null, .int 0]))] (fun w => ∃ (q1 : Nat) (q2 : Nat) (q3 : Nat) (q4 : Nat), w = [(a0, .inr (7, [.ref q1, .ref q2, .ref q3, .ref q4, .int 0])), (q1, .inl (ca 0, 8, .inl (fun _ => 0))), (q2, .inl (ca 0, 8, .inl (fun _ => 0))), (q3, .inl (ca 0, 8, .inl (fun _ => 0))), (q4, .inl (ca 0, 8, .inl (fun _ => 0)))]) := by
  refine cu_of R_Sights true [some (.ref a0)] rfl (fun _ => rfl) (by decide) rfl (Nat.le_of_ble_eq_true rfl) ?_
  refine U_aload_n 0 d_Sights_init_0 rfl rfl ?_
  refine U_obj wo_Sights_3 wo1 wo2 d_Sights_init_1 (by decide) (Nat.le_of_ble_eq_true rfl) ?_
  refine U_aload_n 0 d_Sights_init_4 rfl rfl ?_
  refine U_bipush 8 d_Sights_init_5 (by decide) ?_
  refine U_newI 8 (by decide) (by decide) wa_int (by decide) d_Sights_init_7 (by decide) (by decide) (fun q1 => ?_)
  refine U_eq [(a0, .inr (7, [.null, .null, .null, .null, .int 0])), (q1, .inl (ca 0, 8, .inl (fun _ => 0)))] rfl ?_
  refine U_putF (ty := t_Sights 0) t_Sights 0 rfl rfl i_Sights t_Sights_ok n_Sights (by decide) fl_Sights_9 rfl rfl rfl (t_Sights_ok 0 (by decide)) rfl rfl (Nat.le_of_ble_eq_true rfl) d_Sights_init_9 ?_
  refine U_eq [(a0, .inr (7, [.ref q1, .null, .null, .null, .int 0])), (q1, .inl (ca 0, 8, .inl (fun _ => 0)))] rfl ?_
  refine U_aload_n 0 d_Sights_init_12 rfl rfl ?_
  refine U_bipush 8 d_Sights_init_13 (by decide) ?_
  refine U_newI 8 (by decide) (by decide) wa_int (by decide) d_Sights_init_15 (by decide) (by decide) (fun q2 => ?_)
  refine U_eq [(a0, .inr (7, [.ref q1, .null, .null, .null, .int 0])), (q1, .inl (ca 0, 8, .inl (fun _ => 0))), (q2, .inl (ca 0, 8, .inl (fun _ => 0)))] rfl ?_
  refine U_putF (ty := t_Sights 1) t_Sights 0 rfl rfl i_Sights t_Sights_ok n_Sights (by decide) fl_Sights_15 rfl rfl rfl (t_Sights_ok 1 (by decide)) rfl rfl (Nat.le_of_ble_eq_true rfl) d_Sights_init_17 ?_
  refine U_eq [(a0, .inr (7, [.ref q1, .ref q2, .null, .null, .int 0])), (q1, .inl (ca 0, 8, .inl (fun _ => 0))), (q2, .inl (ca 0, 8, .inl (fun _ => 0)))] rfl ?_
  refine U_aload_n 0 d_Sights_init_20 rfl rfl ?_
  refine U_bipush 8 d_Sights_init_21 (by decide) ?_
  refine U_newI 8 (by decide) (by decide) wa_int (by decide) d_Sights_init_23 (by decide) (by decide) (fun q3 => ?_)
  refine U_eq [(a0, .inr (7, [.ref q1, .ref q2, .null, .null, .int 0])), (q1, .inl (ca 0, 8, .inl (fun _ => 0))), (q2, .inl (ca 0, 8, .inl (fun _ => 0))), (q3, .inl (ca 0, 8, .inl (fun _ => 0)))] rfl ?_
  refine U_putF (ty := t_Sights 2) t_Sights 0 rfl rfl i_Sights t_Sights_ok n_Sights (by decide) fl_Sights_18 rfl rfl rfl (t_Sights_ok 2 (by decide)) rfl rfl (Nat.le_of_ble_eq_true rfl) d_Sights_init_25 ?_
  refine U_eq [(a0, .inr (7, [.ref q1, .ref q2, .ref q3, .null, .int 0])), (q1, .inl (ca 0, 8, .inl (fun _ => 0))), (q2, .inl (ca 0, 8, .inl (fun _ => 0))), (q3, .inl (ca 0, 8, .inl (fun _ => 0)))] rfl ?_
  refine U_aload_n 0 d_Sights_init_28 rfl rfl ?_
  refine U_bipush 8 d_Sights_init_29 (by decide) ?_
  refine U_newI 8 (by decide) (by decide) wa_int (by decide) d_Sights_init_31 (by decide) (by decide) (fun q4 => ?_)
  refine U_eq [(a0, .inr (7, [.ref q1, .ref q2, .ref q3, .null, .int 0])), (q1, .inl (ca 0, 8, .inl (fun _ => 0))), (q2, .inl (ca 0, 8, .inl (fun _ => 0))), (q3, .inl (ca 0, 8, .inl (fun _ => 0))), (q4, .inl (ca 0, 8, .inl (fun _ => 0)))] rfl ?_
  refine U_putF (ty := t_Sights 3) t_Sights 0 rfl rfl i_Sights t_Sights_ok n_Sights (by decide) fl_Sights_21 rfl rfl rfl (t_Sights_ok 3 (by decide)) rfl rfl (Nat.le_of_ble_eq_true rfl) d_Sights_init_33 ?_
  refine U_eq [(a0, .inr (7, [.ref q1, .ref q2, .ref q3, .ref q4, .int 0])), (q1, .inl (ca 0, 8, .inl (fun _ => 0))), (q2, .inl (ca 0, 8, .inl (fun _ => 0))), (q3, .inl (ca 0, 8, .inl (fun _ => 0))), (q4, .inl (ca 0, 8, .inl (fun _ => 0)))] rfl ?_
  exact U_vret d_Sights_init_36 ⟨q1, q2, q3, q4, rfl⟩ rfl rfl
set_option maxRecDepth 100000 in
theorem k_Land_reset (D : va_G) (ca : Nat → ClassId) (a0 : Nat) (a1 : Nat) (a2 : Nat) (a3 : Nat) (a4 : Nat) (a5 : Nat) : Cu y_Land_reset b_Land_reset 1 1 23 0 0 D ca [.ref a0] [(a0, .inr (2, [.int 0, .int 0, .int 0, .int 0, .ref a1, .ref a2, .ref a3, .ref a4, .ref a5])), (a1, .inl (ca 0, 16, .inl (fun _ => 0))), (a2, .inl (ca 0, 16, .inl (fun _ => 0))), (a3, .inl (ca 0, 16, .inl (fun _ => 0))), (a4, .inl (ca 0, 16, .inl (fun _ => 0))), (a5, .inl (ca 0, 16, .inl (fun _ => 0)))] (fun w => w = [(a0, .inr (2, [.int 3, .int 3, .int 1, .int 10, .ref a1, .ref a2, .ref a3, .ref a4, .ref a5])), (a1, .inl (ca 0, 16, .inl (fun _ => 0))), (a2, .inl (ca 0, 16, .inl (fun _ => 0))), (a3, .inl (ca 0, 16, .inl (fun _ => 5))), (a4, .inl (ca 0, 16, .inl (fun _ => (-4)))), (a5, .inl (ca 0, 16, .inl (fun _ => 0)))]) := by
  refine cu_of R_Land false [some (.ref a0)] rfl (fun q => by cases q) (by decide) rfl (Nat.le_of_ble_eq_true rfl) ?_
  refine U_aload_n 0 d_Land_reset_0 rfl rfl ?_
  refine U_iconst 3 d_Land_reset_1 (by decide) ?_
  refine U_putI t_Land 0 rfl rfl i_Land t_Land_ok n_Land (by decide) fl_Land_27 rfl (t_Land_ok 0 (by decide)) (Nat.le_of_ble_eq_true rfl) d_Land_reset_2 ?_
  refine U_eq [(a0, .inr (2, [.int 3, .int 0, .int 0, .int 0, .ref a1, .ref a2, .ref a3, .ref a4, .ref a5])), (a1, .inl (ca 0, 16, .inl (fun _ => 0))), (a2, .inl (ca 0, 16, .inl (fun _ => 0))), (a3, .inl (ca 0, 16, .inl (fun _ => 0))), (a4, .inl (ca 0, 16, .inl (fun _ => 0))), (a5, .inl (ca 0, 16, .inl (fun _ => 0)))] rfl ?_
  refine U_aload_n 0 d_Land_reset_5 rfl rfl ?_
  refine U_iconst 3 d_Land_reset_6 (by decide) ?_
  refine U_putI t_Land 0 rfl rfl i_Land t_Land_ok n_Land (by decide) fl_Land_31 rfl (t_Land_ok 1 (by decide)) (Nat.le_of_ble_eq_true rfl) d_Land_reset_7 ?_
  refine U_eq [(a0, .inr (2, [.int 3, .int 3, .int 0, .int 0, .ref a1, .ref a2, .ref a3, .ref a4, .ref a5])), (a1, .inl (ca 0, 16, .inl (fun _ => 0))), (a2, .inl (ca 0, 16, .inl (fun _ => 0))), (a3, .inl (ca 0, 16, .inl (fun _ => 0))), (a4, .inl (ca 0, 16, .inl (fun _ => 0))), (a5, .inl (ca 0, 16, .inl (fun _ => 0)))] rfl ?_
  refine U_aload_n 0 d_Land_reset_10 rfl rfl ?_
  refine U_iconst 1 d_Land_reset_11 (by decide) ?_
  refine U_putI t_Land 0 rfl rfl i_Land t_Land_ok n_Land (by decide) fl_Land_34 rfl (t_Land_ok 2 (by decide)) (Nat.le_of_ble_eq_true rfl) d_Land_reset_12 ?_
  refine U_eq [(a0, .inr (2, [.int 3, .int 3, .int 1, .int 0, .ref a1, .ref a2, .ref a3, .ref a4, .ref a5])), (a1, .inl (ca 0, 16, .inl (fun _ => 0))), (a2, .inl (ca 0, 16, .inl (fun _ => 0))), (a3, .inl (ca 0, 16, .inl (fun _ => 0))), (a4, .inl (ca 0, 16, .inl (fun _ => 0))), (a5, .inl (ca 0, 16, .inl (fun _ => 0)))] rfl ?_
  refine U_aload_n 0 d_Land_reset_15 rfl rfl ?_
  refine U_bipush 10 d_Land_reset_16 (by decide) ?_
  refine U_putI t_Land 0 rfl rfl i_Land t_Land_ok n_Land (by decide) fl_Land_37 rfl (t_Land_ok 3 (by decide)) (Nat.le_of_ble_eq_true rfl) d_Land_reset_18 ?_
  refine U_eq [(a0, .inr (2, [.int 3, .int 3, .int 1, .int 10, .ref a1, .ref a2, .ref a3, .ref a4, .ref a5])), (a1, .inl (ca 0, 16, .inl (fun _ => 0))), (a2, .inl (ca 0, 16, .inl (fun _ => 0))), (a3, .inl (ca 0, 16, .inl (fun _ => 0))), (a4, .inl (ca 0, 16, .inl (fun _ => 0))), (a5, .inl (ca 0, 16, .inl (fun _ => 0)))] rfl ?_
  refine U_aload_n 0 d_Land_reset_21 rfl rfl ?_
  refine U_get (.ref a1) 0 fa_Land_9 rfl rfl d_Land_reset_22 ?_
  refine U_iconst 0 d_Land_reset_25 (by decide) ?_
  refine U_callS [.ref a1, .int 0] [(a0, .inr (2, [.int 3, .int 3, .int 1, .int 10, .ref a1, .ref a2, .ref a3, .ref a4, .ref a5])), (a2, .inl (ca 0, 16, .inl (fun _ => 0))), (a3, .inl (ca 0, 16, .inl (fun _ => 0))), (a4, .inl (ca 0, 16, .inl (fun _ => 0))), (a5, .inl (ca 0, 16, .inl (fun _ => 0)))] [] [1] [0, 2, 3, 4, 5] cs_Land_40 rfl rfl (by decide) (by decide) (by decide) (by decide +kernel) d_Land_reset_26 rfl (Nat.le_of_ble_eq_true rfl) (by decide) (by decide) (by decide) (by decide) (k_fill D ca a1 16 (by decide) _ 0) (fun w1 hw => ?_)
  subst hw
  refine U_eq [(a0, .inr (2, [.int 3, .int 3, .int 1, .int 10, .ref a1, .ref a2, .ref a3, .ref a4, .ref a5])), (a2, .inl (ca 0, 16, .inl (fun _ => 0))), (a3, .inl (ca 0, 16, .inl (fun _ => 0))), (a4, .inl (ca 0, 16, .inl (fun _ => 0))), (a5, .inl (ca 0, 16, .inl (fun _ => 0))), (a1, .inl (ca 0, 16, .inl (fun _ => 0)))] rfl ?_
  refine U_aload_n 0 d_Land_reset_29 rfl rfl ?_
  refine U_get (.ref a2) 0 fa_Land_15 rfl rfl d_Land_reset_30 ?_
  refine U_iconst 0 d_Land_reset_33 (by decide) ?_
  refine U_callS [.ref a2, .int 0] [(a0, .inr (2, [.int 3, .int 3, .int 1, .int 10, .ref a1, .ref a2, .ref a3, .ref a4, .ref a5])), (a3, .inl (ca 0, 16, .inl (fun _ => 0))), (a4, .inl (ca 0, 16, .inl (fun _ => 0))), (a5, .inl (ca 0, 16, .inl (fun _ => 0))), (a1, .inl (ca 0, 16, .inl (fun _ => 0)))] [] [1] [0, 2, 3, 4, 5] cs_Land_40 rfl rfl (by decide) (by decide) (by decide) (by decide +kernel) d_Land_reset_34 rfl (Nat.le_of_ble_eq_true rfl) (by decide) (by decide) (by decide) (by decide) (k_fill D ca a2 16 (by decide) _ 0) (fun w1 hw => ?_)
  subst hw
  refine U_eq [(a0, .inr (2, [.int 3, .int 3, .int 1, .int 10, .ref a1, .ref a2, .ref a3, .ref a4, .ref a5])), (a3, .inl (ca 0, 16, .inl (fun _ => 0))), (a4, .inl (ca 0, 16, .inl (fun _ => 0))), (a5, .inl (ca 0, 16, .inl (fun _ => 0))), (a1, .inl (ca 0, 16, .inl (fun _ => 0))), (a2, .inl (ca 0, 16, .inl (fun _ => 0)))] rfl ?_
  refine U_aload_n 0 d_Land_reset_37 rfl rfl ?_
  refine U_get (.ref a3) 0 fa_Land_18 rfl rfl d_Land_reset_38 ?_
  refine U_iconst 5 d_Land_reset_41 (by decide) ?_
  refine U_callS [.ref a3, .int 5] [(a0, .inr (2, [.int 3, .int 3, .int 1, .int 10, .ref a1, .ref a2, .ref a3, .ref a4, .ref a5])), (a4, .inl (ca 0, 16, .inl (fun _ => 0))), (a5, .inl (ca 0, 16, .inl (fun _ => 0))), (a1, .inl (ca 0, 16, .inl (fun _ => 0))), (a2, .inl (ca 0, 16, .inl (fun _ => 0)))] [] [1] [0, 2, 3, 4, 5] cs_Land_40 rfl rfl (by decide) (by decide) (by decide) (by decide +kernel) d_Land_reset_42 rfl (Nat.le_of_ble_eq_true rfl) (by decide) (by decide) (by decide) (by decide) (k_fill D ca a3 16 (by decide) _ 5) (fun w1 hw => ?_)
  subst hw
  refine U_eq [(a0, .inr (2, [.int 3, .int 3, .int 1, .int 10, .ref a1, .ref a2, .ref a3, .ref a4, .ref a5])), (a4, .inl (ca 0, 16, .inl (fun _ => 0))), (a5, .inl (ca 0, 16, .inl (fun _ => 0))), (a1, .inl (ca 0, 16, .inl (fun _ => 0))), (a2, .inl (ca 0, 16, .inl (fun _ => 0))), (a3, .inl (ca 0, 16, .inl (fun _ => 5)))] rfl ?_
  refine U_aload_n 0 d_Land_reset_45 rfl rfl ?_
  refine U_get (.ref a4) 0 fa_Land_21 rfl rfl d_Land_reset_46 ?_
  refine U_bipush (-4) d_Land_reset_49 (by decide) ?_
  refine U_callS [.ref a4, .int (-4)] [(a0, .inr (2, [.int 3, .int 3, .int 1, .int 10, .ref a1, .ref a2, .ref a3, .ref a4, .ref a5])), (a5, .inl (ca 0, 16, .inl (fun _ => 0))), (a1, .inl (ca 0, 16, .inl (fun _ => 0))), (a2, .inl (ca 0, 16, .inl (fun _ => 0))), (a3, .inl (ca 0, 16, .inl (fun _ => 5)))] [] [1] [0, 2, 3, 4, 5] cs_Land_40 rfl rfl (by decide) (by decide) (by decide) (by decide +kernel) d_Land_reset_51 rfl (Nat.le_of_ble_eq_true rfl) (by decide) (by decide) (by decide) (by decide) (k_fill D ca a4 16 (by decide) _ (-4)) (fun w1 hw => ?_)
  subst hw
  refine U_eq [(a0, .inr (2, [.int 3, .int 3, .int 1, .int 10, .ref a1, .ref a2, .ref a3, .ref a4, .ref a5])), (a5, .inl (ca 0, 16, .inl (fun _ => 0))), (a1, .inl (ca 0, 16, .inl (fun _ => 0))), (a2, .inl (ca 0, 16, .inl (fun _ => 0))), (a3, .inl (ca 0, 16, .inl (fun _ => 5))), (a4, .inl (ca 0, 16, .inl (fun _ => (-4))))] rfl ?_
  refine U_aload_n 0 d_Land_reset_54 rfl rfl ?_
  refine U_get (.ref a5) 0 fa_Land_24 rfl rfl d_Land_reset_55 ?_
  refine U_iconst 0 d_Land_reset_58 (by decide) ?_
  refine U_callS [.ref a5, .int 0] [(a0, .inr (2, [.int 3, .int 3, .int 1, .int 10, .ref a1, .ref a2, .ref a3, .ref a4, .ref a5])), (a1, .inl (ca 0, 16, .inl (fun _ => 0))), (a2, .inl (ca 0, 16, .inl (fun _ => 0))), (a3, .inl (ca 0, 16, .inl (fun _ => 5))), (a4, .inl (ca 0, 16, .inl (fun _ => (-4))))] [] [1] [0, 2, 3, 4, 5] cs_Land_40 rfl rfl (by decide) (by decide) (by decide) (by decide +kernel) d_Land_reset_59 rfl (Nat.le_of_ble_eq_true rfl) (by decide) (by decide) (by decide) (by decide) (k_fill D ca a5 16 (by decide) _ 0) (fun w1 hw => ?_)
  subst hw
  refine U_eq [(a0, .inr (2, [.int 3, .int 3, .int 1, .int 10, .ref a1, .ref a2, .ref a3, .ref a4, .ref a5])), (a1, .inl (ca 0, 16, .inl (fun _ => 0))), (a2, .inl (ca 0, 16, .inl (fun _ => 0))), (a3, .inl (ca 0, 16, .inl (fun _ => 5))), (a4, .inl (ca 0, 16, .inl (fun _ => (-4)))), (a5, .inl (ca 0, 16, .inl (fun _ => 0)))] rfl ?_
  exact U_vret d_Land_reset_62 rfl rfl rfl
set_option maxRecDepth 100000 in
theorem k_Ledger_reset (D : va_G) (ca : Nat → ClassId) (a0 : Nat) (a1 : Nat) (a2 : Nat) (a3 : Nat) (a4 : Nat) : Cu y_Ledger_reset b_Ledger_reset 1 1 23 0 0 D ca [.ref a0] [(a0, .inr (3, [.ref a1, .ref a2, .ref a3, .ref a4, .int 0])), (a1, .inl (ca 0, 4, .inl (fun _ => 0))), (a2, .inl (ca 0, 8, .inl (fun _ => 0))), (a3, .inl (ca 0, 8, .inl (fun _ => 0))), (a4, .inl (ca 0, 8, .inl (fun _ => 0)))] (fun w => w = [(a0, .inr (3, [.ref a1, .ref a2, .ref a3, .ref a4, .int 0])), (a2, .inl (ca 0, 8, .inl (fun _ => 0))), (a3, .inl (ca 0, 8, .inl (fun _ => 0))), (a4, .inl (ca 0, 8, .inl (fun _ => 0))), (a1, .inl (ca 0, 4, .inl (fun _ => 0)))]) := by
  refine cu_of R_Ledger false [some (.ref a0)] rfl (fun q => by cases q) (by decide) rfl (Nat.le_of_ble_eq_true rfl) ?_
  refine U_aload_n 0 d_Ledger_reset_0 rfl rfl ?_
  refine U_get (.ref a1) 0 fa_Ledger_9 rfl rfl d_Ledger_reset_1 ?_
  refine U_iconst 0 d_Ledger_reset_4 (by decide) ?_
  refine U_callS [.ref a1, .int 0] [(a0, .inr (3, [.ref a1, .ref a2, .ref a3, .ref a4, .int 0])), (a2, .inl (ca 0, 8, .inl (fun _ => 0))), (a3, .inl (ca 0, 8, .inl (fun _ => 0))), (a4, .inl (ca 0, 8, .inl (fun _ => 0)))] [] [1] [0, 2, 3, 4] cs_Ledger_24 rfl rfl (by decide) (by decide) (by decide) (by decide +kernel) d_Ledger_reset_5 rfl (Nat.le_of_ble_eq_true rfl) (by decide) (by decide) (by decide) (by decide) (k_fill D ca a1 4 (by decide) _ 0) (fun w1 hw => ?_)
  subst hw
  refine U_eq [(a0, .inr (3, [.ref a1, .ref a2, .ref a3, .ref a4, .int 0])), (a2, .inl (ca 0, 8, .inl (fun _ => 0))), (a3, .inl (ca 0, 8, .inl (fun _ => 0))), (a4, .inl (ca 0, 8, .inl (fun _ => 0))), (a1, .inl (ca 0, 4, .inl (fun _ => 0)))] rfl ?_
  refine U_aload_n 0 d_Ledger_reset_8 rfl rfl ?_
  refine U_iconst 0 d_Ledger_reset_9 (by decide) ?_
  refine U_putI t_Ledger 0 rfl rfl i_Ledger t_Ledger_ok n_Ledger (by decide) fl_Ledger_30 rfl (t_Ledger_ok 4 (by decide)) (Nat.le_of_ble_eq_true rfl) d_Ledger_reset_10 ?_
  refine U_eq [(a0, .inr (3, [.ref a1, .ref a2, .ref a3, .ref a4, .int 0])), (a2, .inl (ca 0, 8, .inl (fun _ => 0))), (a3, .inl (ca 0, 8, .inl (fun _ => 0))), (a4, .inl (ca 0, 8, .inl (fun _ => 0))), (a1, .inl (ca 0, 4, .inl (fun _ => 0)))] rfl ?_
  exact U_vret d_Ledger_reset_13 rfl rfl rfl
set_option maxRecDepth 100000 in
theorem k_County_reset (D : va_G) (ca : Nat → ClassId) (a0 : Nat) (a1 : Nat) (a2 : Nat) (a3 : Nat) (a4 : Nat) (a5 : Nat) (a6 : Nat) (a7 : Nat) (a8 : Nat) (a9 : Nat) (a10 : Nat) (a11 : Nat) (a12 : Nat) (a13 : Nat) (a14 : Nat) (a15 : Nat) (a16 : Nat) : Cu y_County_reset b_County_reset 1 2 43 0 0 D ca [.ref a0] [(a0, .inr (1, [.ref a1, .ref a7, .ref a12, .int 0, .int 0])), (a1, .inr (2, [.int 0, .int 0, .int 0, .int 0, .ref a2, .ref a3, .ref a4, .ref a5, .ref a6])), (a2, .inl (ca 0, 16, .inl (fun _ => 0))), (a3, .inl (ca 0, 16, .inl (fun _ => 0))), (a4, .inl (ca 0, 16, .inl (fun _ => 0))), (a5, .inl (ca 0, 16, .inl (fun _ => 0))), (a6, .inl (ca 0, 16, .inl (fun _ => 0))), (a7, .inr (3, [.ref a8, .ref a9, .ref a10, .ref a11, .int 0])), (a8, .inl (ca 0, 4, .inl (fun _ => 0))), (a9, .inl (ca 0, 8, .inl (fun _ => 0))), (a10, .inl (ca 0, 8, .inl (fun _ => 0))), (a11, .inl (ca 0, 8, .inl (fun _ => 0))), (a12, .inr (7, [.ref a13, .ref a14, .ref a15, .ref a16, .int 0])), (a13, .inl (ca 0, 8, .inl (fun _ => 0))), (a14, .inl (ca 0, 8, .inl (fun _ => 0))), (a15, .inl (ca 0, 8, .inl (fun _ => 0))), (a16, .inl (ca 0, 8, .inl (fun _ => 0)))] (fun w => w = [(a0, .inr (1, [.ref a1, .ref a7, .ref a12, .int 0, .int 9])), (a12, .inr (7, [.ref a13, .ref a14, .ref a15, .ref a16, .int 0])), (a13, .inl (ca 0, 8, .inl (fun _ => 0))), (a14, .inl (ca 0, 8, .inl (fun _ => 0))), (a15, .inl (ca 0, 8, .inl (fun _ => 0))), (a16, .inl (ca 0, 8, .inl (fun _ => 0))), (a1, .inr (2, [.int 3, .int 3, .int 1, .int 10, .ref a2, .ref a3, .ref a4, .ref a5, .ref a6])), (a2, .inl (ca 0, 16, .inl (fun _ => 0))), (a3, .inl (ca 0, 16, .inl (fun _ => 0))), (a4, .inl (ca 0, 16, .inl (fun _ => 5))), (a5, .inl (ca 0, 16, .inl (fun _ => (-4)))), (a6, .inl (ca 0, 16, .inl (fun _ => 0))), (a7, .inr (3, [.ref a8, .ref a9, .ref a10, .ref a11, .int 0])), (a9, .inl (ca 0, 8, .inl (fun _ => 0))), (a10, .inl (ca 0, 8, .inl (fun _ => 0))), (a11, .inl (ca 0, 8, .inl (fun _ => 0))), (a8, .inl (ca 0, 4, .inl (fun _ => 0)))]) := by
  refine cu_of R_County false [some (.ref a0)] rfl (fun q => by cases q) (by decide) rfl (Nat.le_of_ble_eq_true rfl) ?_
  refine U_aload_n 0 d_County_reset_0 rfl rfl ?_
  refine U_get (.ref a1) 0 fa_County_12 rfl rfl d_County_reset_1 ?_
  refine U_callV (qb := 1) [(a0, .inr (1, [.ref a1, .ref a7, .ref a12, .int 0, .int 0])), (a7, .inr (3, [.ref a8, .ref a9, .ref a10, .ref a11, .int 0])), (a8, .inl (ca 0, 4, .inl (fun _ => 0))), (a9, .inl (ca 0, 8, .inl (fun _ => 0))), (a10, .inl (ca 0, 8, .inl (fun _ => 0))), (a11, .inl (ca 0, 8, .inl (fun _ => 0))), (a12, .inr (7, [.ref a13, .ref a14, .ref a15, .ref a16, .int 0])), (a13, .inl (ca 0, 8, .inl (fun _ => 0))), (a14, .inl (ca 0, 8, .inl (fun _ => 0))), (a15, .inl (ca 0, 8, .inl (fun _ => 0))), (a16, .inl (ca 0, 8, .inl (fun _ => 0)))] [] [1, 2, 3, 4, 5, 6] [0, 7, 8, 9, 10, 11, 12, 13, 14, 15, 16] cv_County_35 rfl rfl rfl rfl (by decide) (by decide) (by decide) d_County_reset_4 (Nat.le_of_ble_eq_true rfl) (by decide) (by decide) (by decide) (by decide) (k_Land_reset D ca a1 a2 a3 a4 a5 a6) (fun w1 hw => ?_)
  subst hw
  refine U_eq [(a0, .inr (1, [.ref a1, .ref a7, .ref a12, .int 0, .int 0])), (a7, .inr (3, [.ref a8, .ref a9, .ref a10, .ref a11, .int 0])), (a8, .inl (ca 0, 4, .inl (fun _ => 0))), (a9, .inl (ca 0, 8, .inl (fun _ => 0))), (a10, .inl (ca 0, 8, .inl (fun _ => 0))), (a11, .inl (ca 0, 8, .inl (fun _ => 0))), (a12, .inr (7, [.ref a13, .ref a14, .ref a15, .ref a16, .int 0])), (a13, .inl (ca 0, 8, .inl (fun _ => 0))), (a14, .inl (ca 0, 8, .inl (fun _ => 0))), (a15, .inl (ca 0, 8, .inl (fun _ => 0))), (a16, .inl (ca 0, 8, .inl (fun _ => 0))), (a1, .inr (2, [.int 3, .int 3, .int 1, .int 10, .ref a2, .ref a3, .ref a4, .ref a5, .ref a6])), (a2, .inl (ca 0, 16, .inl (fun _ => 0))), (a3, .inl (ca 0, 16, .inl (fun _ => 0))), (a4, .inl (ca 0, 16, .inl (fun _ => 5))), (a5, .inl (ca 0, 16, .inl (fun _ => (-4)))), (a6, .inl (ca 0, 16, .inl (fun _ => 0)))] rfl ?_
  refine U_aload_n 0 d_County_reset_7 rfl rfl ?_
  refine U_get (.ref a7) 0 fa_County_21 rfl rfl d_County_reset_8 ?_
  refine U_callV (qb := 1) [(a0, .inr (1, [.ref a1, .ref a7, .ref a12, .int 0, .int 0])), (a12, .inr (7, [.ref a13, .ref a14, .ref a15, .ref a16, .int 0])), (a13, .inl (ca 0, 8, .inl (fun _ => 0))), (a14, .inl (ca 0, 8, .inl (fun _ => 0))), (a15, .inl (ca 0, 8, .inl (fun _ => 0))), (a16, .inl (ca 0, 8, .inl (fun _ => 0))), (a1, .inr (2, [.int 3, .int 3, .int 1, .int 10, .ref a2, .ref a3, .ref a4, .ref a5, .ref a6])), (a2, .inl (ca 0, 16, .inl (fun _ => 0))), (a3, .inl (ca 0, 16, .inl (fun _ => 0))), (a4, .inl (ca 0, 16, .inl (fun _ => 5))), (a5, .inl (ca 0, 16, .inl (fun _ => (-4)))), (a6, .inl (ca 0, 16, .inl (fun _ => 0)))] [] [1, 2, 3, 4, 5] [0, 6, 7, 8, 9, 10, 11, 12, 13, 14, 15, 16] cv_County_36 rfl rfl rfl rfl (by decide) (by decide) (by decide) d_County_reset_11 (Nat.le_of_ble_eq_true rfl) (by decide) (by decide) (by decide) (by decide) (k_Ledger_reset D ca a7 a8 a9 a10 a11) (fun w1 hw => ?_)
  subst hw
  refine U_eq [(a0, .inr (1, [.ref a1, .ref a7, .ref a12, .int 0, .int 0])), (a12, .inr (7, [.ref a13, .ref a14, .ref a15, .ref a16, .int 0])), (a13, .inl (ca 0, 8, .inl (fun _ => 0))), (a14, .inl (ca 0, 8, .inl (fun _ => 0))), (a15, .inl (ca 0, 8, .inl (fun _ => 0))), (a16, .inl (ca 0, 8, .inl (fun _ => 0))), (a1, .inr (2, [.int 3, .int 3, .int 1, .int 10, .ref a2, .ref a3, .ref a4, .ref a5, .ref a6])), (a2, .inl (ca 0, 16, .inl (fun _ => 0))), (a3, .inl (ca 0, 16, .inl (fun _ => 0))), (a4, .inl (ca 0, 16, .inl (fun _ => 5))), (a5, .inl (ca 0, 16, .inl (fun _ => (-4)))), (a6, .inl (ca 0, 16, .inl (fun _ => 0))), (a7, .inr (3, [.ref a8, .ref a9, .ref a10, .ref a11, .int 0])), (a9, .inl (ca 0, 8, .inl (fun _ => 0))), (a10, .inl (ca 0, 8, .inl (fun _ => 0))), (a11, .inl (ca 0, 8, .inl (fun _ => 0))), (a8, .inl (ca 0, 4, .inl (fun _ => 0)))] rfl ?_
  refine U_aload_n 0 d_County_reset_14 rfl rfl ?_
  refine U_get (.ref a12) 0 fa_County_28 rfl rfl d_County_reset_15 ?_
  refine U_iconst 0 d_County_reset_18 (by decide) ?_
  refine U_putI t_Sights 1 rfl rfl i_Sights t_Sights_ok n_Sights (by decide) fl_County_37 rfl (t_Sights_ok 4 (by decide)) (Nat.le_of_ble_eq_true rfl) d_County_reset_19 ?_
  refine U_eq [(a0, .inr (1, [.ref a1, .ref a7, .ref a12, .int 0, .int 0])), (a12, .inr (7, [.ref a13, .ref a14, .ref a15, .ref a16, .int 0])), (a13, .inl (ca 0, 8, .inl (fun _ => 0))), (a14, .inl (ca 0, 8, .inl (fun _ => 0))), (a15, .inl (ca 0, 8, .inl (fun _ => 0))), (a16, .inl (ca 0, 8, .inl (fun _ => 0))), (a1, .inr (2, [.int 3, .int 3, .int 1, .int 10, .ref a2, .ref a3, .ref a4, .ref a5, .ref a6])), (a2, .inl (ca 0, 16, .inl (fun _ => 0))), (a3, .inl (ca 0, 16, .inl (fun _ => 0))), (a4, .inl (ca 0, 16, .inl (fun _ => 5))), (a5, .inl (ca 0, 16, .inl (fun _ => (-4)))), (a6, .inl (ca 0, 16, .inl (fun _ => 0))), (a7, .inr (3, [.ref a8, .ref a9, .ref a10, .ref a11, .int 0])), (a9, .inl (ca 0, 8, .inl (fun _ => 0))), (a10, .inl (ca 0, 8, .inl (fun _ => 0))), (a11, .inl (ca 0, 8, .inl (fun _ => 0))), (a8, .inl (ca 0, 4, .inl (fun _ => 0)))] rfl ?_
  refine U_aload_n 0 d_County_reset_22 rfl rfl ?_
  refine U_iconst 0 d_County_reset_23 (by decide) ?_
  refine U_putI t_County 0 rfl rfl i_County t_County_ok n_County (by decide) fl_County_41 rfl (t_County_ok 3 (by decide)) (Nat.le_of_ble_eq_true rfl) d_County_reset_24 ?_
  refine U_eq [(a0, .inr (1, [.ref a1, .ref a7, .ref a12, .int 0, .int 0])), (a12, .inr (7, [.ref a13, .ref a14, .ref a15, .ref a16, .int 0])), (a13, .inl (ca 0, 8, .inl (fun _ => 0))), (a14, .inl (ca 0, 8, .inl (fun _ => 0))), (a15, .inl (ca 0, 8, .inl (fun _ => 0))), (a16, .inl (ca 0, 8, .inl (fun _ => 0))), (a1, .inr (2, [.int 3, .int 3, .int 1, .int 10, .ref a2, .ref a3, .ref a4, .ref a5, .ref a6])), (a2, .inl (ca 0, 16, .inl (fun _ => 0))), (a3, .inl (ca 0, 16, .inl (fun _ => 0))), (a4, .inl (ca 0, 16, .inl (fun _ => 5))), (a5, .inl (ca 0, 16, .inl (fun _ => (-4)))), (a6, .inl (ca 0, 16, .inl (fun _ => 0))), (a7, .inr (3, [.ref a8, .ref a9, .ref a10, .ref a11, .int 0])), (a9, .inl (ca 0, 8, .inl (fun _ => 0))), (a10, .inl (ca 0, 8, .inl (fun _ => 0))), (a11, .inl (ca 0, 8, .inl (fun _ => 0))), (a8, .inl (ca 0, 4, .inl (fun _ => 0)))] rfl ?_
  refine U_aload_n 0 d_County_reset_27 rfl rfl ?_
  refine U_bipush 9 d_County_reset_28 (by decide) ?_
  refine U_putI t_County 0 rfl rfl i_County t_County_ok n_County (by decide) fl_County_44 rfl (t_County_ok 4 (by decide)) (Nat.le_of_ble_eq_true rfl) d_County_reset_30 ?_
  refine U_eq [(a0, .inr (1, [.ref a1, .ref a7, .ref a12, .int 0, .int 9])), (a12, .inr (7, [.ref a13, .ref a14, .ref a15, .ref a16, .int 0])), (a13, .inl (ca 0, 8, .inl (fun _ => 0))), (a14, .inl (ca 0, 8, .inl (fun _ => 0))), (a15, .inl (ca 0, 8, .inl (fun _ => 0))), (a16, .inl (ca 0, 8, .inl (fun _ => 0))), (a1, .inr (2, [.int 3, .int 3, .int 1, .int 10, .ref a2, .ref a3, .ref a4, .ref a5, .ref a6])), (a2, .inl (ca 0, 16, .inl (fun _ => 0))), (a3, .inl (ca 0, 16, .inl (fun _ => 0))), (a4, .inl (ca 0, 16, .inl (fun _ => 5))), (a5, .inl (ca 0, 16, .inl (fun _ => (-4)))), (a6, .inl (ca 0, 16, .inl (fun _ => 0))), (a7, .inr (3, [.ref a8, .ref a9, .ref a10, .ref a11, .int 0])), (a9, .inl (ca 0, 8, .inl (fun _ => 0))), (a10, .inl (ca 0, 8, .inl (fun _ => 0))), (a11, .inl (ca 0, 8, .inl (fun _ => 0))), (a8, .inl (ca 0, 4, .inl (fun _ => 0)))] rfl ?_
  exact U_vret d_County_reset_33 rfl rfl rfl
theorem d_County_init_0 : decode b_County_init 0 = .ok (.aload_n 0, 1) := dc_42 (by decide +kernel)
theorem d_County_init_1 : decode b_County_init 1 = .ok (.invokespecial 3, 3) := dc_183 (a := 0) (b := 3) (by decide +kernel) rfl
theorem d_County_init_4 : decode b_County_init 4 = .ok (.aload_n 0, 1) := dc_42 (by decide +kernel)
theorem d_County_init_5 : decode b_County_init 5 = .ok (.new 9, 3) := dc_187 (a := 0) (b := 9) (by decide +kernel) rfl
theorem d_County_init_8 : decode b_County_init 8 = .ok (.dup, 1) := dc_89 (by decide +kernel)
theorem d_County_init_9 : decode b_County_init 9 = .ok (.invokespecial 11, 3) := dc_183 (a := 0) (b := 11) (by decide +kernel) rfl
theorem d_County_init_12 : decode b_County_init 12 = .ok (.putfield 12, 3) := dc_181 (a := 0) (b := 12) (by decide +kernel) rfl
theorem d_County_init_15 : decode b_County_init 15 = .ok (.aload_n 0, 1) := dc_42 (by decide +kernel)
theorem d_County_init_16 : decode b_County_init 16 = .ok (.new 18, 3) := dc_187 (a := 0) (b := 18) (by decide +kernel) rfl
theorem d_County_init_19 : decode b_County_init 19 = .ok (.dup, 1) := dc_89 (by decide +kernel)
theorem d_County_init_20 : decode b_County_init 20 = .ok (.invokespecial 20, 3) := dc_183 (a := 0) (b := 20) (by decide +kernel) rfl
theorem d_County_init_23 : decode b_County_init 23 = .ok (.putfield 21, 3) := dc_181 (a := 0) (b := 21) (by decide +kernel) rfl
theorem d_County_init_26 : decode b_County_init 26 = .ok (.aload_n 0, 1) := dc_42 (by decide +kernel)
theorem d_County_init_27 : decode b_County_init 27 = .ok (.new 25, 3) := dc_187 (a := 0) (b := 25) (by decide +kernel) rfl
theorem d_County_init_30 : decode b_County_init 30 = .ok (.dup, 1) := dc_89 (by decide +kernel)
theorem d_County_init_31 : decode b_County_init 31 = .ok (.invokespecial 27, 3) := dc_183 (a := 0) (b := 27) (by decide +kernel) rfl
theorem d_County_init_34 : decode b_County_init 34 = .ok (.putfield 28, 3) := dc_181 (a := 0) (b := 28) (by decide +kernel) rfl
theorem d_County_init_37 : decode b_County_init 37 = .ok (.aload_n 0, 1) := dc_42 (by decide +kernel)
theorem d_County_init_38 : decode b_County_init 38 = .ok (.invokevirtual 32, 3) := dc_182 (a := 0) (b := 32) (by decide +kernel) rfl
theorem d_County_init_41 : decode b_County_init 41 = .ok (.return_, 1) := dc_177 (by decide +kernel)
set_option maxRecDepth 100000 in
theorem k_County_init (D : va_G) (ca : Nat → ClassId) (a0 : Nat) : Cu y_County_init b_County_init 1 3 63 16 159 D ca [.ref a0] [(a0, .inr (1, [.null, .null, .null, .int 0, .int 0]))] (fun w => ∃ (q1 : Nat) (q7 : Nat) (q12 : Nat) (q13 : Nat) (q14 : Nat) (q15 : Nat) (q16 : Nat) (q2 : Nat) (q3 : Nat) (q4 : Nat) (q5 : Nat) (q6 : Nat) (q8 : Nat) (q9 : Nat) (q10 : Nat) (q11 : Nat), w = [(a0, .inr (1, [.ref q1, .ref q7, .ref q12, .int 0, .int 9])), (q12, .inr (7, [.ref q13, .ref q14, .ref q15, .ref q16, .int 0])), (q13, .inl (ca 0, 8, .inl (fun _ => 0))), (q14, .inl (ca 0, 8, .inl (fun _ => 0))), (q15, .inl (ca 0, 8, .inl (fun _ => 0))), (q16, .inl (ca 0, 8, .inl (fun _ => 0))), (q1, .inr (2, [.int 3, .int 3, .int 1, .int 10, .ref q2, .ref q3, .ref q4, .ref q5, .ref q6])), (q2, .inl (ca 0, 16, .inl (fun _ => 0))), (q3, .inl (ca 0, 16, .inl (fun _ => 0))), (q4, .inl (ca 0, 16, .inl (fun _ => 5))), (q5, .inl (ca 0, 16, .inl (fun _ => (-4)))), (q6, .inl (ca 0, 16, .inl (fun _ => 0))), (q7, .inr (3, [.ref q8, .ref q9, .ref q10, .ref q11, .int 0])), (q9, .inl (ca 0, 8, .inl (fun _ => 0))), (q10, .inl (ca 0, 8, .inl (fun _ => 0))), (q11, .inl (ca 0, 8, .inl (fun _ => 0))), (q8, .inl (ca 0, 4, .inl (fun _ => 0)))]) := by
  refine cu_of R_County true [some (.ref a0)] rfl (fun _ => rfl) (by decide) rfl (Nat.le_of_ble_eq_true rfl) ?_
  refine U_aload_n 0 d_County_init_0 rfl rfl ?_
  refine U_obj wo_County_3 wo1 wo2 d_County_init_1 (by decide) (Nat.le_of_ble_eq_true rfl) ?_
  refine U_aload_n 0 d_County_init_4 rfl rfl ?_
  refine U_new (ci := 2) (fs := [.int 0, .int 0, .int 0, .int 0, .null, .null, .null, .null, .null]) t_Land rfl i_Land t_Land_ok wk_County_9 wi_Land wn_Land wd_Land d_County_init_5 (by decide) (by decide) (fun q1 => ?_)
  refine U_eq [(a0, .inr (1, [.null, .null, .null, .int 0, .int 0])), (q1, .inr (2, [.int 0, .int 0, .int 0, .int 0, .null, .null, .null, .null, .null]))] rfl ?_
  refine U_dup d_County_init_8 rfl ?_
  refine U_callI [(a0, .inr (1, [.null, .null, .null, .int 0, .int 0]))] [.ref q1, .ref a0] [1] [0] ck_County_11 rfl rfl (by decide) (by decide) (by decide) d_County_init_9 (Nat.le_of_ble_eq_true rfl) (by decide) (by decide) (by decide) (by decide) (k_Land_init D ca q1) (fun w1 hw => ?_)
  obtain ⟨q2, q3, q4, q5, q6, rfl⟩ := hw
  refine U_eq [(a0, .inr (1, [.null, .null, .null, .int 0, .int 0])), (q1, .inr (2, [.int 0, .int 0, .int 0, .int 0, .ref q2, .ref q3, .ref q4, .ref q5, .ref q6])), (q2, .inl (ca 0, 16, .inl (fun _ => 0))), (q3, .inl (ca 0, 16, .inl (fun _ => 0))), (q4, .inl (ca 0, 16, .inl (fun _ => 0))), (q5, .inl (ca 0, 16, .inl (fun _ => 0))), (q6, .inl (ca 0, 16, .inl (fun _ => 0)))] rfl ?_
  refine U_putF (ty := t_County 0) t_County 0 rfl rfl i_County t_County_ok n_County (by decide) fl_County_12 rfl rfl rfl (t_County_ok 0 (by decide)) rfl rfl (Nat.le_of_ble_eq_true rfl) d_County_init_12 ?_
  refine U_eq [(a0, .inr (1, [.ref q1, .null, .null, .int 0, .int 0])), (q1, .inr (2, [.int 0, .int 0, .int 0, .int 0, .ref q2, .ref q3, .ref q4, .ref q5, .ref q6])), (q2, .inl (ca 0, 16, .inl (fun _ => 0))), (q3, .inl (ca 0, 16, .inl (fun _ => 0))), (q4, .inl (ca 0, 16, .inl (fun _ => 0))), (q5, .inl (ca 0, 16, .inl (fun _ => 0))), (q6, .inl (ca 0, 16, .inl (fun _ => 0)))] rfl ?_
  refine U_aload_n 0 d_County_init_15 rfl rfl ?_
  refine U_new (ci := 3) (fs := [.null, .null, .null, .null, .int 0]) t_Ledger rfl i_Ledger t_Ledger_ok wk_County_18 wi_Ledger wn_Ledger wd_Ledger d_County_init_16 (by decide) (by decide) (fun q7 => ?_)
  refine U_eq [(a0, .inr (1, [.ref q1, .null, .null, .int 0, .int 0])), (q1, .inr (2, [.int 0, .int 0, .int 0, .int 0, .ref q2, .ref q3, .ref q4, .ref q5, .ref q6])), (q2, .inl (ca 0, 16, .inl (fun _ => 0))), (q3, .inl (ca 0, 16, .inl (fun _ => 0))), (q4, .inl (ca 0, 16, .inl (fun _ => 0))), (q5, .inl (ca 0, 16, .inl (fun _ => 0))), (q6, .inl (ca 0, 16, .inl (fun _ => 0))), (q7, .inr (3, [.null, .null, .null, .null, .int 0]))] rfl ?_
  refine U_dup d_County_init_19 rfl ?_
  refine U_callI [(a0, .inr (1, [.ref q1, .null, .null, .int 0, .int 0])), (q1, .inr (2, [.int 0, .int 0, .int 0, .int 0, .ref q2, .ref q3, .ref q4, .ref q5, .ref q6])), (q2, .inl (ca 0, 16, .inl (fun _ => 0))), (q3, .inl (ca 0, 16, .inl (fun _ => 0))), (q4, .inl (ca 0, 16, .inl (fun _ => 0))), (q5, .inl (ca 0, 16, .inl (fun _ => 0))), (q6, .inl (ca 0, 16, .inl (fun _ => 0)))] [.ref q7, .ref a0] [7] [0, 1, 2, 3, 4, 5, 6] ck_County_20 rfl rfl (by decide) (by decide) (by decide) d_County_init_20 (Nat.le_of_ble_eq_true rfl) (by decide) (by decide) (by decide) (by decide) (k_Ledger_init D ca q7) (fun w1 hw => ?_)
  obtain ⟨q8, q9, q10, q11, rfl⟩ := hw
  refine U_eq [(a0, .inr (1, [.ref q1, .null, .null, .int 0, .int 0])), (q1, .inr (2, [.int 0, .int 0, .int 0, .int 0, .ref q2, .ref q3, .ref q4, .ref q5, .ref q6])), (q2, .inl (ca 0, 16, .inl (fun _ => 0))), (q3, .inl (ca 0, 16, .inl (fun _ => 0))), (q4, .inl (ca 0, 16, .inl (fun _ => 0))), (q5, .inl (ca 0, 16, .inl (fun _ => 0))), (q6, .inl (ca 0, 16, .inl (fun _ => 0))), (q7, .inr (3, [.ref q8, .ref q9, .ref q10, .ref q11, .int 0])), (q8, .inl (ca 0, 4, .inl (fun _ => 0))), (q9, .inl (ca 0, 8, .inl (fun _ => 0))), (q10, .inl (ca 0, 8, .inl (fun _ => 0))), (q11, .inl (ca 0, 8, .inl (fun _ => 0)))] rfl ?_
  refine U_putF (ty := t_County 1) t_County 0 rfl rfl i_County t_County_ok n_County (by decide) fl_County_21 rfl rfl rfl (t_County_ok 1 (by decide)) rfl rfl (Nat.le_of_ble_eq_true rfl) d_County_init_23 ?_
  refine U_eq [(a0, .inr (1, [.ref q1, .ref q7, .null, .int 0, .int 0])), (q1, .inr (2, [.int 0, .int 0, .int 0, .int 0, .ref q2, .ref q3, .ref q4, .ref q5, .ref q6])), (q2, .inl (ca 0, 16, .inl (fun _ => 0))), (q3, .inl (ca 0, 16, .inl (fun _ => 0))), (q4, .inl (ca 0, 16, .inl (fun _ => 0))), (q5, .inl (ca 0, 16, .inl (fun _ => 0))), (q6, .inl (ca 0, 16, .inl (fun _ => 0))), (q7, .inr (3, [.ref q8, .ref q9, .ref q10, .ref q11, .int 0])), (q8, .inl (ca 0, 4, .inl (fun _ => 0))), (q9, .inl (ca 0, 8, .inl (fun _ => 0))), (q10, .inl (ca 0, 8, .inl (fun _ => 0))), (q11, .inl (ca 0, 8, .inl (fun _ => 0)))] rfl ?_
  refine U_aload_n 0 d_County_init_26 rfl rfl ?_
  refine U_new (ci := 7) (fs := [.null, .null, .null, .null, .int 0]) t_Sights rfl i_Sights t_Sights_ok wk_County_25 wi_Sights wn_Sights wd_Sights d_County_init_27 (by decide) (by decide) (fun q12 => ?_)
  refine U_eq [(a0, .inr (1, [.ref q1, .ref q7, .null, .int 0, .int 0])), (q1, .inr (2, [.int 0, .int 0, .int 0, .int 0, .ref q2, .ref q3, .ref q4, .ref q5, .ref q6])), (q2, .inl (ca 0, 16, .inl (fun _ => 0))), (q3, .inl (ca 0, 16, .inl (fun _ => 0))), (q4, .inl (ca 0, 16, .inl (fun _ => 0))), (q5, .inl (ca 0, 16, .inl (fun _ => 0))), (q6, .inl (ca 0, 16, .inl (fun _ => 0))), (q7, .inr (3, [.ref q8, .ref q9, .ref q10, .ref q11, .int 0])), (q8, .inl (ca 0, 4, .inl (fun _ => 0))), (q9, .inl (ca 0, 8, .inl (fun _ => 0))), (q10, .inl (ca 0, 8, .inl (fun _ => 0))), (q11, .inl (ca 0, 8, .inl (fun _ => 0))), (q12, .inr (7, [.null, .null, .null, .null, .int 0]))] rfl ?_
  refine U_dup d_County_init_30 rfl ?_
  refine U_callI [(a0, .inr (1, [.ref q1, .ref q7, .null, .int 0, .int 0])), (q1, .inr (2, [.int 0, .int 0, .int 0, .int 0, .ref q2, .ref q3, .ref q4, .ref q5, .ref q6])), (q2, .inl (ca 0, 16, .inl (fun _ => 0))), (q3, .inl (ca 0, 16, .inl (fun _ => 0))), (q4, .inl (ca 0, 16, .inl (fun _ => 0))), (q5, .inl (ca 0, 16, .inl (fun _ => 0))), (q6, .inl (ca 0, 16, .inl (fun _ => 0))), (q7, .inr (3, [.ref q8, .ref q9, .ref q10, .ref q11, .int 0])), (q8, .inl (ca 0, 4, .inl (fun _ => 0))), (q9, .inl (ca 0, 8, .inl (fun _ => 0))), (q10, .inl (ca 0, 8, .inl (fun _ => 0))), (q11, .inl (ca 0, 8, .inl (fun _ => 0)))] [.ref q12, .ref a0] [12] [0, 1, 2, 3, 4, 5, 6, 7, 8, 9, 10, 11] ck_County_27 rfl rfl (by decide) (by decide) (by decide) d_County_init_31 (Nat.le_of_ble_eq_true rfl) (by decide) (by decide) (by decide) (by decide) (k_Sights_init D ca q12) (fun w1 hw => ?_)
  obtain ⟨q13, q14, q15, q16, rfl⟩ := hw
  refine U_eq [(a0, .inr (1, [.ref q1, .ref q7, .null, .int 0, .int 0])), (q1, .inr (2, [.int 0, .int 0, .int 0, .int 0, .ref q2, .ref q3, .ref q4, .ref q5, .ref q6])), (q2, .inl (ca 0, 16, .inl (fun _ => 0))), (q3, .inl (ca 0, 16, .inl (fun _ => 0))), (q4, .inl (ca 0, 16, .inl (fun _ => 0))), (q5, .inl (ca 0, 16, .inl (fun _ => 0))), (q6, .inl (ca 0, 16, .inl (fun _ => 0))), (q7, .inr (3, [.ref q8, .ref q9, .ref q10, .ref q11, .int 0])), (q8, .inl (ca 0, 4, .inl (fun _ => 0))), (q9, .inl (ca 0, 8, .inl (fun _ => 0))), (q10, .inl (ca 0, 8, .inl (fun _ => 0))), (q11, .inl (ca 0, 8, .inl (fun _ => 0))), (q12, .inr (7, [.ref q13, .ref q14, .ref q15, .ref q16, .int 0])), (q13, .inl (ca 0, 8, .inl (fun _ => 0))), (q14, .inl (ca 0, 8, .inl (fun _ => 0))), (q15, .inl (ca 0, 8, .inl (fun _ => 0))), (q16, .inl (ca 0, 8, .inl (fun _ => 0)))] rfl ?_
  refine U_putF (ty := t_County 2) t_County 0 rfl rfl i_County t_County_ok n_County (by decide) fl_County_28 rfl rfl rfl (t_County_ok 2 (by decide)) rfl rfl (Nat.le_of_ble_eq_true rfl) d_County_init_34 ?_
  refine U_eq [(a0, .inr (1, [.ref q1, .ref q7, .ref q12, .int 0, .int 0])), (q1, .inr (2, [.int 0, .int 0, .int 0, .int 0, .ref q2, .ref q3, .ref q4, .ref q5, .ref q6])), (q2, .inl (ca 0, 16, .inl (fun _ => 0))), (q3, .inl (ca 0, 16, .inl (fun _ => 0))), (q4, .inl (ca 0, 16, .inl (fun _ => 0))), (q5, .inl (ca 0, 16, .inl (fun _ => 0))), (q6, .inl (ca 0, 16, .inl (fun _ => 0))), (q7, .inr (3, [.ref q8, .ref q9, .ref q10, .ref q11, .int 0])), (q8, .inl (ca 0, 4, .inl (fun _ => 0))), (q9, .inl (ca 0, 8, .inl (fun _ => 0))), (q10, .inl (ca 0, 8, .inl (fun _ => 0))), (q11, .inl (ca 0, 8, .inl (fun _ => 0))), (q12, .inr (7, [.ref q13, .ref q14, .ref q15, .ref q16, .int 0])), (q13, .inl (ca 0, 8, .inl (fun _ => 0))), (q14, .inl (ca 0, 8, .inl (fun _ => 0))), (q15, .inl (ca 0, 8, .inl (fun _ => 0))), (q16, .inl (ca 0, 8, .inl (fun _ => 0)))] rfl ?_
  refine U_aload_n 0 d_County_init_37 rfl rfl ?_
  refine U_callV (qb := 0) [] [] [0, 1, 2, 3, 4, 5, 6, 7, 8, 9, 10, 11, 12, 13, 14, 15, 16] [] cv_County_32 rfl rfl rfl rfl (by decide) (by decide) (by decide) d_County_init_38 (Nat.le_of_ble_eq_true rfl) (by decide) (by decide) (by decide) (by decide) (k_County_reset D ca a0 q1 q2 q3 q4 q5 q6 q7 q8 q9 q10 q11 q12 q13 q14 q15 q16) (fun w1 hw => ?_)
  subst hw
  refine U_eq [(a0, .inr (1, [.ref q1, .ref q7, .ref q12, .int 0, .int 9])), (q12, .inr (7, [.ref q13, .ref q14, .ref q15, .ref q16, .int 0])), (q13, .inl (ca 0, 8, .inl (fun _ => 0))), (q14, .inl (ca 0, 8, .inl (fun _ => 0))), (q15, .inl (ca 0, 8, .inl (fun _ => 0))), (q16, .inl (ca 0, 8, .inl (fun _ => 0))), (q1, .inr (2, [.int 3, .int 3, .int 1, .int 10, .ref q2, .ref q3, .ref q4, .ref q5, .ref q6])), (q2, .inl (ca 0, 16, .inl (fun _ => 0))), (q3, .inl (ca 0, 16, .inl (fun _ => 0))), (q4, .inl (ca 0, 16, .inl (fun _ => 5))), (q5, .inl (ca 0, 16, .inl (fun _ => (-4)))), (q6, .inl (ca 0, 16, .inl (fun _ => 0))), (q7, .inr (3, [.ref q8, .ref q9, .ref q10, .ref q11, .int 0])), (q9, .inl (ca 0, 8, .inl (fun _ => 0))), (q10, .inl (ca 0, 8, .inl (fun _ => 0))), (q11, .inl (ca 0, 8, .inl (fun _ => 0))), (q8, .inl (ca 0, 4, .inl (fun _ => 0)))] rfl ?_
  exact U_vret d_County_init_41 ⟨q1, q7, q12, q13, q14, q15, q16, q2, q3, q4, q5, q6, q8, q9, q10, q11, rfl⟩ rfl rfl
theorem d_Tape_init_0 : decode b_Tape_init 0 = .ok (.aload_n 0, 1) := dc_42 (by decide +kernel)
theorem d_Tape_init_1 : decode b_Tape_init 1 = .ok (.invokespecial 3, 3) := dc_183 (a := 0) (b := 3) (by decide +kernel) rfl
theorem d_Tape_init_4 : decode b_Tape_init 4 = .ok (.aload_n 0, 1) := dc_42 (by decide +kernel)
theorem d_Tape_init_5 : decode b_Tape_init 5 = .ok (.sipush 160, 3) := dc_17 (a := 0) (b := 160) (by decide +kernel) rfl
theorem d_Tape_init_8 : decode b_Tape_init 8 = .ok (.newarray .byte, 2) := by decide +kernel
theorem d_Tape_init_10 : decode b_Tape_init 10 = .ok (.putfield 9, 3) := dc_181 (a := 0) (b := 9) (by decide +kernel) rfl
theorem d_Tape_init_13 : decode b_Tape_init 13 = .ok (.return_, 1) := dc_177 (by decide +kernel)
set_option maxRecDepth 100000 in
theorem k_Tape_init (D : va_G) (ca : Nat → ClassId) (a0 : Nat) : Cu y_Tape_init b_Tape_init 1 1 20 1 160 D ca [.ref a0] [(a0, .inr (8, [.null, .int 0, .int 0, .int 0, .int 0, .int 0]))] (fun w => ∃ (q1 : Nat), w = [(a0, .inr (8, [.ref q1, .int 0, .int 0, .int 0, .int 0, .int 0])), (q1, .inl (ca 1, 160, .inl (fun _ => 0)))]) := by
  refine cu_of R_Tape true [some (.ref a0)] rfl (fun _ => rfl) (by decide) rfl (Nat.le_of_ble_eq_true rfl) ?_
  refine U_aload_n 0 d_Tape_init_0 rfl rfl ?_
  refine U_obj wo_Tape_3 wo1 wo2 d_Tape_init_1 (by decide) (Nat.le_of_ble_eq_true rfl) ?_
  refine U_aload_n 0 d_Tape_init_4 rfl rfl ?_
  refine U_sipush 160 d_Tape_init_5 (by decide) ?_
  refine U_newB 160 (by decide) (by decide) wa_byte (by decide) d_Tape_init_8 (by decide) (by decide) (fun q1 => ?_)
  refine U_eq [(a0, .inr (8, [.null, .int 0, .int 0, .int 0, .int 0, .int 0])), (q1, .inl (ca 1, 160, .inl (fun _ => 0)))] rfl ?_
  refine U_putF (ty := t_Tape 0) t_Tape 0 rfl rfl i_Tape t_Tape_ok n_Tape (by decide) fl_Tape_9 rfl rfl rfl (t_Tape_ok 0 (by decide)) rfl rfl (Nat.le_of_ble_eq_true rfl) d_Tape_init_10 ?_
  refine U_eq [(a0, .inr (8, [.ref q1, .int 0, .int 0, .int 0, .int 0, .int 0])), (q1, .inl (ca 1, 160, .inl (fun _ => 0)))] rfl ?_
  exact U_vret d_Tape_init_13 ⟨q1, rfl⟩ rfl rfl
theorem d_Reader_init_0 : decode b_Reader_init 0 = .ok (.aload_n 0, 1) := dc_42 (by decide +kernel)
theorem d_Reader_init_1 : decode b_Reader_init 1 = .ok (.invokespecial 3, 3) := dc_183 (a := 0) (b := 3) (by decide +kernel) rfl
theorem d_Reader_init_4 : decode b_Reader_init 4 = .ok (.aload_n 0, 1) := dc_42 (by decide +kernel)
theorem d_Reader_init_5 : decode b_Reader_init 5 = .ok (.new 9, 3) := dc_187 (a := 0) (b := 9) (by decide +kernel) rfl
theorem d_Reader_init_8 : decode b_Reader_init 8 = .ok (.dup, 1) := dc_89 (by decide +kernel)
theorem d_Reader_init_9 : decode b_Reader_init 9 = .ok (.invokespecial 11, 3) := dc_183 (a := 0) (b := 11) (by decide +kernel) rfl
theorem d_Reader_init_12 : decode b_Reader_init 12 = .ok (.putfield 12, 3) := dc_181 (a := 0) (b := 12) (by decide +kernel) rfl
theorem d_Reader_init_15 : decode b_Reader_init 15 = .ok (.aload_n 0, 1) := dc_42 (by decide +kernel)
theorem d_Reader_init_16 : decode b_Reader_init 16 = .ok (.new 18, 3) := dc_187 (a := 0) (b := 18) (by decide +kernel) rfl
theorem d_Reader_init_19 : decode b_Reader_init 19 = .ok (.dup, 1) := dc_89 (by decide +kernel)
theorem d_Reader_init_20 : decode b_Reader_init 20 = .ok (.invokespecial 20, 3) := dc_183 (a := 0) (b := 20) (by decide +kernel) rfl
theorem d_Reader_init_23 : decode b_Reader_init 23 = .ok (.putfield 21, 3) := dc_181 (a := 0) (b := 21) (by decide +kernel) rfl
theorem d_Reader_init_26 : decode b_Reader_init 26 = .ok (.aload_n 0, 1) := dc_42 (by decide +kernel)
theorem d_Reader_init_27 : decode b_Reader_init 27 = .ok (.iconst 3, 1) := dc_6 (by decide +kernel)
theorem d_Reader_init_28 : decode b_Reader_init 28 = .ok (.newarray .int, 2) := by decide +kernel
theorem d_Reader_init_30 : decode b_Reader_init 30 = .ok (.putfield 25, 3) := dc_181 (a := 0) (b := 25) (by decide +kernel) rfl
theorem d_Reader_init_33 : decode b_Reader_init 33 = .ok (.aload_n 0, 1) := dc_42 (by decide +kernel)
theorem d_Reader_init_34 : decode b_Reader_init 34 = .ok (.bipush 10, 2) := dc_16 (a := 10) (by decide +kernel) rfl
theorem d_Reader_init_36 : decode b_Reader_init 36 = .ok (.newarray .int, 2) := by decide +kernel
theorem d_Reader_init_38 : decode b_Reader_init 38 = .ok (.putfield 29, 3) := dc_181 (a := 0) (b := 29) (by decide +kernel) rfl
theorem d_Reader_init_41 : decode b_Reader_init 41 = .ok (.return_, 1) := dc_177 (by decide +kernel)
set_option maxRecDepth 100000 in
theorem k_Reader_init (D : va_G) (ca : Nat → ClassId) (a0 : Nat) : Cu y_Reader_init b_Reader_init 1 4 83 21 343 D ca [.ref a0] [(a0, .inr (5, [.null, .null, .null, .null, .int 0, .int 0, .int 0]))] (fun w => ∃ (q1 : Nat) (q3 : Nat) (q20 : Nat) (q21 : Nat) (q2 : Nat) (q4 : Nat) (q5 : Nat) (q6 : Nat) (q7 : Nat) (q8 : Nat) (q9 : Nat) (q10 : Nat) (q11 : Nat) (q12 : Nat) (q13 : Nat) (q14 : Nat) (q15 : Nat) (q16 : Nat) (q17 : Nat) (q18 : Nat) (q19 : Nat), w = [(a0, .inr (5, [.ref q1, .ref q3, .ref q20, .ref q21, .int 0, .int 0, .int 0])), (q1, .inr (8, [.ref q2, .int 0, .int 0, .int 0, .int 0, .int 0])), (q2, .inl (ca 1, 160, .inl (fun _ => 0))), (q3, .inr (1, [.ref q4, .ref q5, .ref q6, .int 0, .int 9])), (q6, .inr (7, [.ref q7, .ref q8, .ref q9, .ref q10, .int 0])), (q7, .inl (ca 0, 8, .inl (fun _ => 0))), (q8, .inl (ca 0, 8, .inl (fun _ => 0))), (q9, .inl (ca 0, 8, .inl (fun _ => 0))), (q10, .inl (ca 0, 8, .inl (fun _ => 0))), (q4, .inr (2, [.int 3, .int 3, .int 1, .int 10, .ref q11, .ref q12, .ref q13, .ref q14, .ref q15])), (q11, .inl (ca 0, 16, .inl (fun _ => 0))), (q12, .inl (ca 0, 16, .inl (fun _ => 0))), (q13, .inl (ca 0, 16, .inl (fun _ => 5))), (q14, .inl (ca 0, 16, .inl (fun _ => (-4)))), (q15, .inl (ca 0, 16, .inl (fun _ => 0))), (q5, .inr (3, [.ref q16, .ref q17, .ref q18, .ref q19, .int 0])), (q17, .inl (ca 0, 8, .inl (fun _ => 0))), (q18, .inl (ca 0, 8, .inl (fun _ => 0))), (q19, .inl (ca 0, 8, .inl (fun _ => 0))), (q16, .inl (ca 0, 4, .inl (fun _ => 0))), (q20, .inl (ca 0, 3, .inl (fun _ => 0))), (q21, .inl (ca 0, 10, .inl (fun _ => 0)))]) := by
  refine cu_of R_Reader true [some (.ref a0)] rfl (fun _ => rfl) (by decide) rfl (Nat.le_of_ble_eq_true rfl) ?_
  refine U_aload_n 0 d_Reader_init_0 rfl rfl ?_
  refine U_obj wo_Reader_3 wo1 wo2 d_Reader_init_1 (by decide) (Nat.le_of_ble_eq_true rfl) ?_
  refine U_aload_n 0 d_Reader_init_4 rfl rfl ?_
  refine U_new (ci := 8) (fs := [.null, .int 0, .int 0, .int 0, .int 0, .int 0]) t_Tape rfl i_Tape t_Tape_ok wk_Reader_9 wi_Tape wn_Tape wd_Tape d_Reader_init_5 (by decide) (by decide) (fun q1 => ?_)
  refine U_eq [(a0, .inr (5, [.null, .null, .null, .null, .int 0, .int 0, .int 0])), (q1, .inr (8, [.null, .int 0, .int 0, .int 0, .int 0, .int 0]))] rfl ?_
  refine U_dup d_Reader_init_8 rfl ?_
  refine U_callI [(a0, .inr (5, [.null, .null, .null, .null, .int 0, .int 0, .int 0]))] [.ref q1, .ref a0] [1] [0] ck_Reader_11 rfl rfl (by decide) (by decide) (by decide) d_Reader_init_9 (Nat.le_of_ble_eq_true rfl) (by decide) (by decide) (by decide) (by decide) (k_Tape_init D ca q1) (fun w1 hw => ?_)
  obtain ⟨q2, rfl⟩ := hw
  refine U_eq [(a0, .inr (5, [.null, .null, .null, .null, .int 0, .int 0, .int 0])), (q1, .inr (8, [.ref q2, .int 0, .int 0, .int 0, .int 0, .int 0])), (q2, .inl (ca 1, 160, .inl (fun _ => 0)))] rfl ?_
  refine U_putF (ty := t_Reader 0) t_Reader 0 rfl rfl i_Reader t_Reader_ok n_Reader (by decide) fl_Reader_12 rfl rfl rfl (t_Reader_ok 0 (by decide)) rfl rfl (Nat.le_of_ble_eq_true rfl) d_Reader_init_12 ?_
  refine U_eq [(a0, .inr (5, [.ref q1, .null, .null, .null, .int 0, .int 0, .int 0])), (q1, .inr (8, [.ref q2, .int 0, .int 0, .int 0, .int 0, .int 0])), (q2, .inl (ca 1, 160, .inl (fun _ => 0)))] rfl ?_
  refine U_aload_n 0 d_Reader_init_15 rfl rfl ?_
  refine U_new (ci := 1) (fs := [.null, .null, .null, .int 0, .int 0]) t_County rfl i_County t_County_ok wk_Reader_18 wi_County wn_County wd_County d_Reader_init_16 (by decide) (by decide) (fun q3 => ?_)
  refine U_eq [(a0, .inr (5, [.ref q1, .null, .null, .null, .int 0, .int 0, .int 0])), (q1, .inr (8, [.ref q2, .int 0, .int 0, .int 0, .int 0, .int 0])), (q2, .inl (ca 1, 160, .inl (fun _ => 0))), (q3, .inr (1, [.null, .null, .null, .int 0, .int 0]))] rfl ?_
  refine U_dup d_Reader_init_19 rfl ?_
  refine U_callI [(a0, .inr (5, [.ref q1, .null, .null, .null, .int 0, .int 0, .int 0])), (q1, .inr (8, [.ref q2, .int 0, .int 0, .int 0, .int 0, .int 0])), (q2, .inl (ca 1, 160, .inl (fun _ => 0)))] [.ref q3, .ref a0] [3] [0, 1, 2] ck_Reader_20 rfl rfl (by decide) (by decide) (by decide) d_Reader_init_20 (Nat.le_of_ble_eq_true rfl) (by decide) (by decide) (by decide) (by decide) (k_County_init D ca q3) (fun w1 hw => ?_)
  obtain ⟨q4, q5, q6, q7, q8, q9, q10, q11, q12, q13, q14, q15, q16, q17, q18, q19, rfl⟩ := hw
  refine U_eq [(a0, .inr (5, [.ref q1, .null, .null, .null, .int 0, .int 0, .int 0])), (q1, .inr (8, [.ref q2, .int 0, .int 0, .int 0, .int 0, .int 0])), (q2, .inl (ca 1, 160, .inl (fun _ => 0))), (q3, .inr (1, [.ref q4, .ref q5, .ref q6, .int 0, .int 9])), (q6, .inr (7, [.ref q7, .ref q8, .ref q9, .ref q10, .int 0])), (q7, .inl (ca 0, 8, .inl (fun _ => 0))), (q8, .inl (ca 0, 8, .inl (fun _ => 0))), (q9, .inl (ca 0, 8, .inl (fun _ => 0))), (q10, .inl (ca 0, 8, .inl (fun _ => 0))), (q4, .inr (2, [.int 3, .int 3, .int 1, .int 10, .ref q11, .ref q12, .ref q13, .ref q14, .ref q15])), (q11, .inl (ca 0, 16, .inl (fun _ => 0))), (q12, .inl (ca 0, 16, .inl (fun _ => 0))), (q13, .inl (ca 0, 16, .inl (fun _ => 5))), (q14, .inl (ca 0, 16, .inl (fun _ => (-4)))), (q15, .inl (ca 0, 16, .inl (fun _ => 0))), (q5, .inr (3, [.ref q16, .ref q17, .ref q18, .ref q19, .int 0])), (q17, .inl (ca 0, 8, .inl (fun _ => 0))), (q18, .inl (ca 0, 8, .inl (fun _ => 0))), (q19, .inl (ca 0, 8, .inl (fun _ => 0))), (q16, .inl (ca 0, 4, .inl (fun _ => 0)))] rfl ?_
  refine U_putF (ty := t_Reader 1) t_Reader 0 rfl rfl i_Reader t_Reader_ok n_Reader (by decide) fl_Reader_21 rfl rfl rfl (t_Reader_ok 1 (by decide)) rfl rfl (Nat.le_of_ble_eq_true rfl) d_Reader_init_23 ?_
  refine U_eq [(a0, .inr (5, [.ref q1, .ref q3, .null, .null, .int 0, .int 0, .int 0])), (q1, .inr (8, [.ref q2, .int 0, .int 0, .int 0, .int 0, .int 0])), (q2, .inl (ca 1, 160, .inl (fun _ => 0))), (q3, .inr (1, [.ref q4, .ref q5, .ref q6, .int 0, .int 9])), (q6, .inr (7, [.ref q7, .ref q8, .ref q9, .ref q10, .int 0])), (q7, .inl (ca 0, 8, .inl (fun _ => 0))), (q8, .inl (ca 0, 8, .inl (fun _ => 0))), (q9, .inl (ca 0, 8, .inl (fun _ => 0))), (q10, .inl (ca 0, 8, .inl (fun _ => 0))), (q4, .inr (2, [.int 3, .int 3, .int 1, .int 10, .ref q11, .ref q12, .ref q13, .ref q14, .ref q15])), (q11, .inl (ca 0, 16, .inl (fun _ => 0))), (q12, .inl (ca 0, 16, .inl (fun _ => 0))), (q13, .inl (ca 0, 16, .inl (fun _ => 5))), (q14, .inl (ca 0, 16, .inl (fun _ => (-4)))), (q15, .inl (ca 0, 16, .inl (fun _ => 0))), (q5, .inr (3, [.ref q16, .ref q17, .ref q18, .ref q19, .int 0])), (q17, .inl (ca 0, 8, .inl (fun _ => 0))), (q18, .inl (ca 0, 8, .inl (fun _ => 0))), (q19, .inl (ca 0, 8, .inl (fun _ => 0))), (q16, .inl (ca 0, 4, .inl (fun _ => 0)))] rfl ?_
  refine U_aload_n 0 d_Reader_init_26 rfl rfl ?_
  refine U_iconst 3 d_Reader_init_27 (by decide) ?_
  refine U_newI 3 (by decide) (by decide) wa_int (by decide) d_Reader_init_28 (by decide) (by decide) (fun q20 => ?_)
  refine U_eq [(a0, .inr (5, [.ref q1, .ref q3, .null, .null, .int 0, .int 0, .int 0])), (q1, .inr (8, [.ref q2, .int 0, .int 0, .int 0, .int 0, .int 0])), (q2, .inl (ca 1, 160, .inl (fun _ => 0))), (q3, .inr (1, [.ref q4, .ref q5, .ref q6, .int 0, .int 9])), (q6, .inr (7, [.ref q7, .ref q8, .ref q9, .ref q10, .int 0])), (q7, .inl (ca 0, 8, .inl (fun _ => 0))), (q8, .inl (ca 0, 8, .inl (fun _ => 0))), (q9, .inl (ca 0, 8, .inl (fun _ => 0))), (q10, .inl (ca 0, 8, .inl (fun _ => 0))), (q4, .inr (2, [.int 3, .int 3, .int 1, .int 10, .ref q11, .ref q12, .ref q13, .ref q14, .ref q15])), (q11, .inl (ca 0, 16, .inl (fun _ => 0))), (q12, .inl (ca 0, 16, .inl (fun _ => 0))), (q13, .inl (ca 0, 16, .inl (fun _ => 5))), (q14, .inl (ca 0, 16, .inl (fun _ => (-4)))), (q15, .inl (ca 0, 16, .inl (fun _ => 0))), (q5, .inr (3, [.ref q16, .ref q17, .ref q18, .ref q19, .int 0])), (q17, .inl (ca 0, 8, .inl (fun _ => 0))), (q18, .inl (ca 0, 8, .inl (fun _ => 0))), (q19, .inl (ca 0, 8, .inl (fun _ => 0))), (q16, .inl (ca 0, 4, .inl (fun _ => 0))), (q20, .inl (ca 0, 3, .inl (fun _ => 0)))] rfl ?_
  refine U_putF (ty := t_Reader 2) t_Reader 0 rfl rfl i_Reader t_Reader_ok n_Reader (by decide) fl_Reader_25 rfl rfl rfl (t_Reader_ok 2 (by decide)) rfl rfl (Nat.le_of_ble_eq_true rfl) d_Reader_init_30 ?_
  refine U_eq [(a0, .inr (5, [.ref q1, .ref q3, .ref q20, .null, .int 0, .int 0, .int 0])), (q1, .inr (8, [.ref q2, .int 0, .int 0, .int 0, .int 0, .int 0])), (q2, .inl (ca 1, 160, .inl (fun _ => 0))), (q3, .inr (1, [.ref q4, .ref q5, .ref q6, .int 0, .int 9])), (q6, .inr (7, [.ref q7, .ref q8, .ref q9, .ref q10, .int 0])), (q7, .inl (ca 0, 8, .inl (fun _ => 0))), (q8, .inl (ca 0, 8, .inl (fun _ => 0))), (q9, .inl (ca 0, 8, .inl (fun _ => 0))), (q10, .inl (ca 0, 8, .inl (fun _ => 0))), (q4, .inr (2, [.int 3, .int 3, .int 1, .int 10, .ref q11, .ref q12, .ref q13, .ref q14, .ref q15])), (q11, .inl (ca 0, 16, .inl (fun _ => 0))), (q12, .inl (ca 0, 16, .inl (fun _ => 0))), (q13, .inl (ca 0, 16, .inl (fun _ => 5))), (q14, .inl (ca 0, 16, .inl (fun _ => (-4)))), (q15, .inl (ca 0, 16, .inl (fun _ => 0))), (q5, .inr (3, [.ref q16, .ref q17, .ref q18, .ref q19, .int 0])), (q17, .inl (ca 0, 8, .inl (fun _ => 0))), (q18, .inl (ca 0, 8, .inl (fun _ => 0))), (q19, .inl (ca 0, 8, .inl (fun _ => 0))), (q16, .inl (ca 0, 4, .inl (fun _ => 0))), (q20, .inl (ca 0, 3, .inl (fun _ => 0)))] rfl ?_
  refine U_aload_n 0 d_Reader_init_33 rfl rfl ?_
  refine U_bipush 10 d_Reader_init_34 (by decide) ?_
  refine U_newI 10 (by decide) (by decide) wa_int (by decide) d_Reader_init_36 (by decide) (by decide) (fun q21 => ?_)
  refine U_eq [(a0, .inr (5, [.ref q1, .ref q3, .ref q20, .null, .int 0, .int 0, .int 0])), (q1, .inr (8, [.ref q2, .int 0, .int 0, .int 0, .int 0, .int 0])), (q2, .inl (ca 1, 160, .inl (fun _ => 0))), (q3, .inr (1, [.ref q4, .ref q5, .ref q6, .int 0, .int 9])), (q6, .inr (7, [.ref q7, .ref q8, .ref q9, .ref q10, .int 0])), (q7, .inl (ca 0, 8, .inl (fun _ => 0))), (q8, .inl (ca 0, 8, .inl (fun _ => 0))), (q9, .inl (ca 0, 8, .inl (fun _ => 0))), (q10, .inl (ca 0, 8, .inl (fun _ => 0))), (q4, .inr (2, [.int 3, .int 3, .int 1, .int 10, .ref q11, .ref q12, .ref q13, .ref q14, .ref q15])), (q11, .inl (ca 0, 16, .inl (fun _ => 0))), (q12, .inl (ca 0, 16, .inl (fun _ => 0))), (q13, .inl (ca 0, 16, .inl (fun _ => 5))), (q14, .inl (ca 0, 16, .inl (fun _ => (-4)))), (q15, .inl (ca 0, 16, .inl (fun _ => 0))), (q5, .inr (3, [.ref q16, .ref q17, .ref q18, .ref q19, .int 0])), (q17, .inl (ca 0, 8, .inl (fun _ => 0))), (q18, .inl (ca 0, 8, .inl (fun _ => 0))), (q19, .inl (ca 0, 8, .inl (fun _ => 0))), (q16, .inl (ca 0, 4, .inl (fun _ => 0))), (q20, .inl (ca 0, 3, .inl (fun _ => 0))), (q21, .inl (ca 0, 10, .inl (fun _ => 0)))] rfl ?_
  refine U_putF (ty := t_Reader 3) t_Reader 0 rfl rfl i_Reader t_Reader_ok n_Reader (by decide) fl_Reader_29 rfl rfl rfl (t_Reader_ok 3 (by decide)) rfl rfl (Nat.le_of_ble_eq_true rfl) d_Reader_init_38 ?_
  refine U_eq [(a0, .inr (5, [.ref q1, .ref q3, .ref q20, .ref q21, .int 0, .int 0, .int 0])), (q1, .inr (8, [.ref q2, .int 0, .int 0, .int 0, .int 0, .int 0])), (q2, .inl (ca 1, 160, .inl (fun _ => 0))), (q3, .inr (1, [.ref q4, .ref q5, .ref q6, .int 0, .int 9])), (q6, .inr (7, [.ref q7, .ref q8, .ref q9, .ref q10, .int 0])), (q7, .inl (ca 0, 8, .inl (fun _ => 0))), (q8, .inl (ca 0, 8, .inl (fun _ => 0))), (q9, .inl (ca 0, 8, .inl (fun _ => 0))), (q10, .inl (ca 0, 8, .inl (fun _ => 0))), (q4, .inr (2, [.int 3, .int 3, .int 1, .int 10, .ref q11, .ref q12, .ref q13, .ref q14, .ref q15])), (q11, .inl (ca 0, 16, .inl (fun _ => 0))), (q12, .inl (ca 0, 16, .inl (fun _ => 0))), (q13, .inl (ca 0, 16, .inl (fun _ => 5))), (q14, .inl (ca 0, 16, .inl (fun _ => (-4)))), (q15, .inl (ca 0, 16, .inl (fun _ => 0))), (q5, .inr (3, [.ref q16, .ref q17, .ref q18, .ref q19, .int 0])), (q17, .inl (ca 0, 8, .inl (fun _ => 0))), (q18, .inl (ca 0, 8, .inl (fun _ => 0))), (q19, .inl (ca 0, 8, .inl (fun _ => 0))), (q16, .inl (ca 0, 4, .inl (fun _ => 0))), (q20, .inl (ca 0, 3, .inl (fun _ => 0))), (q21, .inl (ca 0, 10, .inl (fun _ => 0)))] rfl ?_
  exact U_vret d_Reader_init_41 ⟨q1, q3, q20, q21, q2, q4, q5, q6, q7, q8, q9, q10, q11, q12, q13, q14, q15, q16, q17, q18, q19, rfl⟩ rfl rfl
theorem d_Plans_init_0 : decode b_Plans_init 0 = .ok (.aload_n 0, 1) := dc_42 (by decide +kernel)
theorem d_Plans_init_1 : decode b_Plans_init 1 = .ok (.invokespecial 3, 3) := dc_183 (a := 0) (b := 3) (by decide +kernel) rfl
theorem d_Plans_init_4 : decode b_Plans_init 4 = .ok (.aload_n 0, 1) := dc_42 (by decide +kernel)
theorem d_Plans_init_5 : decode b_Plans_init 5 = .ok (.iconst 4, 1) := dc_7 (by decide +kernel)
theorem d_Plans_init_6 : decode b_Plans_init 6 = .ok (.newarray .int, 2) := by decide +kernel
theorem d_Plans_init_8 : decode b_Plans_init 8 = .ok (.putfield 9, 3) := dc_181 (a := 0) (b := 9) (by decide +kernel) rfl
theorem d_Plans_init_11 : decode b_Plans_init 11 = .ok (.return_, 1) := dc_177 (by decide +kernel)
set_option maxRecDepth 100000 in
theorem k_Plans_init (D : va_G) (ca : Nat → ClassId) (a0 : Nat) : Cu y_Plans_init b_Plans_init 1 1 20 1 4 D ca [.ref a0] [(a0, .inr (4, [.null, .int 0, .int 0]))] (fun w => ∃ (q1 : Nat), w = [(a0, .inr (4, [.ref q1, .int 0, .int 0])), (q1, .inl (ca 0, 4, .inl (fun _ => 0)))]) := by
  refine cu_of R_Plans true [some (.ref a0)] rfl (fun _ => rfl) (by decide) rfl (Nat.le_of_ble_eq_true rfl) ?_
  refine U_aload_n 0 d_Plans_init_0 rfl rfl ?_
  refine U_obj wo_Plans_3 wo1 wo2 d_Plans_init_1 (by decide) (Nat.le_of_ble_eq_true rfl) ?_
  refine U_aload_n 0 d_Plans_init_4 rfl rfl ?_
  refine U_iconst 4 d_Plans_init_5 (by decide) ?_
  refine U_newI 4 (by decide) (by decide) wa_int (by decide) d_Plans_init_6 (by decide) (by decide) (fun q1 => ?_)
  refine U_eq [(a0, .inr (4, [.null, .int 0, .int 0])), (q1, .inl (ca 0, 4, .inl (fun _ => 0)))] rfl ?_
  refine U_putF (ty := t_Plans 0) t_Plans 0 rfl rfl i_Plans t_Plans_ok n_Plans (by decide) fl_Plans_9 rfl rfl rfl (t_Plans_ok 0 (by decide)) rfl rfl (Nat.le_of_ble_eq_true rfl) d_Plans_init_8 ?_
  refine U_eq [(a0, .inr (4, [.ref q1, .int 0, .int 0])), (q1, .inl (ca 0, 4, .inl (fun _ => 0)))] rfl ?_
  exact U_vret d_Plans_init_11 ⟨q1, rfl⟩ rfl rfl
theorem d_Beds_init_0 : decode b_Beds_init 0 = .ok (.aload_n 0, 1) := dc_42 (by decide +kernel)
theorem d_Beds_init_1 : decode b_Beds_init 1 = .ok (.invokespecial 3, 3) := dc_183 (a := 0) (b := 3) (by decide +kernel) rfl
theorem d_Beds_init_4 : decode b_Beds_init 4 = .ok (.aload_n 0, 1) := dc_42 (by decide +kernel)
theorem d_Beds_init_5 : decode b_Beds_init 5 = .ok (.bipush 48, 2) := dc_16 (a := 48) (by decide +kernel) rfl
theorem d_Beds_init_7 : decode b_Beds_init 7 = .ok (.newarray .int, 2) := by decide +kernel
theorem d_Beds_init_9 : decode b_Beds_init 9 = .ok (.putfield 9, 3) := dc_181 (a := 0) (b := 9) (by decide +kernel) rfl
theorem d_Beds_init_12 : decode b_Beds_init 12 = .ok (.aload_n 0, 1) := dc_42 (by decide +kernel)
theorem d_Beds_init_13 : decode b_Beds_init 13 = .ok (.bipush 10, 2) := dc_16 (a := 10) (by decide +kernel) rfl
theorem d_Beds_init_15 : decode b_Beds_init 15 = .ok (.newarray .int, 2) := by decide +kernel
theorem d_Beds_init_17 : decode b_Beds_init 17 = .ok (.putfield 15, 3) := dc_181 (a := 0) (b := 15) (by decide +kernel) rfl
theorem d_Beds_init_20 : decode b_Beds_init 20 = .ok (.return_, 1) := dc_177 (by decide +kernel)
set_option maxRecDepth 100000 in
theorem k_Beds_init (D : va_G) (ca : Nat → ClassId) (a0 : Nat) : Cu y_Beds_init b_Beds_init 1 1 20 2 58 D ca [.ref a0] [(a0, .inr (0, [.null, .int 0, .null, .int 0, .int 0, .int 0, .int 0, .int 0]))] (fun w => ∃ (q1 : Nat) (q2 : Nat), w = [(a0, .inr (0, [.ref q1, .int 0, .ref q2, .int 0, .int 0, .int 0, .int 0, .int 0])), (q1, .inl (ca 0, 48, .inl (fun _ => 0))), (q2, .inl (ca 0, 10, .inl (fun _ => 0)))]) := by
  refine cu_of R_Beds true [some (.ref a0)] rfl (fun _ => rfl) (by decide) rfl (Nat.le_of_ble_eq_true rfl) ?_
  refine U_aload_n 0 d_Beds_init_0 rfl rfl ?_
  refine U_obj wo_Beds_3 wo1 wo2 d_Beds_init_1 (by decide) (Nat.le_of_ble_eq_true rfl) ?_
  refine U_aload_n 0 d_Beds_init_4 rfl rfl ?_
  refine U_bipush 48 d_Beds_init_5 (by decide) ?_
  refine U_newI 48 (by decide) (by decide) wa_int (by decide) d_Beds_init_7 (by decide) (by decide) (fun q1 => ?_)
  refine U_eq [(a0, .inr (0, [.null, .int 0, .null, .int 0, .int 0, .int 0, .int 0, .int 0])), (q1, .inl (ca 0, 48, .inl (fun _ => 0)))] rfl ?_
  refine U_putF (ty := t_Beds 0) t_Beds 0 rfl rfl i_Beds t_Beds_ok n_Beds (by decide) fl_Beds_9 rfl rfl rfl (t_Beds_ok 0 (by decide)) rfl rfl (Nat.le_of_ble_eq_true rfl) d_Beds_init_9 ?_
  refine U_eq [(a0, .inr (0, [.ref q1, .int 0, .null, .int 0, .int 0, .int 0, .int 0, .int 0])), (q1, .inl (ca 0, 48, .inl (fun _ => 0)))] rfl ?_
  refine U_aload_n 0 d_Beds_init_12 rfl rfl ?_
  refine U_bipush 10 d_Beds_init_13 (by decide) ?_
  refine U_newI 10 (by decide) (by decide) wa_int (by decide) d_Beds_init_15 (by decide) (by decide) (fun q2 => ?_)
  refine U_eq [(a0, .inr (0, [.ref q1, .int 0, .null, .int 0, .int 0, .int 0, .int 0, .int 0])), (q1, .inl (ca 0, 48, .inl (fun _ => 0))), (q2, .inl (ca 0, 10, .inl (fun _ => 0)))] rfl ?_
  refine U_putF (ty := t_Beds 2) t_Beds 0 rfl rfl i_Beds t_Beds_ok n_Beds (by decide) fl_Beds_15 rfl rfl rfl (t_Beds_ok 2 (by decide)) rfl rfl (Nat.le_of_ble_eq_true rfl) d_Beds_init_17 ?_
  refine U_eq [(a0, .inr (0, [.ref q1, .int 0, .ref q2, .int 0, .int 0, .int 0, .int 0, .int 0])), (q1, .inl (ca 0, 48, .inl (fun _ => 0))), (q2, .inl (ca 0, 10, .inl (fun _ => 0)))] rfl ?_
  exact U_vret d_Beds_init_20 ⟨q1, q2, rfl⟩ rfl rfl
theorem d_Sheet_init_0 : decode b_Sheet_init 0 = .ok (.aload_n 0, 1) := dc_42 (by decide +kernel)
theorem d_Sheet_init_1 : decode b_Sheet_init 1 = .ok (.invokespecial 3, 3) := dc_183 (a := 0) (b := 3) (by decide +kernel) rfl
theorem d_Sheet_init_4 : decode b_Sheet_init 4 = .ok (.aload_n 0, 1) := dc_42 (by decide +kernel)
theorem d_Sheet_init_5 : decode b_Sheet_init 5 = .ok (.bipush 40, 2) := dc_16 (a := 40) (by decide +kernel) rfl
theorem d_Sheet_init_7 : decode b_Sheet_init 7 = .ok (.newarray .int, 2) := by decide +kernel
theorem d_Sheet_init_9 : decode b_Sheet_init 9 = .ok (.putfield 9, 3) := dc_181 (a := 0) (b := 9) (by decide +kernel) rfl
theorem d_Sheet_init_12 : decode b_Sheet_init 12 = .ok (.aload_n 0, 1) := dc_42 (by decide +kernel)
theorem d_Sheet_init_13 : decode b_Sheet_init 13 = .ok (.iconst (-1), 1) := dc_2 (by decide +kernel)
theorem d_Sheet_init_14 : decode b_Sheet_init 14 = .ok (.putfield 15, 3) := dc_181 (a := 0) (b := 15) (by decide +kernel) rfl
theorem d_Sheet_init_17 : decode b_Sheet_init 17 = .ok (.return_, 1) := dc_177 (by decide +kernel)
set_option maxRecDepth 100000 in
theorem k_Sheet_init (D : va_G) (ca : Nat → ClassId) (a0 : Nat) : Cu y_Sheet_init b_Sheet_init 1 1 20 1 40 D ca [.ref a0] [(a0, .inr (6, [.null, .int 0, .int 0]))] (fun w => ∃ (q1 : Nat), w = [(a0, .inr (6, [.ref q1, .int (-1), .int 0])), (q1, .inl (ca 0, 40, .inl (fun _ => 0)))]) := by
  refine cu_of R_Sheet true [some (.ref a0)] rfl (fun _ => rfl) (by decide) rfl (Nat.le_of_ble_eq_true rfl) ?_
  refine U_aload_n 0 d_Sheet_init_0 rfl rfl ?_
  refine U_obj wo_Sheet_3 wo1 wo2 d_Sheet_init_1 (by decide) (Nat.le_of_ble_eq_true rfl) ?_
  refine U_aload_n 0 d_Sheet_init_4 rfl rfl ?_
  refine U_bipush 40 d_Sheet_init_5 (by decide) ?_
  refine U_newI 40 (by decide) (by decide) wa_int (by decide) d_Sheet_init_7 (by decide) (by decide) (fun q1 => ?_)
  refine U_eq [(a0, .inr (6, [.null, .int 0, .int 0])), (q1, .inl (ca 0, 40, .inl (fun _ => 0)))] rfl ?_
  refine U_putF (ty := t_Sheet 0) t_Sheet 0 rfl rfl i_Sheet t_Sheet_ok n_Sheet (by decide) fl_Sheet_9 rfl rfl rfl (t_Sheet_ok 0 (by decide)) rfl rfl (Nat.le_of_ble_eq_true rfl) d_Sheet_init_9 ?_
  refine U_eq [(a0, .inr (6, [.ref q1, .int 0, .int 0])), (q1, .inl (ca 0, 40, .inl (fun _ => 0)))] rfl ?_
  refine U_aload_n 0 d_Sheet_init_12 rfl rfl ?_
  refine U_iconst (-1) d_Sheet_init_13 (by decide) ?_
  refine U_putI t_Sheet 0 rfl rfl i_Sheet t_Sheet_ok n_Sheet (by decide) fl_Sheet_15 rfl (t_Sheet_ok 1 (by decide)) (Nat.le_of_ble_eq_true rfl) d_Sheet_init_14 ?_
  refine U_eq [(a0, .inr (6, [.ref q1, .int (-1), .int 0])), (q1, .inl (ca 0, 40, .inl (fun _ => 0)))] rfl ?_
  exact U_vret d_Sheet_init_17 ⟨q1, rfl⟩ rfl rfl
theorem d_Walks_init_0 : decode b_Walks_init 0 = .ok (.aload_n 0, 1) := dc_42 (by decide +kernel)
theorem d_Walks_init_1 : decode b_Walks_init 1 = .ok (.invokespecial 3, 3) := dc_183 (a := 0) (b := 3) (by decide +kernel) rfl
theorem d_Walks_init_4 : decode b_Walks_init 4 = .ok (.aload_n 0, 1) := dc_42 (by decide +kernel)
theorem d_Walks_init_5 : decode b_Walks_init 5 = .ok (.bipush 6, 2) := dc_16 (a := 6) (by decide +kernel) rfl
theorem d_Walks_init_7 : decode b_Walks_init 7 = .ok (.bipush 16, 2) := dc_16 (a := 16) (by decide +kernel) rfl
theorem d_Walks_init_9 : decode b_Walks_init 9 = .ok (.multianewarray 9 2, 4) := by decide +kernel
theorem d_Walks_init_13 : decode b_Walks_init 13 = .ok (.putfield 11, 3) := dc_181 (a := 0) (b := 11) (by decide +kernel) rfl
theorem d_Walks_init_16 : decode b_Walks_init 16 = .ok (.aload_n 0, 1) := dc_42 (by decide +kernel)
theorem d_Walks_init_17 : decode b_Walks_init 17 = .ok (.bipush 6, 2) := dc_16 (a := 6) (by decide +kernel) rfl
theorem d_Walks_init_19 : decode b_Walks_init 19 = .ok (.newarray .int, 2) := by decide +kernel
theorem d_Walks_init_21 : decode b_Walks_init 21 = .ok (.putfield 16, 3) := dc_181 (a := 0) (b := 16) (by decide +kernel) rfl
theorem d_Walks_init_24 : decode b_Walks_init 24 = .ok (.return_, 1) := dc_177 (by decide +kernel)
set_option maxRecDepth 100000 in
theorem k_Walks_init (D : va_G) (ca : Nat → ClassId) (a0 : Nat) : Cu y_Walks_init b_Walks_init 1 1 20 8 108 D ca [.ref a0] [(a0, .inr (9, [.null, .null]))] (fun w => ∃ (q1 : Nat) (q3 : Nat) (r2 : Nat → Nat), w = [(a0, .inr (9, [.ref q1, .ref q3])), (q1, .inl (ca 5, 6, .inr (.inr (.inr (.inr (fun i => if i < 6 then some (r2 i) else none)))))), ((r2 0), .inl (ca 0, 16, .inl (fun _ => 0))), ((r2 1), .inl (ca 0, 16, .inl (fun _ => 0))), ((r2 2), .inl (ca 0, 16, .inl (fun _ => 0))), ((r2 3), .inl (ca 0, 16, .inl (fun _ => 0))), ((r2 4), .inl (ca 0, 16, .inl (fun _ => 0))), ((r2 5), .inl (ca 0, 16, .inl (fun _ => 0))), (q3, .inl (ca 0, 6, .inl (fun _ => 0)))]) := by
  refine cu_of R_Walks true [some (.ref a0)] rfl (fun _ => rfl) (by decide) rfl (Nat.le_of_ble_eq_true rfl) ?_
  refine U_aload_n 0 d_Walks_init_0 rfl rfl ?_
  refine U_obj wo_Walks_3 wo1 wo2 d_Walks_init_1 (by decide) (Nat.le_of_ble_eq_true rfl) ?_
  refine U_aload_n 0 d_Walks_init_4 rfl rfl ?_
  refine U_bipush 6 d_Walks_init_5 (by decide) ?_
  refine U_bipush 16 d_Walks_init_7 (by decide) ?_
  refine U_mna wk_Walks_9 wa_int d_Walks_init_9 (by decide) (by decide) (fun q1 r2 => ?_)
  refine U_eq [(a0, .inr (9, [.null, .null])), (q1, .inl (ca 5, 6, .inr (.inr (.inr (.inr (fun i => if i < 6 then some (r2 i) else none)))))), ((r2 0), .inl (ca 0, 16, .inl (fun _ => 0))), ((r2 1), .inl (ca 0, 16, .inl (fun _ => 0))), ((r2 2), .inl (ca 0, 16, .inl (fun _ => 0))), ((r2 3), .inl (ca 0, 16, .inl (fun _ => 0))), ((r2 4), .inl (ca 0, 16, .inl (fun _ => 0))), ((r2 5), .inl (ca 0, 16, .inl (fun _ => 0)))] rfl ?_
  refine U_putF (ty := t_Walks 0) t_Walks 0 rfl rfl i_Walks t_Walks_ok n_Walks (by decide) fl_Walks_11 rfl rfl rfl (t_Walks_ok 0 (by decide)) rfl rfl (Nat.le_of_ble_eq_true rfl) d_Walks_init_13 ?_
  refine U_eq [(a0, .inr (9, [.ref q1, .null])), (q1, .inl (ca 5, 6, .inr (.inr (.inr (.inr (fun i => if i < 6 then some (r2 i) else none)))))), ((r2 0), .inl (ca 0, 16, .inl (fun _ => 0))), ((r2 1), .inl (ca 0, 16, .inl (fun _ => 0))), ((r2 2), .inl (ca 0, 16, .inl (fun _ => 0))), ((r2 3), .inl (ca 0, 16, .inl (fun _ => 0))), ((r2 4), .inl (ca 0, 16, .inl (fun _ => 0))), ((r2 5), .inl (ca 0, 16, .inl (fun _ => 0)))] rfl ?_
  refine U_aload_n 0 d_Walks_init_16 rfl rfl ?_
  refine U_bipush 6 d_Walks_init_17 (by decide) ?_
  refine U_newI 6 (by decide) (by decide) wa_int (by decide) d_Walks_init_19 (by decide) (by decide) (fun q3 => ?_)
  refine U_eq [(a0, .inr (9, [.ref q1, .null])), (q1, .inl (ca 5, 6, .inr (.inr (.inr (.inr (fun i => if i < 6 then some (r2 i) else none)))))), ((r2 0), .inl (ca 0, 16, .inl (fun _ => 0))), ((r2 1), .inl (ca 0, 16, .inl (fun _ => 0))), ((r2 2), .inl (ca 0, 16, .inl (fun _ => 0))), ((r2 3), .inl (ca 0, 16, .inl (fun _ => 0))), ((r2 4), .inl (ca 0, 16, .inl (fun _ => 0))), ((r2 5), .inl (ca 0, 16, .inl (fun _ => 0))), (q3, .inl (ca 0, 6, .inl (fun _ => 0)))] rfl ?_
  refine U_putF (ty := t_Walks 1) t_Walks 0 rfl rfl i_Walks t_Walks_ok n_Walks (by decide) fl_Walks_16 rfl rfl rfl (t_Walks_ok 1 (by decide)) rfl rfl (Nat.le_of_ble_eq_true rfl) d_Walks_init_21 ?_
  refine U_eq [(a0, .inr (9, [.ref q1, .ref q3])), (q1, .inl (ca 5, 6, .inr (.inr (.inr (.inr (fun i => if i < 6 then some (r2 i) else none)))))), ((r2 0), .inl (ca 0, 16, .inl (fun _ => 0))), ((r2 1), .inl (ca 0, 16, .inl (fun _ => 0))), ((r2 2), .inl (ca 0, 16, .inl (fun _ => 0))), ((r2 3), .inl (ca 0, 16, .inl (fun _ => 0))), ((r2 4), .inl (ca 0, 16, .inl (fun _ => 0))), ((r2 5), .inl (ca 0, 16, .inl (fun _ => 0))), (q3, .inl (ca 0, 6, .inl (fun _ => 0)))] rfl ?_
  exact U_vret d_Walks_init_24 ⟨q1, q3, r2, rfl⟩ rfl rfl
end
