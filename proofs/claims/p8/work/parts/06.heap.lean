def FA (own : String) (idx ci i : Nat) : Prop := ∃ (C : String) (T : u_T) (N : Nat), classes[ci]? = some (C, T, N) ∧ (∀ w ∈ u_ws C T N, w ∈ vv_G) ∧ i < N ∧ Cond.fieldLink own idx (T i).1 (T i).2.1 (T i).2.2.1 ∈ vv_G
def FP (own : String) (idx ci i : Nat) (ty : FieldType) : Prop := ∃ (C : String) (T : u_T) (N : Nat) (t0 : Nat → FieldType), classes[ci]? = some (C, T, N) ∧ (∀ w ∈ u_ws C T N, w ∈ vv_G) ∧ i < N ∧ Cond.fieldLink own idx (T i).1 (T i).2.1 (T i).2.2.1 ∈ vv_G ∧ (∀ k, k < N → parseFieldDescriptor (T k).2.2.1 = some (t0 k)) ∧ (∀ a, a < N → ∀ b, b < N → a ≠ b → (T a).2.1 ≠ (T b).2.1) ∧ (T i).2.2.2 = false ∧ parseFieldDescriptor (T i).2.2.1 = some ty
section VH
variable {own : String} {cc : ByteArray} {nL : Nat} {ret : Option FieldType} {F L : Nat} {post : Option Value → Hp → Prop} {h : Hp} {pc : Nat} {ls : Pl} {st : List Value}
theorem V_get {idx ci i k : Nat} {ss : List Sl} {sl : Sl} (fa : FA own idx ci i) (hs : vv_sk[k]? = some (.inr (ci, ss))) (hi : ss[i]? = some sl) (d : decode cc pc = .ok (.getfield idx, 3)) (kk : V own cc nL ret F L post h (pc + 3) ls (slP h k i sl :: st)) : V own cc nL ret F L post h pc ls (.ref k :: st) := fun p l e s m args below meth c X A H locs lsA C hP hS hl => by
  obtain ⟨Cn, T, N, f1, f2, f3, f4⟩ := fa
  refine va_get (D := X.1) (ci := ci) (v := rv X.2.1 (slP h k i sl)) C.1 C.2.1 C.2.2.2.2.1 f2 C.2.2.2.1 C.2.2.2.2.2.2.2.1 hP k (wsX_get hs) f1 i f3 (C.2.2.2.2.1 _ f4) (fun _ q => q) ?_ d (kk p l e s m args below meth c X A H locs lsA C hP hS hl)
  rw [List.getElem?_mapIdx, hi]
  rfl
theorem V_getI {idx ci i k : Nat} {ss : List Sl} (fa : FA own idx ci i) (hs : vv_sk[k]? = some (.inr (ci, ss))) (hi : ss[i]? = some (.inr false)) (d : decode cc pc = .ok (.getfield idx, 3)) (kk : V own cc nL ret F L post h (pc + 3) ls (.int (h.1 k i) :: st)) : V own cc nL ret F L post h pc ls (.ref k :: st) := V_get fa hs hi d kk
theorem V_getR {idx ci i k r : Nat} {ss : List Sl} (fa : FA own idx ci i) (hs : vv_sk[k]? = some (.inr (ci, ss))) (hi : ss[i]? = some (.inl r)) (d : decode cc pc = .ok (.getfield idx, 3)) (kk : V own cc nL ret F L post h (pc + 3) ls (.ref r :: st)) : V own cc nL ret F L post h pc ls (.ref k :: st) := V_get fa hs hi d kk
theorem V_getL {idx ci i k : Nat} {ss : List Sl} (fa : FA own idx ci i) (hs : vv_sk[k]? = some (.inr (ci, ss))) (hi : ss[i]? = some (.inr true)) (d : decode cc pc = .ok (.getfield idx, 3)) (kk : V own cc nL ret F L post h (pc + 3) ls (.long h.2 :: st)) : V own cc nL ret F L post h pc ls (.ref k :: st) := V_get fa hs hi d kk
theorem V_putI {idx ci i k : Nat} {ss : List Sl} {x : Int32} (fp : FP own idx ci i .int) (hs : vv_sk[k]? = some (.inr (ci, ss))) (hi : ss[i]? = some (.inr false)) (d : decode cc pc = .ok (.putfield idx, 3)) (kk : V own cc nL ret F L post (pI h k i x) (pc + 3) ls st) : V own cc nL ret F L post h pc ls (.int x :: .ref k :: st) := fun p l e s m args below meth c X A H locs lsA C hP hS hl => by
  obtain ⟨Cn, T, N, t0, f1, f2, f3, f4, f5, f6, f7, f8⟩ := fp
  refine va_put (D := X.1) (ci := ci) (v := .int x) (ty := .int) C.1 C.2.1 C.2.2.2.2.1 f2 t0 f5 f6 C.2.2.2.1 C.2.2.2.2.2.2.2.1 hP (C.2.2.2.2.2.2.2.2.1.D h) hS k (wsX_get hs) f1 i f3 (C.2.2.2.2.1 _ f4) (fun _ q => q) f7 f8 rfl rfl ?_ d (fun H1 locs1 hP1 _ hS1 => ?_)
  · rw [List.length_mapIdx]
    exact (List.getElem?_eq_some_iff.mp hi).1
  · rw [wsX_fld hs hi] at hP1
    exact kk p l e s m args below meth c X A H1 locs1 lsA C hP1 hS1 hl
theorem V_putL {idx ci : Nat} {ss : List Sl} {x : Int64} (fp : FP own idx ci 26 .long) (hs : vv_sk[116]? = some (.inr (ci, ss))) (hi : ss[26]? = some (.inr true)) (ho : ∀ j : Nat, j ≠ 26 → ss[j]? ≠ some (.inr true)) (d : decode cc pc = .ok (.putfield idx, 3)) (kk : V own cc nL ret F L post (pL h x) (pc + 3) ls st) : V own cc nL ret F L post h pc ls (.long x :: .ref 116 :: st) := fun p l e s m args below meth c X A H locs lsA C hP hS hl => by
  obtain ⟨Cn, T, N, t0, f1, f2, f3, f4, f5, f6, f7, f8⟩ := fp
  refine va_put (D := X.1) (ci := ci) (v := .long x) (ty := .long) C.1 C.2.1 C.2.2.2.2.1 f2 t0 f5 f6 C.2.2.2.1 C.2.2.2.2.2.2.2.1 hP (C.2.2.2.2.2.2.2.2.1.D h) hS 116 (wsX_get hs) f1 26 f3 (C.2.2.2.2.1 _ f4) (fun _ q => q) f7 f8 rfl rfl ?_ d (fun H1 locs1 hP1 _ hS1 => ?_)
  · rw [List.length_mapIdx]
    exact (List.getElem?_eq_some_iff.mp hi).1
  · rw [wsX_long hs hi ho] at hP1
    exact kk p l e s m args below meth c X A H1 locs1 lsA C hP1 hS1 hl
theorem V_iald {k n : Nat} {i : Int32} {I : Int} (hs : vv_sk[k]? = some (vv_ar n)) (ha : i.toInt = I) (hin : 0 ≤ I ∧ I < n) (d : decode cc pc = .ok (.iaload, 1)) (kk : ∀ z : Int32, z = h.1 k I.toNat → V own cc nL ret F L post h (pc + 1) ls (.int z :: st)) : V own cc nL ret F L post h pc ls (.int i :: .ref k :: st) := fun p l e s m args below meth c X A H locs lsA C hP hS hl => by
  refine va_iald (D := X.1) C.1 C.2.1 C.2.2.2.2.2.2.2.1 hP k 0 (wsX_get hs) rfl (vp_in_of_ti ha hin) d ?_
  rw [ti_cl, ha]
  exact kk _ rfl p l e s m args below meth c X A H locs lsA C hP hS hl
theorem V_iast {k n : Nat} {i x : Int32} {I : Int} (hs : vv_sk[k]? = some (vv_ar n)) (ha : i.toInt = I) (hin : 0 ≤ I ∧ I < n) (d : decode cc pc = .ok (.iastore, 1)) (kk : V own cc nL ret F L post (pI h k I.toNat x) (pc + 1) ls st) : V own cc nL ret F L post h pc ls (.int x :: .int i :: .ref k :: st) := fun p l e s m args below meth c X A H locs lsA C hP hS hl => by
  refine va_iast (D := X.1) C.1 C.2.1 C.2.2.2.2.2.2.2.1 hP (C.2.2.2.2.2.2.2.2.1.D h) hS k 0 (wsX_get hs) rfl (vp_in_of_ti ha hin) d (fun H1 locs1 hP1 _ hS1 => ?_)
  rw [wsX_row hs, ti_cl, ha] at hP1
  exact kk p l e s m args below meth c X A H1 locs1 lsA C hP1 hS1 hl
theorem V_bald {k n : Nat} {i : Int32} {I : Int} (hs : vv_sk[k]? = some (.inl (1, n, none))) (ha : i.toInt = I) (hin : 0 ≤ I ∧ I < n) (d : decode cc pc = .ok (.baload, 1)) (kk : ∀ z : Int32, z = h.1 k I.toNat → V own cc nL ret F L post h (pc + 1) ls (.int z :: st)) : V own cc nL ret F L post h pc ls (.int i :: .ref k :: st) := fun p l e s m args below meth c X A H locs lsA C hP hS hl => by
  refine va_bald (D := X.1) C.1 C.2.1 C.2.2.2.2.2.2.2.1 hP k 1 (wsX_get hs) rfl (vp_in_of_ti ha hin) d ?_
  rw [ti_cl, ha]
  exact kk _ rfl p l e s m args below meth c X A H locs lsA C hP hS hl
theorem V_bast {k n : Nat} {i x : Int32} {I : Int} (hs : vv_sk[k]? = some (.inl (1, n, none))) (ha : i.toInt = I) (hin : 0 ≤ I ∧ I < n) (d : decode cc pc = .ok (.bastore, 1)) (kk : V own cc nL ret F L post (pI h k I.toNat (vp_nar .byte x)) (pc + 1) ls st) : V own cc nL ret F L post h pc ls (.int x :: .int i :: .ref k :: st) := fun p l e s m args below meth c X A H locs lsA C hP hS hl => by
  refine va_bast (D := X.1) C.1 C.2.1 C.2.2.2.2.2.2.2.1 hP (C.2.2.2.2.2.2.2.2.1.D h) hS k 1 (wsX_get hs) rfl (vp_in_of_ti ha hin) d (fun H1 locs1 hP1 _ hS1 => ?_)
  rw [wsX_row hs, ti_cl, ha] at hP1
  exact kk p l e s m args below meth c X A H1 locs1 lsA C hP1 hS1 hl
theorem V_zald {k n : Nat} {i : Int32} {I : Int} (hs : vv_sk[k]? = some (.inl (2, n, none))) (ha : i.toInt = I) (hin : 0 ≤ I ∧ I < n) (d : decode cc pc = .ok (.baload, 1)) (kk : ∀ z : Int32, z = h.1 k I.toNat → V own cc nL ret F L post h (pc + 1) ls (.int z :: st)) : V own cc nL ret F L post h pc ls (.int i :: .ref k :: st) := fun p l e s m args below meth c X A H locs lsA C hP hS hl => by
  refine va_zald (D := X.1) C.1 C.2.1 C.2.2.2.2.2.2.2.1 hP k 2 (wsX_get hs) rfl (vp_in_of_ti ha hin) d ?_
  rw [ti_cl, ha]
  exact kk _ rfl p l e s m args below meth c X A H locs lsA C hP hS hl
theorem V_zast {k n : Nat} {i x : Int32} {I : Int} (hs : vv_sk[k]? = some (.inl (2, n, none))) (ha : i.toInt = I) (hin : 0 ≤ I ∧ I < n) (d : decode cc pc = .ok (.bastore, 1)) (kk : V own cc nL ret F L post (pI h k I.toNat (vp_nar .boolean x)) (pc + 1) ls st) : V own cc nL ret F L post h pc ls (.int x :: .int i :: .ref k :: st) := fun p l e s m args below meth c X A H locs lsA C hP hS hl => by
  refine va_zast (D := X.1) C.1 C.2.1 C.2.2.2.2.2.2.2.1 hP (C.2.2.2.2.2.2.2.2.1.D h) hS k 2 (wsX_get hs) rfl (vp_in_of_ti ha hin) d (fun H1 locs1 hP1 _ hS1 => ?_)
  rw [wsX_row hs, ti_cl, ha] at hP1
  exact kk p l e s m args below meth c X A H1 locs1 lsA C hP1 hS1 hl
theorem V_aald {k n t r : Nat} {fl : List Nat} {i : Int32} {I : Int} (hs : vv_sk[k]? = some (.inl (t, n, some fl))) (ht : t = 3 ∨ t = 4 ∨ t = 5) (ha : i.toInt = I) (hin : 0 ≤ I ∧ I < n) (hr : fl[I.toNat]? = some r) (d : decode cc pc = .ok (.aaload, 1)) (kk : V own cc nL ret F L post h (pc + 1) ls (.ref r :: st)) : V own cc nL ret F L post h pc ls (.int i :: .ref k :: st) := fun p l e s m args below meth c X A H locs lsA C hP hS hl => by
  have hvi := vp_in_of_ti ha hin
  have hlt : i.toNatClampNeg < n := Nat.not_le.mp fun q => hvi (Or.inr q)
  have hv : va_rf ((fun j => (fl[j]?).map X.2.1) i.toNatClampNeg) = rv X.2.1 (.ref r) := by
    show va_rf ((fl[i.toNatClampNeg]?).map X.2.1) = _
    rw [ti_cl, ha, hr]
    rfl
  have hk := kk p l e s m args below meth c X A H locs lsA C hP hS hl
  have hcell := hP k _ (wsX_get hs)
  have hK := C.2.2.2.2.2.2.2.1
  have hw : ∀ ty : FieldType, ty.isReference = true → (tysX X)[t]? = some (X.2.2 t, ty) → W p l e (rmOf F L) s m args below meth c H locs 0 0 (MQ below (QcOf X A post) args s 0 0 A) (F0 m pc lsA ((.int i :: .ref k :: st).map (rv X.2.1))) := fun ty hty htt =>
    W.aald (v := rv X.2.1 (.ref r)) (ty := ty) C.1 C.2.1 hcell ((hK.2 t _ htt).1 n (fun j => va_rf ((fl[j]?).map X.2.1))) hty (fun q => by cases q) (by show ¬ (i < 0 ∨ (arrV _ _ _).slots.size ≤ _); rw [arrV_size]; exact hvi) (by show (arrV _ _ _).slots[_]? = _; rw [arrV_read _ _ hlt]; exact congrArg some hv) rfl rfl d hk
  rcases ht with rfl | rfl | rfl
  · exact hw (.object "RodOwes$County") rfl rfl
  · exact hw (.object "RodOwes$Sheet") rfl rfl
  · exact hw (.array .int) rfl rfl
theorem V_alen {k n t : Nat} {o : Option (List Nat)} {v : Int32} (hs : vv_sk[k]? = some (.inl (t, n, o))) (ht : t < 6) (hv : Int32.ofNat n = v) (d : decode cc pc = .ok (.arraylength, 1)) (kk : V own cc nL ret F L post h (pc + 1) ls (.int v :: st)) : V own cc nL ret F L post h pc ls (.ref k :: st) := fun p l e s m args below meth c X A H locs lsA C hP hS hl => by
  have hk := kk p l e s m args below meth c X A H locs lsA C hP hS hl
  obtain ⟨ty, hty⟩ : ∃ ty, (tysX X)[t]? = some (X.2.2 t, ty) := by
    rcases (by (first | decide +kernel | omega) : t = 0 ∨ t = 1 ∨ t = 2 ∨ t = 3 ∨ t = 4 ∨ t = 5) with rfl | rfl | rfl | rfl | rfl | rfl <;> exact ⟨_, rfl⟩
  cases o with
  | none => exact va_alen (D := X.1) C.1 C.2.1 C.2.2.2.2.2.2.2.1 hP k t (wsX_get hs) hty hv d hk
  | some f => exact va_alen (D := X.1) C.1 C.2.1 C.2.2.2.2.2.2.2.1 hP k t (wsX_get hs) hty hv d hk
theorem V_iret {x : Int32} (hr : ret = some .int) (d : decode cc pc = .ok (.ireturn, 1)) (hp : post (some (.int x)) h) : V own cc nL ret F L post h pc ls [.int x] := fun p l e s m args below meth c X A H locs lsA C hP hS hl => by
  subst hr
  have hlocks : meth.locks = false := C.2.2.2.2.2.1
  exact W.iret (v := x) C.1 C.2.1 C.2.2.2.2.2.2.1 (fun t ht hW => ⟨⟨some (.int x), h, rfl, hp, by rw [ht]; exact hP⟩, hS.F ht⟩) hS.2.2 d
theorem V_lret {x : Int64} (hr : ret = some .long) (d : decode cc pc = .ok (.lreturn, 1)) (hp : post (some (.long x)) h) : V own cc nL ret F L post h pc ls [.long x] := fun p l e s m args below meth c X A H locs lsA C hP hS hl => by
  subst hr
  have hlocks : meth.locks = false := C.2.2.2.2.2.1
  exact W.lret (v := x) C.1 C.2.1 C.2.2.2.2.2.2.1 (fun t ht hW => ⟨⟨some (.long x), h, rfl, hp, by rw [ht]; exact hP⟩, hS.F ht⟩) hS.2.2 d
theorem V_vret (hr : ret = none) (d : decode cc pc = .ok (.return_, 1)) (hp : post none h) : V own cc nL ret F L post h pc ls [] := fun p l e s m args below meth c X A H locs lsA C hP hS hl => by
  subst hr
  have hlocks : meth.locks = false := C.2.2.2.2.2.1
  exact W.vret C.1 C.2.1 C.2.2.2.2.2.2.1 (fun t ht hW => ⟨⟨none, h, rfl, hp, by rw [ht]; exact hP⟩, hS.F ht⟩) hS.2.2 d
theorem V_nret {x : Int32} {ty : FieldType} (hr : ret = some ty) (hn : narrow ty (.int x) = .int x) (d : decode cc pc = .ok (.ireturn, 1)) (hp : post (some (.int x)) h) : V own cc nL ret F L post h pc ls [.int x] := fun p l e s m args below meth c X A H locs lsA C hP hS hl => by
  subst hr
  have hlocks : meth.locks = false := C.2.2.2.2.2.1
  exact W.zret (v := x) C.1 C.2.1 C.2.2.2.2.2.2.1 hn (fun t ht hW => ⟨⟨some (.int x), h, rfl, hp, by rw [ht]; exact hP⟩, hS.F ht⟩) hS.2.2 d
theorem V_zret {x : Int32} (hr : ret = some .boolean) (hx : x.toInt = 0 ∨ x.toInt = 1) (d : decode cc pc = .ok (.ireturn, 1)) (hp : post (some (.int x)) h) : V own cc nL ret F L post h pc ls [.int x] := by
  refine V_nret hr ?_ d hp
  rcases hx with q | q
  · rw [(ti_eq q ti_0).mpr rfl]; rfl
  · rw [(ti_eq (y := 1) q rfl).mpr rfl]; rfl
theorem V_aret {k : Nat} {C0 : String} (hr : ret = some (.object C0)) (d : decode cc pc = .ok (.areturn, 1)) (hp : post (some (.ref k)) h) : V own cc nL ret F L post h pc ls [.ref k] := fun p l e s m args below meth c X A H locs lsA C hP hS hl => by
  subst hr
  have hlocks : meth.locks = false := C.2.2.2.2.2.1
  exact W.aret (v := .ref (X.2.1 k)) C.1 C.2.1 C.2.2.2.2.2.2.1 (Or.inl ⟨_, rfl⟩) (Or.inr ⟨_, rfl⟩) (fun t ht hW => ⟨⟨some (.ref k), h, rfl, hp, by rw [ht]; exact hP⟩, hS.F ht⟩) hS.2.2 d
end VH
abbrev pInt (P : Int32 → Hp → Prop) : Option Value → Hp → Prop := fun r h => ∃ x : Int32, r = some (.int x) ∧ P x h
abbrev pLng (P : Int64 → Hp → Prop) : Option Value → Hp → Prop := fun r h => ∃ x : Int64, r = some (.long x) ∧ P x h
abbrev pRef (P : Nat → Hp → Prop) : Option Value → Hp → Prop := fun r h => ∃ x : Nat, r = some (.ref x) ∧ P x h
abbrev pVd (P : Hp → Prop) : Option Value → Hp → Prop := fun r h => r = none ∧ P h
def CB (y : MethodName) (cc' : ByteArray) (nL' : Nat) (ret' : Option FieldType) (n : Nat) : Prop := Cond.code y cc' nL' ret' ∈ vv_G ∧ (y.cls ≠ "java/lang/invoke/MethodHandle" ∧ y.cls ≠ "java/lang/invoke/VarHandle" ∧ (parseMethodDescriptor y.desc).map (fun d => d.parameters.length) = some n) ∧ Cond.initialized y.cls ∈ vv_G
def CV (own : String) (idx : Nat) (y : MethodName) (cc' : ByteArray) (nL' : Nat) (ret' : Option FieldType) (n : Nat) : Prop := CB y cc' nL' ret' n ∧ Cond.instanceMethod y ∈ vv_G ∧ Cond.selects y.cls y y ∈ vv_G ∧ Cond.methodLink own idx y ∈ vv_G
def CS (own : String) (idx : Nat) (y : MethodName) (cc' : ByteArray) (nL' : Nat) (ret' : Option FieldType) (n : Nat) : Prop := CB y cc' nL' ret' n ∧ Cond.static y ∈ vv_G ∧ (Cond.methodLink own idx y ∈ vv_G ∨ (own, idx, y) ∈ vv_nest)
theorem vv_good {w : Cond} (hw : w ∈ vv_G) : GoodIn vv_G (w :: vv_G) := fun x hx => (List.mem_cons.mp hx).elim (fun e => by rw [e]; exact vv_GG w hw) (fun h => vv_GG x h)
theorem vv_AA {X : Xc} {A : Nat → Prop} {sz : Nat} (hA : adOk X A) (hz : ∀ q : Nat, sz ≤ q → A q) : ∀ q : Nat, vv_A X sz q → A q := fun q hq => hq.elim (fun ⟨k, hk, e⟩ => by rw [e]; exact hA.2 k hk) (fun h => hz q h)
section VC
variable {own : String} {cc : ByteArray} {nL : Nat} {ret : Option FieldType} {F L : Nat} {post : Option Value → Hp → Prop} {h : Hp} {pc : Nat} {ls : Pl} {st : List Value}
variable {p : Program} {l : Launch} {e : Env} {s : State} {m : MethodId} {args : Array Value} {below : List Frame} {meth : Method} {c : Code} {X : Xc} {A : Nat → Prop} {H : Heap} {locs : List Loc} {lsA : Array Slot}
theorem vv_pre (C : Cx own cc nL ret p s m args meth c X A) (hP : va_P X.1 classes (wsX X h) H) (hS : va_S A s.heap H locs) (As : List Value) : FrameBlind (va_Pc (As.map (rv X.2.1)) (fun U => U.heap.size = H.size ∧ va_P X.1 classes (wsX X h) U.heap ∧ va_K X.1 classes (tysX X) U ∧ adOk X (vv_A X H.size) ∧ Ro X (vv_A X H.size) U U.heap)) ∧ ∀ U : State, U.heap = H → s.WarmedH U.vm → va_Pc (As.map (rv X.2.1)) (fun U => U.heap.size = H.size ∧ va_P X.1 classes (wsX X h) U.heap ∧ va_K X.1 classes (tysX X) U ∧ adOk X (vv_A X H.size) ∧ Ro X (vv_A X H.size) U U.heap) (As.map (rv X.2.1)).toArray U := by
  refine ⟨fun a U g mk q => ?_, fun U hU hW => ⟨rfl, ?_⟩⟩
  · obtain ⟨q0, q1, qP, qK, qA, qR⟩ := q
    exact ⟨q0, q1, qP, va_K.moved (u := U) (U := U.calling g mk a) (Vm.Alike.refl U.vm) qK, qA, Ro.blind g mk a qR⟩
  · have hA := C.2.2.2.2.2.2.2.2.1
    have hz := C.2.2.2.2.2.2.2.2.2.1
    refine ⟨by rw [hU], by rw [hU]; exact hP, va_K.moved hW.alike C.2.2.2.2.2.2.2.1, ⟨hA.1, fun k hk => Or.inl ⟨k, hk, rfl⟩⟩, ?_⟩
    rw [hU]
    exact Ro.to hW (fun a h1 h2 => hS.2.1 a h1 h2) (vv_AA hA (fun q hq => hz q (Nat.le_trans hS.1 hq))) C.2.2.2.2.2.2.2.2.2.2
theorem vv_after {st0 rest : List Value} {a : Array Value} {post' : Option Value → Hp → Prop} (hr : va_Run p l e (rmOf F L) s m args below meth c H locs 0 0 0 0 (F0 m pc lsA st0) (rest.map (rv X.2.1)) (QcOf X (vv_A X H.size) post' a) (vv_A X H.size)) (C : Cx own cc nL ret p s m args meth c X A) (hS : va_S A s.heap H locs) (hl : lh X.2.1 lsA nL ls)
    (kk : ∀ (r : Option Value) (h' : Hp), post' r h' → V own cc nL ret F L post h' (pc + 3) ls (r.toList ++ rest)) : W p l e (rmOf F L) s m args below meth c H locs 0 0 (MQ below (QcOf X A post) args s 0 0 A) (F0 m pc lsA st0) := by
  intro T hT Xs
  obtain ⟨v, st₀, t, T', L', h0, X', hL, e1, e2, ⟨⟨r, h', hv, hp, hb⟩, hz, hk⟩, stp⟩ := hr T hT Xs
  have hv' : v = r.map (rv X.2.1) := by injection hv
  subst hv'
  rw [h0] at hz hk
  have hAA := vv_AA C.2.2.2.2.2.2.2.2.1 (fun q (hq : H.size ≤ q) => C.2.2.2.2.2.2.2.2.2.1 q (Nat.le_trans hS.1 hq))
  have hS' : va_S A s.heap T'.heap (locs ++ L') := ⟨Nat.le_trans hS.1 (by rw [e1]; exact hz), fun q h1 h2 => by rw [e1, hk q (Nat.lt_of_lt_of_le h1 hS.1) (fun z => h2 (hAA q z))]; exact hS.2.1 q h1 h2, fun q hq => by
      rcases List.mem_append.mp hq with h | h
      · exact hS.2.2 q h
      · exact hAA _ (hL q h)⟩
  obtain ⟨t2, a1, b1⟩ := kk r h' hp p l e s m args below meth c X A T'.heap (locs ++ L') lsA C (by rw [e1]; exact hb) hS' hl T' rfl X'
  refine ⟨t2, stp t2 ?_, b1⟩
  have hst : ((r.toList ++ rest).map (rv X.2.1)) = (r.map (rv X.2.1)).toList ++ rest.map (rv X.2.1) := by cases r <;> simp
  rw [hst] at a1
  exact a1
theorem vv_room {rest : List Value} (ad : Nat → Nat) (hrm : (rest.map fun v => v.category).sum ≤ 8) : ((rest.map (rv ad)).map fun v => v.category).sum ≤ 8 := by
  rw [List.map_map]
  have : ((fun v : Value => v.category) ∘ rv ad) = fun v => v.category := by funext v; exact rv_cat ad v
  rw [this]
  exact hrm
end VC
section VD
variable {own : String} {cc : ByteArray} {nL : Nat} {ret : Option FieldType} {F L : Nat} {post : Option Value → Hp → Prop} {h : Hp} {pc : Nat} {ls : Pl} {st : List Value}
theorem V_callV {y : MethodName} {cc' : ByteArray} {nL' : Nat} {ret' : Option FieldType} {F' L' idx b ci : Nat} {ss : List Sl} {post' : Option Value → Hp → Prop} (As rest : List Value) (cv : CV own idx y cc' nL' ret' As.length) (hs : vv_sk[b]? = some (.inr (ci, ss))) (hcl : (classes[ci]?).map (fun q => q.1) = some y.cls) (d : decode cc pc = .ok (.invokevirtual idx, 3)) (hst : st = As.reverse ++ .ref b :: rest) (hrm : (rest.map fun v => v.category).sum ≤ 8) (hF : F' + 1 ≤ F) (hL : 8 + (nL' + 11) + L' ≤ L)
    (ct : Ct y cc' nL' ret' F' L' (.ref b :: As) h post') (kk : ∀ (r : Option Value) (h' : Hp), post' r h' → V own cc nL ret F L post h' (pc + 3) ls (r.toList ++ rest)) : V own cc nL ret F L post h pc ls st := fun p l e s m args below meth c X A H locs lsA C hP hS hl => by
  obtain ⟨⟨q1, q2, q3⟩, q4, q5, q6⟩ := cv
  obtain ⟨r, hr, hrc⟩ : ∃ r, classes[ci]? = some r ∧ r.1 = y.cls := by
    cases hz : classes[ci]? with
    | none => rw [hz] at hcl; cases hcl
    | some r => rw [hz] at hcl; exact ⟨r, rfl, Option.some.inj hcl⟩
  have hts := C.2.2.2.2.1
  obtain ⟨b1, b2⟩ := vv_pre C hP hS (.ref b :: As)
  have hrecv := va_recv C.2.2.2.2.2.2.2.1 hP hr (wsX_get hs)
  rw [hrc] at hrecv
  refine vv_after (rest := rest) (va_runV (Ts := vv_G) (As := As.map (rv X.2.1)) (b := X.2.1 b) (C := y.cls) (n := As.length) ⟨C.1, C.2.1, C.2.2.1, C.2.2.2.1, hts⟩ (ct l X H.size) ⟨callB_of As.length hts (vv_good q1) rfl rfl rfl (hts _ q3) (hts _ q6) q2 ⟨hF, hL⟩, hts _ q4, hts _ q5⟩ ⟨b1, hrecv, b2⟩ rfl (List.length_map _) hl.1 ?_ (lv_room (vv_room _ hrm)) d ⟨Nat.le_refl _, Nat.le_refl _⟩) C hS hl kk
  rw [hst]
  simp [rv]
theorem V_callS {y : MethodName} {cc' : ByteArray} {nL' : Nat} {ret' : Option FieldType} {F' L' idx : Nat} {post' : Option Value → Hp → Prop} (As rest : List Value) (cv : CS own idx y cc' nL' ret' As.length) (d : decode cc pc = .ok (.invokestatic idx, 3)) (hst : st = As.reverse ++ rest) (hrm : (rest.map fun v => v.category).sum ≤ 8) (hF : F' + 1 ≤ F) (hL : 8 + (nL' + 11) + L' ≤ L)
    (ct : Ct y cc' nL' ret' F' L' As h post') (kk : ∀ (r : Option Value) (h' : Hp), post' r h' → V own cc nL ret F L post h' (pc + 3) ls (r.toList ++ rest)) : V own cc nL ret F L post h pc ls st := fun p l e s m args below meth c X A H locs lsA C hP hS hl => by
  obtain ⟨⟨q1, q2, q3⟩, q4, q6⟩ := cv
  have hts := C.2.2.2.2.1
  obtain ⟨b1, b2⟩ := vv_pre C hP hS As
  have hst2 : (F0 m pc lsA (st.map (rv X.2.1))).stack = (As.map (rv X.2.1)).reverse ++ rest.map (rv X.2.1) := by
    rw [hst]; simp
  rcases q6 with q6 | q6
  · exact vv_after (rest := rest) (va_runS (Ts := vv_G) (As := As.map (rv X.2.1)) (n := As.length) ⟨C.1, C.2.1, C.2.2.1, C.2.2.2.1, hts⟩ (ct l X H.size) ⟨callB_of As.length hts (vv_good q1) rfl rfl rfl (hts _ q3) (hts _ q6) q2 ⟨hF, hL⟩, hts _ q4⟩ ⟨b1, b2⟩ rfl (List.length_map _) hl.1 hst2 (lv_room (vv_room _ hrm)) d ⟨Nat.le_refl _, Nat.le_refl _⟩) C hS hl kk
  · have hN := C.2.2.2.2.2.2.2.2.2.2.2.2.2.2.2.2.2 _ q6
    exact vv_after (rest := rest) (va_runSN (Ts := vv_G) (As := As.map (rv X.2.1)) (n := As.length) ⟨C.1, C.2.1, C.2.2.1, C.2.2.2.1, hts⟩ (ct l X H.size) ⟨va_cnB As.length hts (vv_good q1) rfl rfl rfl hN (hts _ q3) q2 ⟨hF, hL⟩, hts _ q4, trivial⟩ ⟨b1, b2⟩ rfl (List.length_map _) hl.1 hst2 (lv_room (vv_room _ hrm)) d ⟨Nat.le_refl _, Nat.le_refl _⟩) C hS hl kk
end VD
