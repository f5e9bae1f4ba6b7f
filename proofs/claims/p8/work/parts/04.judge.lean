def lh (ad : Nat → Nat) (lsA : Array Slot) (nL : Nat) (ls : Pl) : Prop := lsA.size = nL ∧ lv_wf lsA ∧ ∀ (i : Nat) (v : Value), ls[i]? = some (some v) → lsA[i]? = some (.val (rv ad v))
def rmOf (F L : Nat) : Room := { frames := F, cells := 0, slots := 0, locals := L }
def QcOf (X : Xc) (A : Nat → Prop) (post : Option Value → Hp → Prop) : Array Value → State → Outcome → State → Prop := fun _ st oc t => (∃ (r : Option Value) (h : Hp), oc = .returned (r.map (rv X.2.1)) ∧ post r h ∧ va_P X.1 classes (wsX X h) t.heap) ∧ va_F A st t
def Cx (own : String) (cc : ByteArray) (nL : Nat) (ret : Option FieldType) (p : Program) (s : State) (m : MethodId) (args : Array Value) (meth : Method) (c : Code) (X : Xc) (A : Nat → Prop) : Prop :=
  p.tables.exec = Jvm.exec ∧ c.code = cc ∧ c.maxLocals = nL ∧ s.vm.findClass own = some m.cls ∧ (∀ w ∈ vv_G, w.before args s = true) ∧ meth.locks = false ∧ meth.sig.returnType = ret ∧ va_K X.1 classes (tysX X) s ∧ adOk X A ∧ (∀ q : Nat, s.heap.size ≤ q → A q) ∧ Ro X A s s.heap
def V (own : String) (cc : ByteArray) (nL : Nat) (ret : Option FieldType) (F L : Nat) (post : Option Value → Hp → Prop) (h : Hp) (pc : Nat) (ls : Pl) (st : List Value) : Prop :=
  ∀ (p : Program) (l : Launch) (e : Env) (s : State) (m : MethodId) (args : Array Value) (below : List Frame) (meth : Method) (c : Code) (X : Xc) (A : Nat → Prop) (H : Heap) (locs : List Loc) (lsA : Array Slot),
    Cx own cc nL ret p s m args meth c X A → va_P X.1 classes (wsX X h) H → va_S A s.heap H locs → lh X.2.1 lsA nL ls →
    W p l e (rmOf F L) s m args below meth c H locs 0 0 (MQ below (QcOf X A post) args s 0 0 A) (F0 m pc lsA (st.map (rv X.2.1)))
/-- a method's contract at these arguments and this heap -/
def Ct (y : MethodName) (cc : ByteArray) (nL : Nat) (ret : Option FieldType) (F L : Nat) (As : List Value) (h : Hp) (post : Option Value → Hp → Prop) : Prop :=
  ∀ (l : Launch) (X : Xc) (sz : Nat), Met l y (.code y cc nL ret :: vv_G) (rmOf F L) (va_Pc (As.map (rv X.2.1)) (fun U => U.heap.size = sz ∧ va_P X.1 classes (wsX X h) U.heap ∧ va_K X.1 classes (tysX X) U ∧ adOk X (vv_A X sz) ∧ Ro X (vv_A X sz) U U.heap)) (QcOf X (vv_A X sz) post) 0 0 (vv_A X sz)
def argLs : List Value → Pl
  | [] => []
  | v :: vs => if v.category = 2 then some v :: none :: argLs vs else some v :: argLs vs
theorem argLs_in (ad : Nat → Nat) : ∀ (vs : List Value) (k i : Nat) (v : Value), (argLs vs)[i]? = some (some v) → (k + i, rv ad v) ∈ lv_args k (vs.map (rv ad)) := by
  intro vs
  induction vs with
  | nil => intro k i v h; cases h
  | cons w vs ih =>
    intro k i v h
    by_cases hc : w.category = 2
    · have e : argLs (w :: vs) = some w :: none :: argLs vs := by simp [argLs, hc]
      have e2 : lv_args k ((w :: vs).map (rv ad)) = (k, rv ad w) :: lv_args (k + 2) (vs.map (rv ad)) := by
        show (k, rv ad w) :: lv_args (if (rv ad w).category = 2 then k + 2 else k + 1) (vs.map (rv ad)) = _
        rw [rv_cat, if_pos hc]
      rw [e] at h
      rw [e2]
      match i, h with
      | 0, h => cases h; exact List.mem_cons_self
      | i + 2, h => 
        have := ih (k + 2) i v h
        rw [show k + (i + 2) = k + 2 + i by (first | decide +kernel | omega)]
        exact List.mem_cons_of_mem _ this
    · have e : argLs (w :: vs) = some w :: argLs vs := by simp [argLs, hc]
      have e2 : lv_args k ((w :: vs).map (rv ad)) = (k, rv ad w) :: lv_args (k + 1) (vs.map (rv ad)) := by
        show (k, rv ad w) :: lv_args (if (rv ad w).category = 2 then k + 2 else k + 1) (vs.map (rv ad)) = _
        rw [rv_cat, if_neg hc]
      rw [e] at h
      rw [e2]
      match i, h with
      | 0, h => cases h; exact List.mem_cons_self
      | i + 1, h =>
        have := ih (k + 1) i v h
        rw [show k + (i + 1) = k + 1 + i by (first | decide +kernel | omega)]
        exact List.mem_cons_of_mem _ this
theorem argLs_len (ad : Nat → Nat) (vs : List Value) : (lg_sl (vs.map (rv ad))).length = (argLs vs).length := by
  induction vs with
  | nil => rfl
  | cons w vs ih =>
    have e : lg_sl ((w :: vs).map (rv ad)) = lg_sl [rv ad w] ++ lg_sl (vs.map (rv ad)) := by simp [lg_sl]
    rw [e, List.length_append, ih]
    by_cases hc : w.category = 2
    · have h1 : (lg_sl [rv ad w]).length = 2 := by simp [lg_sl, rv_cat, hc]
      have h2 : argLs (w :: vs) = some w :: none :: argLs vs := by simp [argLs, hc]
      rw [h1, h2, List.length_cons, List.length_cons]; omega
    · have h1 : (lg_sl [rv ad w]).length = 1 := by simp [lg_sl, rv_cat, hc]
      have h2 : argLs (w :: vs) = some w :: argLs vs := by simp [argLs, hc]
      rw [h1, h2, List.length_cons]; omega
/-- a contract out of a walk from the entry -/
theorem ct_of {y : MethodName} {cc : ByteArray} {nL : Nat} {ret : Option FieldType} {F L : Nat} {As : List Value} {h : Hp} {post : Option Value → Hp → Prop} (ls : Pl) (hy : plainName y.cls = true) (hls : argLs As ++ List.replicate (nL - (argLs As).length) none = ls) (hn : (argLs As).length ≤ nL)
    (hV : V y.cls cc nL ret F L post h 0 ls []) : Ct y cc nL ret F L As h post := by
  intro l X sz
  refine Met.ofW (cc := cc) (maxL := nL) (ret := ret) hy rfl ?_
  intro p e s m args below meth c s₁ B hml hv
  obtain ⟨rfl, hsz, hP, hK, hA, hRo⟩ := hv
  have hts := atoms_spec (ws := .code y cc nL ret :: vv_G) B.pre
  subst hsz
  have hl := lv_entry (As.map (rv X.2.1)) (n := nL) (by rw [argLs_len]; exact hn)
  rw [lg_entry_eq]
  refine hV p l e s m _ below meth c X (vv_A X s.heap.size) s.heap [] _ ⟨B.exec, B.bytes, hml, findClass_of_methodNamed B.named, fun w hw => hts w (List.mem_cons_of_mem _ hw), B.notSynchronized, B.returns, hK, hA, fun q hq => Or.inr hq, hRo⟩ hP va_S.rf ⟨hl.1, hl.2.1, fun i v hi => ?_⟩
  rw [← hls] at hi
  by_cases hlt : i < (argLs As).length
  · rw [List.getElem?_append_left hlt] at hi
    have := hl.2.2 (i, rv X.2.1 v) (by have := argLs_in X.2.1 As 0 i v hi; rwa [Nat.zero_add] at this)
    exact this
  · rw [List.getElem?_append_right (by (first | decide +kernel | omega))] at hi
    have := List.eq_of_mem_replicate (List.mem_of_getElem? hi)
    cases this
theorem Ct.mono {y : MethodName} {cc : ByteArray} {nL : Nat} {ret : Option FieldType} {F L : Nat} {As : List Value} {h : Hp} {post post' : Option Value → Hp → Prop} (hc : Ct y cc nL ret F L As h post) (hp : ∀ r h', post r h' → post' r h') : Ct y cc nL ret F L As h post' := by
  intro l X sz p e ha hcx hk s m args below hf happ hpre hPc
  obtain ⟨t, o, a1, a2, a3, ⟨⟨⟨r, h', b1, b2, b3⟩, b4⟩, b5⟩⟩ := hc l X sz p e ha hcx hk s m args below hf happ hpre hPc
  exact ⟨t, o, a1, a2, a3, ⟨⟨⟨r, h', b1, hp r h' b2, b3⟩, b4⟩, b5⟩⟩
