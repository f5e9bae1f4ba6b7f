def tysC (ca : Nat → ClassId) : List (ClassId × FieldType) := [(ca 0, .int), (ca 1, .byte), (ca 2, .boolean), (ca 3, .object "RodOwes$County"), (ca 4, .object "RodOwes$Sheet"), (ca 5, .array .int)]
def kNest : List (String × Nat × MethodName) := [(R_Rod, 29, y_Reader_init), (R_Rod, 41, y_Walks_init), (R_Rod, 48, y_Plans_init), (R_Rod, 55, y_Beds_init), (R_Rod, 66, y_Sheet_init), (R_County, 11, y_Land_init), (R_County, 20, y_Ledger_init), (R_County, 27, y_Sights_init), (R_Reader, 11, y_Tape_init)]
def Kw (U : State) : Prop := (∀ q ∈ kNest, va_Nw (.methodLinkNest q.1 q.2.1 q.2.2 R_Rod) U) ∧ va_AO "RodOwes$County" U ∧ va_AO "RodOwes$Sheet" U ∧ va_AOA .int U
theorem Kw.to {s U : State} (hW : s.WarmedH U.vm) (h : Kw s) : Kw U := ⟨fun q hm => va_Nw.warmM hW (h.1 q hm), h.2.1.moved hW.alike, h.2.2.1.moved hW.alike, h.2.2.2.moved hW.alike⟩
theorem Kw.blind {U : State} (g : JFrame) (mk : MethodId) (a : Array Value) (h : Kw U) : Kw (U.calling g mk a) := ⟨fun q hm => va_Nw.same (u := U) rfl rfl (h.1 q hm), h.2.1.moved (Vm.Alike.refl U.vm), h.2.2.1.moved (Vm.Alike.refl U.vm), h.2.2.2.moved (Vm.Alike.refl U.vm)⟩
def rmC (F L C S : Nat) : Room := { frames := F, cells := C, slots := S, locals := L }
def Qu (D : va_G) (A : Nat → Prop) (post : va_W → Prop) : Array Value → State → Outcome → State → Prop := fun _ st oc t => (∃ ws : va_W, oc = .returned none ∧ post ws ∧ va_P D classes ws t.heap ∧ va_D A ws) ∧ va_F A st t
def Ku (own : String) (cc : ByteArray) (nL : Nat) (ini : Bool) (D : va_G) (ca : Nat → ClassId) (p : Program) (s : State) (m : MethodId) (args : Array Value) (meth : Method) (c : Code) (A : Nat → Prop) : Prop :=
  p.tables.exec = Jvm.exec ∧ c.code = cc ∧ c.maxLocals = nL ∧ s.vm.findClass own = some m.cls ∧ (∀ w ∈ vv_G, w.before args s = true) ∧ meth.locks = false ∧ meth.sig.returnType = none ∧ va_K D classes (tysC ca) s ∧ (∀ q : Nat, s.heap.size ≤ q → A q) ∧ (ini = true → meth.name = "<init>") ∧ Kw s
def U (own : String) (cc : ByteArray) (nL : Nat) (ini : Bool) (F L C S : Nat) (D : va_G) (ca : Nat → ClassId) (post : va_W → Prop) (ws : va_W) (cl sl pc : Nat) (ls : Pl) (st : List Value) : Prop :=
  ∀ (p : Program) (l : Launch) (e : Env) (s : State) (m : MethodId) (args : Array Value) (below : List Frame) (meth : Method) (c : Code) (A : Nat → Prop) (H : Heap) (locs : List Loc) (lsA : Array Slot),
    Ku own cc nL ini D ca p s m args meth c A → va_P D classes ws H → va_D A ws → va_S A s.heap H locs → lh (fun k => k) lsA nL ls →
    W p l e (rmC F L C S) s m args below meth c H locs cl sl (MQ below (Qu D A post) args s C S A) (F0 m pc lsA st)
def Cu (y : MethodName) (cc : ByteArray) (nL : Nat) (F L C S : Nat) (D : va_G) (ca : Nat → ClassId) (As : List Value) (ws : va_W) (post : va_W → Prop) : Prop :=
  ∀ (l : Launch) (sz : Nat), Met l y (.code y cc nL none :: vv_G) (rmC F L C S) (va_Pc As (fun U => U.heap.size = sz ∧ va_P D classes ws U.heap ∧ va_K D classes (tysC ca) U ∧ va_D (fun _ => True) ws ∧ Kw U)) (Qu D (va_A ws sz) post) C S (va_A ws sz)
theorem rv_id (v : Value) : rv (fun k => k) v = v := by cases v <;> rfl
theorem cu_of {y : MethodName} {cc : ByteArray} {nL F L C S : Nat} {D : va_G} {ca : Nat → ClassId} {As : List Value} {ws : va_W} {post : va_W → Prop} (own : String) (ini : Bool) (ls : Pl) (ho : y.cls = own) (hi : ini = true → y.name = "<init>") (hy : plainName y.cls = true) (hls : argLs As ++ List.replicate (nL - (argLs As).length) none = ls) (hn : (argLs As).length ≤ nL) (hV : U own cc nL ini F L C S D ca post ws 0 0 0 ls []) : Cu y cc nL F L C S D ca As ws post := by
  intro l sz
  refine Met.ofW (cc := cc) (maxL := nL) (ret := none) hy rfl ?_
  intro p e s m args below meth c s₁ B hml hv
  obtain ⟨rfl, hsz, hP, hK, hD, hKw⟩ := hv
  have hts := atoms_spec (ws := .code y cc nL none :: vv_G) B.pre
  subst hsz
  have hmap : As.map (rv (fun k => k)) = As := by
    rw [show (rv (fun k => k)) = id from funext rv_id]; simp
  have hl := lv_entry As (n := nL) (by have := argLs_len (fun k => k) As; rw [hmap] at this; rw [this]; exact hn)
  rw [lg_entry_eq]
  refine hV p l e s m _ below meth c (va_A ws s.heap.size) s.heap [] _ ⟨B.exec, B.bytes, hml, ho ▸ findClass_of_methodNamed B.named, fun w hw => hts w (List.mem_cons_of_mem _ hw), B.notSynchronized, B.returns, hK, fun q hq => Or.inr hq, fun q => ((name_of_methodNamed B.named B.method).1).trans (hi q), hKw⟩ hP hD.self va_S.rf ⟨hl.1, hl.2.1, fun i v hi => ?_⟩
  rw [← hls] at hi
  by_cases hlt : i < (argLs As).length
  · rw [List.getElem?_append_left hlt] at hi
    have h1 := argLs_in (fun k => k) As 0 i v hi
    rw [Nat.zero_add, hmap] at h1
    exact hl.2.2 (i, rv (fun k => k) v) h1
  · rw [List.getElem?_append_right (by (first | decide +kernel | omega))] at hi
    have := List.eq_of_mem_replicate (List.mem_of_getElem? hi)
    cases this
section UR
variable {own : String} {cc : ByteArray} {nL : Nat} {ini : Bool} {F L C S : Nat} {D : va_G} {ca : Nat → ClassId} {post : va_W → Prop} {ws : va_W} {cl sl pc : Nat} {ls : Pl} {st : List Value}
theorem U_iconst {n : Int} (v : Int32) (d : decode cc pc = .ok (.iconst n, 1)) (hv : Int32.ofInt n = v) (k : U own cc nL ini F L C S D ca post ws cl sl (pc + 1) ls (.int v :: st)) : U own cc nL ini F L C S D ca post ws cl sl pc ls st := fun p l e s m args below meth c A H locs lsA K hP hD hS hl => lv_iconst K.1 K.2.1 d hv (k p l e s m args below meth c A H locs lsA K hP hD hS hl)
theorem U_bipush {n : Int} (v : Int32) (d : decode cc pc = .ok (.bipush n, 2)) (hv : (Int8.ofInt n).toInt32 = v) (k : U own cc nL ini F L C S D ca post ws cl sl (pc + 2) ls (.int v :: st)) : U own cc nL ini F L C S D ca post ws cl sl pc ls st := fun p l e s m args below meth c A H locs lsA K hP hD hS hl => lv_bipush K.1 K.2.1 d hv (k p l e s m args below meth c A H locs lsA K hP hD hS hl)
theorem U_sipush {n : Int} (v : Int32) (d : decode cc pc = .ok (.sipush n, 3)) (hv : (Int16.ofInt n).toInt32 = v) (k : U own cc nL ini F L C S D ca post ws cl sl (pc + 3) ls (.int v :: st)) : U own cc nL ini F L C S D ca post ws cl sl pc ls st := fun p l e s m args below meth c A H locs lsA K hP hD hS hl => lv_sipush K.1 K.2.1 d hv (k p l e s m args below meth c A H locs lsA K hP hD hS hl)
theorem U_aload_n {n : Fin 4} (i : Nat) {x : Nat} (d : decode cc pc = .ok (.aload_n n, 1)) (hi : (n : Nat) = i) (hx : ls[i]? = some (some (.ref x))) (k : U own cc nL ini F L C S D ca post ws cl sl (pc + 1) ls (.ref x :: st)) : U own cc nL ini F L C S D ca post ws cl sl pc ls st := fun p l e s m args below meth c A H locs lsA K hP hD hS hl => lv_aload_n K.1 K.2.1 d hi (hl.2.2 i _ hx) (k p l e s m args below meth c A H locs lsA K hP hD hS hl)
theorem U_iload_n {n : Fin 4} (i : Nat) {x : Int32} (d : decode cc pc = .ok (.iload_n n, 1)) (hi : (n : Nat) = i) (hx : ls[i]? = some (some (.int x))) (k : U own cc nL ini F L C S D ca post ws cl sl (pc + 1) ls (.int x :: st)) : U own cc nL ini F L C S D ca post ws cl sl pc ls st := fun p l e s m args below meth c A H locs lsA K hP hD hS hl => lv_iload_n K.1 K.2.1 d hi (hl.2.2 i _ hx) (k p l e s m args below meth c A H locs lsA K hP hD hS hl)
theorem U_istore_n {n : Fin 4} (i : Nat) (ls1 : Pl) {x : Int32} (d : decode cc pc = .ok (.istore_n n, 1)) (hi : (n : Nat) = i) (hn : i < nL) (ho : okS ls i = true) (h1 : ls.set i (some (.int x)) = ls1) (k : U own cc nL ini F L C S D ca post ws cl sl (pc + 1) ls1 st) : U own cc nL ini F L C S D ca post ws cl sl pc ls (.int x :: st) := fun p l e s m args below meth c A H locs lsA K hP hD hS hl => lv_istore_n K.1 K.2.1 d hi (asc_has hl) hn rfl (fun lsB hB => k p l e s m args below meth c A H locs lsB K hP hD hS (lh_set1 rfl ho h1 hB))
theorem U_iinc {n : Int} (i : Nat) (ls1 : Pl) {x v : Int32} (d : decode cc pc = .ok (.iinc i n, 3)) (hx : ls[i]? = some (some (.int x))) (hv : x + Int32.ofInt n = v) (hn : i < nL) (ho : okS ls i = true) (h1 : ls.set i (some (.int v)) = ls1) (k : U own cc nL ini F L C S D ca post ws cl sl (pc + 3) ls1 st) : U own cc nL ini F L C S D ca post ws cl sl pc ls st := fun p l e s m args below meth c A H locs lsA K hP hD hS hl => by
  have hm : (i, Value.int x) ∈ asc (fun k => k) ls := asc_in (ad := fun k => k) hx
  obtain ⟨q, hq⟩ := List.getElem?_of_mem hm
  exact lv_iinc K.1 K.2.1 d (asc_has hl) hq hv hn rfl (fun lsB hB => k p l e s m args below meth c A H locs lsB K hP hD hS (lh_set1 rfl ho h1 hB))
theorem U_dup {v : Value} (d : decode cc pc = .ok (.dup, 1)) (hv : v.category = 1) (k : U own cc nL ini F L C S D ca post ws cl sl (pc + 1) ls (v :: v :: st)) : U own cc nL ini F L C S D ca post ws cl sl pc ls (v :: st) := fun p l e s m args below meth c A H locs lsA K hP hD hS hl => lv_dup K.1 K.2.1 d hv (k p l e s m args below meth c A H locs lsA K hP hD hS hl)
theorem U_goto {off : Int} (tgt : Nat) (d : decode cc pc = .ok (.goto off, 3)) (ht : (pc : Int) + off = (tgt : Int)) (k : U own cc nL ini F L C S D ca post ws cl sl tgt ls st) : U own cc nL ini F L C S D ca post ws cl sl pc ls st := fun p l e s m args below meth c A H locs lsA K hP hD hS hl => lv_goto K.1 K.2.1 d ht (k p l e s m args below meth c A H locs lsA K hP hD hS hl)
theorem U_icmp_ge {x y : Int32} {off : Int} (tgt : Nat) (d : decode cc pc = .ok (.if_icmp .ge off, 3)) (ht : (pc : Int) + off = (tgt : Int)) (kt : y ≤ x → U own cc nL ini F L C S D ca post ws cl sl tgt ls st) (kf : ¬ y ≤ x → U own cc nL ini F L C S D ca post ws cl sl (pc + 3) ls st) : U own cc nL ini F L C S D ca post ws cl sl pc ls (.int y :: .int x :: st) := fun p l e s m args below meth c A H locs lsA K hP hD hS hl => lv_icmp_ge K.1 K.2.1 d ht (fun q => kt q p l e s m args below meth c A H locs lsA K hP hD hS hl) (fun q => kf q p l e s m args below meth c A H locs lsA K hP hD hS hl)
theorem U_obj {idx a : Nat} (hw : Cond.methodLink own idx objectInit ∈ vv_G) (h1 : Cond.instanceMethod objectInit ∈ vv_G) (h2 : Cond.code objectInit ⟨#[0xb1]⟩ 1 none ∈ vv_G) (d : decode cc pc = .ok (.invokespecial idx, 3)) (hF : 1 ≤ F) (hL : (st.map fun v => v.category).sum + 12 ≤ L) (k : U own cc nL ini F L C S D ca post ws cl sl (pc + 3) ls st) : U own cc nL ini F L C S D ca post ws cl sl pc ls (.ref a :: st) := fun p l e s m args below meth c A H locs lsA K hP hD hS hl => by
  have hts := K.2.2.2.2.1
  refine W.objInit K.1 K.2.1 K.2.2.2.1 (hts _ hw) (hts _ h1) (hts _ h2) rfl (hl.1.trans K.2.2.1.symm) rfl d hF ?_ (k p l e s m args below meth c A H locs lsA K hP hD hS hl)
  have : 2 * (F0 m pc lsA (Value.ref a :: st)).monitorRoom = 0 := rfl
  rw [this]
  show 0 + _ + 12 ≤ L
  omega
theorem U_new {idx ci N : Nat} {Cn : String} {T : u_T} {fs : List Value} (ty : Nat → FieldType) (hc : classes[ci]? = some (Cn, T, N)) (hin : ∀ w ∈ u_ws Cn T N, w ∈ vv_G) (hty : ∀ k, k < N → parseFieldDescriptor (T k).2.2.1 = some (ty k)) (hw : Cond.classLink own idx Cn ∈ vv_G) (h1 : Cond.instantiable Cn N ∈ vv_G) (h2 : Cond.initialized Cn ∈ vv_G) (hfs : ∀ j, j < N → defaultValue (ty j) = vp_V fs j) (d : decode cc pc = .ok (.new idx, 3)) (hC : cl + 1 ≤ C) (hSl : sl + N ≤ S)
    (k : ∀ q : Nat, U own cc nL ini F L C S D ca post (ws ++ [(q, .inr (ci, fs))]) (cl + 1) (sl + N) (pc + 3) ls (.ref q :: st)) : U own cc nL ini F L C S D ca post ws cl sl pc ls st := fun p l e s m args below meth c A H locs lsA K hP hD hS hl => by
  have hts := K.2.2.2.2.1
  exact va_new (D := D) (ci := ci) (fs := fs) K.1 K.2.1 hts hin ty hty K.2.2.2.1 (hts _ hw) (hts _ h1) (hts _ h2) K.2.2.2.2.2.2.2.1 hP hD hS K.2.2.2.2.2.2.2.2.1 hc hfs hC hSl d (fun q H1 hP1 hD1 hS1 => k q p l e s m args below meth c A H1 locs lsA K hP1 hD1 hS1 hl)
theorem ca_prim {s : State} {cA c0 : ClassId} {ty : FieldType} (h1 : s.vm.findClass ("[" ++ ty.toString) = some cA) (h2 : s.vm.findClass ("[" ++ ty.toString) = some c0) : cA = c0 := Option.some.inj (h1.symm.trans h2)
theorem U_newI (N : Nat) {n : Int32} (hn : ¬ n < 0) (hN : n.toNatClampNeg = N) (hw : Cond.arrayClass .int ∈ vv_G) (hby : N * componentBytes .int ≤ 536870912) (d : decode cc pc = .ok (.newarray .int, 2)) (hC : cl + 1 ≤ C) (hSl : sl + N ≤ S)
    (k : ∀ q : Nat, U own cc nL ini F L C S D ca post (ws ++ [(q, .inl (ca 0, N, .inl (fun _ => 0)))]) (cl + 1) (sl + N) (pc + 2) ls (.ref q :: st)) : U own cc nL ini F L C S D ca post ws cl sl pc ls (.int n :: st) := fun p l e s m args below meth c A H locs lsA K hP hD hS hl => by
  have hts := K.2.2.2.2.1
  refine va_newa (atype := .int) (D := D) (ty := .int) (a0 := (N, .inl (fun _ => 0))) K.1 K.2.1 (hts _ hw) rfl K.2.2.2.2.2.2.2.1 hP hD hS K.2.2.2.2.2.2.2.2.1 (fun _ => rfl) hn hN hby hC hSl d (fun q cA H1 hK1 hP1 hD1 hS1 => ?_)
  have eA : cA = ca 0 := ca_prim (hK1.2 6 _ rfl).2 (K.2.2.2.2.2.2.2.1.2 0 _ rfl).2
  subst eA
  exact k q p l e s m args below meth c A H1 locs lsA K hP1 hD1 hS1 hl
theorem U_newB (N : Nat) {n : Int32} (hn : ¬ n < 0) (hN : n.toNatClampNeg = N) (hw : Cond.arrayClass .byte ∈ vv_G) (hby : N * componentBytes .byte ≤ 536870912) (d : decode cc pc = .ok (.newarray .byte, 2)) (hC : cl + 1 ≤ C) (hSl : sl + N ≤ S)
    (k : ∀ q : Nat, U own cc nL ini F L C S D ca post (ws ++ [(q, .inl (ca 1, N, .inl (fun _ => 0)))]) (cl + 1) (sl + N) (pc + 2) ls (.ref q :: st)) : U own cc nL ini F L C S D ca post ws cl sl pc ls (.int n :: st) := fun p l e s m args below meth c A H locs lsA K hP hD hS hl => by
  have hts := K.2.2.2.2.1
  refine va_newa (atype := .byte) (D := D) (ty := .byte) (a0 := (N, .inl (fun _ => 0))) K.1 K.2.1 (hts _ hw) rfl K.2.2.2.2.2.2.2.1 hP hD hS K.2.2.2.2.2.2.2.2.1 (fun _ => rfl) hn hN hby hC hSl d (fun q cA H1 hK1 hP1 hD1 hS1 => ?_)
  have eA : cA = ca 1 := ca_prim (hK1.2 6 _ rfl).2 (K.2.2.2.2.2.2.2.1.2 1 _ rfl).2
  subst eA
  exact k q p l e s m args below meth c A H1 locs lsA K hP1 hD1 hS1 hl
theorem U_newZ (N : Nat) {n : Int32} (hn : ¬ n < 0) (hN : n.toNatClampNeg = N) (hw : Cond.arrayClass .boolean ∈ vv_G) (hby : N * componentBytes .boolean ≤ 536870912) (d : decode cc pc = .ok (.newarray .boolean, 2)) (hC : cl + 1 ≤ C) (hSl : sl + N ≤ S)
    (k : ∀ q : Nat, U own cc nL ini F L C S D ca post (ws ++ [(q, .inl (ca 2, N, .inl (fun _ => 0)))]) (cl + 1) (sl + N) (pc + 2) ls (.ref q :: st)) : U own cc nL ini F L C S D ca post ws cl sl pc ls (.int n :: st) := fun p l e s m args below meth c A H locs lsA K hP hD hS hl => by
  have hts := K.2.2.2.2.1
  refine va_newa (atype := .boolean) (D := D) (ty := .boolean) (a0 := (N, .inl (fun _ => 0))) K.1 K.2.1 (hts _ hw) rfl K.2.2.2.2.2.2.2.1 hP hD hS K.2.2.2.2.2.2.2.2.1 (fun _ => rfl) hn hN hby hC hSl d (fun q cA H1 hK1 hP1 hD1 hS1 => ?_)
  have eA : cA = ca 2 := ca_prim (hK1.2 6 _ rfl).2 (K.2.2.2.2.2.2.2.1.2 2 _ rfl).2
  subst eA
  exact k q p l e s m args below meth c A H1 locs lsA K hP1 hD1 hS1 hl
theorem ca_obj {s : State} {cA c0 : ClassId} {Cn : String} (h1 : va_RA s cA (.object Cn)) (h2 : va_RA s c0 (.object Cn)) : cA = c0 := by
  obtain ⟨_, _, _, _, _, a⟩ := h1
  obtain ⟨_, _, _, _, _, b⟩ := h2
  exact Option.some.inj (a.symm.trans b)
theorem U_newq {idx t N : Nat} {n : Int32} (Cn : String) (ht : t = 3 ∧ Cn = "RodOwes$County" ∨ t = 4 ∧ Cn = "RodOwes$Sheet") (hn : ¬ n < 0) (hN : n.toNatClampNeg = N) (hby : N * 4 ≤ 536870912) (hw : Cond.classLink own idx Cn ∈ vv_G) (d : decode cc pc = .ok (.anewarray idx, 3)) (hC : cl + 1 ≤ C) (hSl : sl + N ≤ S)
    (k : ∀ q : Nat, U own cc nL ini F L C S D ca post (ws ++ [(q, .inl (ca t, N, .inr (.inr (.inr (.inr (fun _ => none))))))]) (cl + 1) (sl + N) (pc + 3) ls (.ref q :: st)) : U own cc nL ini F L C S D ca post ws cl sl pc ls (.int n :: st) := fun p l e s m args below meth c A H locs lsA K hP hD hS hl => by
  have hts := K.2.2.2.2.1
  have hK := K.2.2.2.2.2.2.2.1
  rcases ht with ⟨rfl, rfl⟩ | ⟨rfl, rfl⟩
  · refine va_newq (D := D) K.1 K.2.1 K.2.2.2.1 (hts _ hw) K.2.2.2.2.2.2.2.2.2.2.2.1 hK hP hD hS K.2.2.2.2.2.2.2.2.1 hn hN hby hC hSl d (fun q cA H1 hK1 hP1 hD1 hS1 => ?_)
    have eA : cA = ca 3 := ca_obj (hK1.2 6 _ rfl).2 (hK.2 3 _ rfl).2
    subst eA
    exact k q p l e s m args below meth c A H1 locs lsA K hP1 hD1 hS1 hl
  · refine va_newq (D := D) K.1 K.2.1 K.2.2.2.1 (hts _ hw) K.2.2.2.2.2.2.2.2.2.2.2.2.1 hK hP hD hS K.2.2.2.2.2.2.2.2.1 hn hN hby hC hSl d (fun q cA H1 hK1 hP1 hD1 hS1 => ?_)
    have eA : cA = ca 4 := ca_obj (hK1.2 6 _ rfl).2 (hK.2 4 _ rfl).2
    subst eA
    exact k q p l e s m args below meth c A H1 locs lsA K hP1 hD1 hS1 hl
theorem U_eq (ws1 : va_W) (h : ws = ws1) (k : U own cc nL ini F L C S D ca post ws1 cl sl pc ls st) : U own cc nL ini F L C S D ca post ws cl sl pc ls st := by subst h; exact k
/-- a final field of references, in the constructor -/
theorem U_putF {idx ci N i a r : Nat} {Cn : String} {T : u_T} {fs : List Value} {ty : FieldType} (t0 : Nat → FieldType) (q0 : Nat) (he : ws[q0]? = some (a, .inr (ci, fs))) (hc : classes[ci]? = some (Cn, T, N)) (hin : ∀ w ∈ u_ws Cn T N, w ∈ vv_G) (hty : ∀ k, k < N → parseFieldDescriptor (T k).2.2.1 = some (t0 k)) (hnm : ∀ a, a < N → ∀ b, b < N → a ≠ b → (T a).2.1 ≠ (T b).2.1) (hi : i < N) (hw : Cond.fieldLink own idx (T i).1 (T i).2.1 (T i).2.2.1 ∈ vv_G) (hfin : (T i).2.2.2 = true) (hini : ini = true) (hdecl : (T i).1 = own) (hd : parseFieldDescriptor (T i).2.2.1 = some ty) (hn : narrow ty (.ref r) = .ref r) (hfit : fits ty (.ref r) = true) (hl0 : i < fs.length) (d : decode cc pc = .ok (.putfield idx, 3))
    (k : U own cc nL ini F L C S D ca post (ws.set q0 (a, .inr (ci, fs.set i (.ref r)))) cl sl (pc + 3) ls st) : U own cc nL ini F L C S D ca post ws cl sl pc ls (.ref r :: .ref a :: st) := fun p l e s m args below meth c A H locs lsA K hP hD hS hl => by
  have hts := K.2.2.2.2.1
  exact va_putF (D := D) (ci := ci) (v := .ref r) (ty := ty) K.1 K.2.1 hts hin t0 hty hnm K.2.2.2.1 K.2.2.2.2.2.2.2.1 hP hD hS q0 he hc i hi (hts _ hw) (fun _ q => q) hfin (K.2.2.2.2.2.2.2.2.2.1 hini) hdecl hd hn hfit hl0 d (fun H1 locs1 hP1 hD1 hS1 => k p l e s m args below meth c A H1 locs1 lsA K hP1 hD1 hS1 hl)
theorem U_putI {idx ci N i a : Nat} {x : Int32} {Cn : String} {T : u_T} {fs : List Value} (t0 : Nat → FieldType) (q0 : Nat) (he : ws[q0]? = some (a, .inr (ci, fs))) (hc : classes[ci]? = some (Cn, T, N)) (hin : ∀ w ∈ u_ws Cn T N, w ∈ vv_G) (hty : ∀ k, k < N → parseFieldDescriptor (T k).2.2.1 = some (t0 k)) (hnm : ∀ a, a < N → ∀ b, b < N → a ≠ b → (T a).2.1 ≠ (T b).2.1) (hi : i < N) (hw : Cond.fieldLink own idx (T i).1 (T i).2.1 (T i).2.2.1 ∈ vv_G) (hfin : (T i).2.2.2 = false) (hd : parseFieldDescriptor (T i).2.2.1 = some .int) (hl0 : i < fs.length) (d : decode cc pc = .ok (.putfield idx, 3))
    (k : U own cc nL ini F L C S D ca post (ws.set q0 (a, .inr (ci, fs.set i (.int x)))) cl sl (pc + 3) ls st) : U own cc nL ini F L C S D ca post ws cl sl pc ls (.int x :: .ref a :: st) := fun p l e s m args below meth c A H locs lsA K hP hD hS hl => by
  have hts := K.2.2.2.2.1
  exact va_put (D := D) (ci := ci) (v := .int x) (ty := .int) K.1 K.2.1 hts hin t0 hty hnm K.2.2.2.1 K.2.2.2.2.2.2.2.1 hP hD hS q0 he hc i hi (hts _ hw) (fun _ q => q) hfin hd rfl rfl hl0 d (fun H1 locs1 hP1 hD1 hS1 => k p l e s m args below meth c A H1 locs1 lsA K hP1 hD1 hS1 hl)
theorem U_get {idx ci i a : Nat} {fs : List Value} (v : Value) (q0 : Nat) (fa : FA own idx ci i) (he : ws[q0]? = some (a, .inr (ci, fs))) (hv : fs[i]? = some v) (d : decode cc pc = .ok (.getfield idx, 3)) (k : U own cc nL ini F L C S D ca post ws cl sl (pc + 3) ls (v :: st)) : U own cc nL ini F L C S D ca post ws cl sl pc ls (.ref a :: st) := fun p l e s m args below meth c A H locs lsA K hP hD hS hl => by
  obtain ⟨Cn, T, N, f1, f2, f3, f4⟩ := fa
  have hts := K.2.2.2.2.1
  exact va_get (D := D) (ci := ci) (v := v) K.1 K.2.1 hts f2 K.2.2.2.1 K.2.2.2.2.2.2.2.1 hP q0 he f1 i f3 (hts _ f4) (fun _ q => q) hv d (k p l e s m args below meth c A H locs lsA K hP hD hS hl)
theorem U_vret (d : decode cc pc = .ok (.return_, 1)) (hp : post ws) (hc : cl = C) (hs : sl = S) : U own cc nL ini F L C S D ca post ws cl sl pc ls [] := fun p l e s m args below meth c A H locs lsA K hP hD hS hl => by
  subst hc
  subst hs
  have hlocks : meth.locks = false := K.2.2.2.2.2.1
  exact W.vret K.1 K.2.1 K.2.2.2.2.2.2.1 (fun t ht hW => ⟨⟨ws, rfl, hp, by rw [ht]; exact hP, hD⟩, hS.F ht⟩) hS.2.2 d
theorem U_aast {t q0 qk ci a v n : Nat} {i : Int32} {Cn : String} {vs : List Value} {r : vw_C} {f : Nat → Option Nat} (ht : t = 3 ∧ Cn = "RodOwes$County" ∨ t = 4 ∧ Cn = "RodOwes$Sheet") (ha : ws[q0]? = some (a, .inl (ca t, n, .inr (.inr (.inr (.inr f)))))) (hv : ws[qk]? = some (v, .inr (ci, vs))) (hc : classes[ci]? = some r) (hr : r.1 = Cn) (hin : vp_in i n) (d : decode cc pc = .ok (.aastore, 1))
    (k : U own cc nL ini F L C S D ca post (ws.set q0 (a, .inl (ca t, n, .inr (.inr (.inr (.inr (va_up f i.toNatClampNeg (some v)))))))) cl sl (pc + 1) ls st) : U own cc nL ini F L C S D ca post ws cl sl pc ls (.ref v :: .int i :: .ref a :: st) := fun p l e s m args below meth c A H locs lsA K hP hD hS hl => by
  have hK := K.2.2.2.2.2.2.2.1
  rcases ht with ⟨rfl, rfl⟩ | ⟨rfl, rfl⟩
  · exact va_astq (D := D) K.1 K.2.1 hK hP hD hS q0 3 qk ci ha (by rw [hr]; rfl) hv hc hin d (fun H1 locs1 hP1 hD1 hS1 => k p l e s m args below meth c A H1 locs1 lsA K hP1 hD1 hS1 hl)
  · exact va_astq (D := D) K.1 K.2.1 hK hP hD hS q0 4 qk ci ha (by rw [hr]; rfl) hv hc hin d (fun H1 locs1 hP1 hD1 hS1 => k p l e s m args below meth c A H1 locs1 lsA K hP1 hD1 hS1 hl)
end UR
theorem arrV_congr {cA : ClassId} {n : Nat} {f g : Nat → Int32} (h : ∀ j, j < n → f j = g j) : vp_cell cA (n, .inl f) = vp_cell cA (n, .inl g) := by
  rw [vp_cell_i, vp_cell_i]
  unfold arrV
  congr 1
  apply Array.ext
  · simp
  · intro i h1 h2
    simp at h1
    simp [h i h1]
section UC
variable {own : String} {cc : ByteArray} {nL : Nat} {ini : Bool} {F L C S : Nat} {D : va_G} {ca : Nat → ClassId} {post : va_W → Prop} {ws : va_W} {cl sl pc : Nat} {ls : Pl} {st : List Value}
variable {p : Program} {l : Launch} {e : Env} {s : State} {m : MethodId} {args : Array Value} {below : List Frame} {meth : Method} {c : Code} {A : Nat → Prop} {H : Heap} {locs : List Loc} {lsA : Array Slot}
theorem uu_pre {wc : va_W} (K : Ku own cc nL ini D ca p s m args meth c A) (hP : va_P D classes wc H) (hD : va_D A wc) (As : List Value) : FrameBlind (va_Pc As (fun U => U.heap.size = H.size ∧ va_P D classes wc U.heap ∧ va_K D classes (tysC ca) U ∧ va_D (fun _ => True) wc ∧ Kw U)) ∧ ∀ U : State, U.heap = H → s.WarmedH U.vm → va_Pc As (fun U => U.heap.size = H.size ∧ va_P D classes wc U.heap ∧ va_K D classes (tysC ca) U ∧ va_D (fun _ => True) wc ∧ Kw U) As.toArray U := by
  refine ⟨fun a U g mk q => ?_, fun U hU hW => ⟨rfl, ?_⟩⟩
  · obtain ⟨q0, q1, qP, qK, qA, qR⟩ := q
    exact ⟨q0, q1, qP, va_K.moved (u := U) (U := U.calling g mk a) (Vm.Alike.refl U.vm) qK, qA, Kw.blind g mk a qR⟩
  · exact ⟨by rw [hU], by rw [hU]; exact hP, va_K.moved hW.alike K.2.2.2.2.2.2.2.1, hD.weaken (fun _ _ _ _ => trivial), Kw.to hW K.2.2.2.2.2.2.2.2.2.2⟩
theorem uu_after {wc wr : va_W} {st0 rest : List Value} {a : Array Value} {C' S' : Nat} {post' : va_W → Prop} (isC isR : List Nat) (hC : isC.map (fun i => ws[i]?) = wc.map some) (hR : isR.map (fun i => ws[i]?) = wr.map some) (hn : va_nd isR = true) (hdis : ∀ i ∈ isR, i ∉ isC) (hr : va_Run p l e (rmC F L C S) s m args below meth c H locs cl sl C' S' (F0 m pc lsA st0) rest (Qu D (va_A wc H.size) post' a) (va_A wc H.size)) (K : Ku own cc nL ini D ca p s m args meth c A) (hP : va_P D classes ws H) (hD : va_D A ws) (hS : va_S A s.heap H locs) (hl : lh (fun k => k) lsA nL ls)
    (kk : ∀ w1 : va_W, post' w1 → U own cc nL ini F L C S D ca post (wr ++ w1) (cl + C') (sl + S') (pc + 3) ls rest) : W p l e (rmC F L C S) s m args below meth c H locs cl sl (MQ below (Qu D A post) args s C S A) (F0 m pc lsA st0) := by
  have hFc := va_free (wc := wc) hD hS K.2.2.2.2.2.2.2.2.1 isC hC
  intro T hT Xs
  obtain ⟨v, st₀, t, T', L', h0, X', hL, e1, e2, ⟨⟨w1, hv, hp, hb, hb2⟩, hz, hk⟩, stp⟩ := hr T hT Xs
  have hv' : v = none := by injection hv
  subst hv'
  rw [h0] at hz hk
  obtain ⟨hPj, hDj⟩ := va_join (wr := wr) (w1 := w1) (H1 := t.heap) hP hD isC isR hC hR hn hdis hk hFc hb hb2
  have hS' : va_S A s.heap T'.heap (locs ++ L') := ⟨Nat.le_trans hS.1 (by rw [e1]; exact hz), fun q h1 h2 => by rw [e1, hk q (Nat.lt_of_lt_of_le h1 hS.1) (fun z => h2 (hFc q z))]; exact hS.2.1 q h1 h2, fun q hq => by
      rcases List.mem_append.mp hq with h | h
      · exact hS.2.2 q h
      · exact hFc _ (hL q h)⟩
  obtain ⟨t2, a1, b1⟩ := kk w1 hp p l e s m args below meth c A T'.heap (locs ++ L') lsA K (by rw [e1]; exact hPj) hDj hS' hl T' rfl X'
  exact ⟨t2, stp t2 a1, b1⟩
end UC
section UD
variable {own : String} {cc : ByteArray} {nL : Nat} {ini : Bool} {F L C S : Nat} {D : va_G} {ca : Nat → ClassId} {post : va_W → Prop} {ws : va_W} {cl sl pc : Nat} {ls : Pl} {st : List Value}
def CI (own : String) (idx : Nat) (y : MethodName) (cc' : ByteArray) (nL' : Nat) (n : Nat) : Prop := CB y cc' nL' none n ∧ y.name = "<init>" ∧ Cond.instanceMethod y ∈ vv_G ∧ (Cond.methodLink own idx y ∈ vv_G ∨ (own, idx, y) ∈ kNest)
theorem U_callI {y : MethodName} {cc' : ByteArray} {nL' F' L' C' S' idx b : Nat} {wc : va_W} {post' : va_W → Prop} (wr : va_W) (rest : List Value) (isC isR : List Nat) (ci : CI own idx y cc' nL' 0) (hC : isC.map (fun i => ws[i]?) = wc.map some) (hR : isR.map (fun i => ws[i]?) = wr.map some) (hn : va_nd isR = true) (hdis : ∀ i ∈ isR, i ∉ isC) (hns : va_nd isC = true) (d : decode cc pc = .ok (.invokespecial idx, 3)) (hrm : (rest.map fun v => v.category).sum ≤ 8) (hF : F' + 1 ≤ F) (hL : 8 + (nL' + 11) + L' ≤ L) (hcl : cl + C' ≤ C) (hsl : sl + S' ≤ S)
    (ct : Cu y cc' nL' F' L' C' S' D ca [.ref b] wc post') (kk : ∀ w1 : va_W, post' w1 → U own cc nL ini F L C S D ca post (wr ++ w1) (cl + C') (sl + S') (pc + 3) ls rest) : U own cc nL ini F L C S D ca post ws cl sl pc ls (.ref b :: rest) := fun p l e s m args below meth c A H locs lsA K hP hD hS hl => by
  obtain ⟨⟨q1, q2, q3⟩, q4, q5, q6⟩ := ci
  have hts := K.2.2.2.2.1
  have hPc : va_P D classes wc H := fun k q hk => by
    have h1 : (isC.map (fun i => ws[i]?))[k]? = some (some q) := by rw [hC, List.getElem?_map, hk]; rfl
    rw [List.getElem?_map] at h1
    cases hi : isC[k]? with
    | none => rw [hi] at h1; cases h1
    | some i => rw [hi] at h1; exact hP i q (Option.some.inj h1)
  obtain ⟨b1, b2⟩ := uu_pre K hPc (hD.sub isC hns hC) [.ref b]
  rcases q6 with q6 | q6
  · exact uu_after isC isR hC hR hn hdis (va_runI (Ts := vv_G) (As := []) (b := b) (n := 0) ⟨K.1, K.2.1, K.2.2.1, K.2.2.2.1, hts⟩ (ct l H.size) ⟨callB_of 0 hts (vv_good q1) rfl rfl rfl (hts _ q3) (hts _ q6) q2 ⟨hF, hL⟩, q4, hts _ q5⟩ ⟨b1, b2⟩ rfl rfl hl.1 rfl (lv_room hrm) d ⟨hcl, hsl⟩) K hP hD hS hl kk
  · have hN := K.2.2.2.2.2.2.2.2.2.2.1 _ q6
    exact uu_after isC isR hC hR hn hdis (va_runIN (Ts := vv_G) (As := []) (b := b) (n := 0) ⟨K.1, K.2.1, K.2.2.1, K.2.2.2.1, hts⟩ (ct l H.size) ⟨va_cnB 0 hts (vv_good q1) rfl rfl rfl hN (hts _ q3) q2 ⟨hF, hL⟩, q4, hts _ q5⟩ ⟨b1, b2⟩ rfl rfl hl.1 rfl (lv_room hrm) d ⟨hcl, hsl⟩) K hP hD hS hl kk
theorem U_callV {y : MethodName} {cc' : ByteArray} {nL' F' L' C' S' idx b ck qb : Nat} {wc : va_W} {fsb : List Value} {post' : va_W → Prop} (wr : va_W) (rest : List Value) (isC isR : List Nat) (cv : CV own idx y cc' nL' none 0) (hb : ws[qb]? = some (b, .inr (ck, fsb))) (hcn : (classes[ck]?).map (fun q => q.1) = some y.cls) (hC : isC.map (fun i => ws[i]?) = wc.map some) (hR : isR.map (fun i => ws[i]?) = wr.map some) (hn : va_nd isR = true) (hdis : ∀ i ∈ isR, i ∉ isC) (hns : va_nd isC = true) (d : decode cc pc = .ok (.invokevirtual idx, 3)) (hrm : (rest.map fun v => v.category).sum ≤ 8) (hF : F' + 1 ≤ F) (hL : 8 + (nL' + 11) + L' ≤ L) (hcl : cl + C' ≤ C) (hsl : sl + S' ≤ S)
    (ct : Cu y cc' nL' F' L' C' S' D ca [.ref b] wc post') (kk : ∀ w1 : va_W, post' w1 → U own cc nL ini F L C S D ca post (wr ++ w1) (cl + C') (sl + S') (pc + 3) ls rest) : U own cc nL ini F L C S D ca post ws cl sl pc ls (.ref b :: rest) := fun p l e s m args below meth c A H locs lsA K hP hD hS hl => by
  obtain ⟨⟨q1, q2, q3⟩, q4, q5, q6⟩ := cv
  have hts := K.2.2.2.2.1
  have hPc : va_P D classes wc H := fun k q hk => by
    have h1 : (isC.map (fun i => ws[i]?))[k]? = some (some q) := by rw [hC, List.getElem?_map, hk]; rfl
    rw [List.getElem?_map] at h1
    cases hi : isC[k]? with
    | none => rw [hi] at h1; cases h1
    | some i => rw [hi] at h1; exact hP i q (Option.some.inj h1)
  obtain ⟨b1, b2⟩ := uu_pre K hPc (hD.sub isC hns hC) [.ref b]
  obtain ⟨r, hr, hrc⟩ : ∃ r, classes[ck]? = some r ∧ r.1 = y.cls := by
    cases hz : classes[ck]? with
    | none => rw [hz] at hcn; cases hcn
    | some r => rw [hz] at hcn; exact ⟨r, rfl, Option.some.inj hcn⟩
  have hrecv := va_recv K.2.2.2.2.2.2.2.1 hP hr hb
  rw [hrc] at hrecv
  exact uu_after isC isR hC hR hn hdis (va_runV (Ts := vv_G) (As := []) (b := b) (C := y.cls) (n := 0) ⟨K.1, K.2.1, K.2.2.1, K.2.2.2.1, hts⟩ (ct l H.size) ⟨callB_of 0 hts (vv_good q1) rfl rfl rfl (hts _ q3) (hts _ q6) q2 ⟨hF, hL⟩, hts _ q4, hts _ q5⟩ ⟨b1, hrecv, b2⟩ rfl rfl hl.1 rfl (lv_room hrm) d ⟨hcl, hsl⟩) K hP hD hS hl kk
theorem U_callS {y : MethodName} {cc' : ByteArray} {nL' F' L' C' S' idx : Nat} {wc : va_W} {post' : va_W → Prop} (As : List Value) (wr : va_W) (rest : List Value) (isC isR : List Nat) (cs : CS own idx y cc' nL' none As.length) (hC : isC.map (fun i => ws[i]?) = wc.map some) (hR : isR.map (fun i => ws[i]?) = wr.map some) (hn : va_nd isR = true) (hdis : ∀ i ∈ isR, i ∉ isC) (hns : va_nd isC = true) (hno : (own, idx, y) ∉ vv_nest) (d : decode cc pc = .ok (.invokestatic idx, 3)) (hst : st = As.reverse ++ rest) (hrm : (rest.map fun v => v.category).sum ≤ 8) (hF : F' + 1 ≤ F) (hL : 8 + (nL' + 11) + L' ≤ L) (hcl : cl + C' ≤ C) (hsl : sl + S' ≤ S)
    (ct : Cu y cc' nL' F' L' C' S' D ca As wc post') (kk : ∀ w1 : va_W, post' w1 → U own cc nL ini F L C S D ca post (wr ++ w1) (cl + C') (sl + S') (pc + 3) ls rest) : U own cc nL ini F L C S D ca post ws cl sl pc ls st := fun p l e s m args below meth c A H locs lsA K hP hD hS hl => by
  obtain ⟨⟨q1, q2, q3⟩, q4, q6⟩ := cs
  have q6 := q6.resolve_right hno
  have hts := K.2.2.2.2.1
  have hPc : va_P D classes wc H := fun k q hk => by
    have h1 : (isC.map (fun i => ws[i]?))[k]? = some (some q) := by rw [hC, List.getElem?_map, hk]; rfl
    rw [List.getElem?_map] at h1
    cases hi : isC[k]? with
    | none => rw [hi] at h1; cases h1
    | some i => rw [hi] at h1; exact hP i q (Option.some.inj h1)
  obtain ⟨b1, b2⟩ := uu_pre K hPc (hD.sub isC hns hC) As
  exact uu_after isC isR hC hR hn hdis (va_runS (Ts := vv_G) (As := As) (n := As.length) ⟨K.1, K.2.1, K.2.2.1, K.2.2.2.1, hts⟩ (ct l H.size) ⟨callB_of As.length hts (vv_good q1) rfl rfl rfl (hts _ q3) (hts _ q6) q2 ⟨hF, hL⟩, hts _ q4⟩ ⟨b1, b2⟩ rfl rfl hl.1 (by rw [hst]) (lv_room hrm) d ⟨hcl, hsl⟩) K hP hD hS hl kk
end UD
