def R_law : String := "RodOwesLaw"
def lw_P (b : Addr) (xs : List Int32) (args : Array Value) (s : State) : Prop := args = #[.ref b] ∧ s.IntsAt b xs ∧ xs.length ≤ 320 ∧ (Jvm.Cond.and given_1 narrow_1).before args s = true
def lw_Q (_ : Array Value) (s : State) (o : Outcome) (t : State) : Prop := o = .returned (some (.int 1)) ∧ Framed s o t [] 600000 7302250
def lw_Z (below : List Frame) (a : Array Value) (s : State) : State → Prop := fun t => ∃ o, t.status = .running ∧ Ended t below o ∧ lw_Q a s o t
/-- the law's own end, with 1 on the stack, nothing written that was there before, its room as the claim has it -/
theorem lw_ret {p : Program} {l : Launch} {e : Env} {s : State} {m : MethodId} {below : List Frame} {meth : Method} {c : Code} {b : Nat} (hx : p.tables.exec = Jvm.exec) (hb : c.code = code) (hr : meth.sig.returnType = ret) (hlocks : meth.locks = false) {pc : Nat} {H : Heap} {ls : Array Slot} (hdg : decode code pc = .ok (.ireturn, 1)) : W p l e room_1 s m #[Value.ref b] below meth c H [] 600000 7302250 (lw_Z below #[Value.ref b] s) (F0 m pc ls [.int 1]) := by
  intro T hT X
  obtain ⟨fs, hret, hrun, hended, hW, hframe⟩ := X.leave (v := some (.int 1)) (hlocks := hlocks) (fun h => by rw [hr] at h; cases h)
  have hmeth' : T.vm.method? m = some meth := X.method'
  refine ⟨T.setFrames fs, ?_, .returned (some (.int 1)), hrun, hended, rfl, ⟨_, rfl⟩, hW, hframe⟩
  jvm_step X.here [X.here.top, hx, hb, hdg, hmeth', hr, ret, narrow_b1]
  (try refine ⟨rfl, ?_⟩); (try refine ⟨rfl, ?_⟩)
  first | (intro acts; rw [hret _ acts rfl rfl rfl]) | rw [hret _ _ rfl rfl rfl]
  exact Steps.refl _
/-- what holds at the law's entry: the machine, the code, the tables' words (any of lw_tbl by 'hts w (by decide +kernel)'), the script of L ints xs at the cell b, what the Statement gives of the start (any of its parts by flat_of_before) -/
def lw_At (p : Program) (s : State) (m : MethodId) (meth : Method) (c : Code) (b L : Nat) (xs : Nat → Int32) : Prop :=
  p.tables.exec = Jvm.exec ∧ c.code = code ∧ meth.sig.returnType = ret ∧ c.maxLocals = 4 ∧ s.vm.findClass R_law = some m.cls ∧ (∀ w ∈ lw_tbl, w.before #[Value.ref b] s = true) ∧ va_X b L xs s s.heap ∧ b < s.heap.size ∧ meth.locks = false ∧ (Jvm.Cond.and given_1 narrow_1).before #[Value.ref b] s = true

def G0 (b0 Ls : Nat) (xs : Nat → Int32) (s : State) (args : Array Value) (X : Xc) (A : Nat → Prop) : Prop := args = #[Value.ref b0] ∧ X.2.1 200 = b0 ∧ b0 < s.heap.size ∧ ¬ A b0 ∧ va_X b0 Ls xs s s.heap ∧ ∀ q : Nat, A q → s.heap.size ≤ q
def ZW (b0 Ls : Nat) (xs : Nat → Int32) (h : Hp) (pc : Nat) (ls : Pl) (st : List Value) : Prop :=
  ∀ (p : Program) (l : Launch) (e : Env) (s : State) (m : MethodId) (args : Array Value) (below : List Frame) (meth : Method) (c : Code) (X : Xc) (A : Nat → Prop) (H : Heap) (locs : List Loc) (lsA : Array Slot),
    Cx R_law code 4 ret p s m args meth c X A → G0 b0 Ls xs s args X A → va_P X.1 classes (wsX X h) H → va_S A s.heap H locs → lh X.2.1 lsA 4 ls →
    W p l e room_1 s m args below meth c H locs 132 2553 (lw_Z below args s) (F0 m pc lsA (st.map (rv X.2.1)))
def LZ (i : Int32) : Pl := [some (.ref 200), some (.ref 85), some (.ref 116), some (.int i)]
section ZR
variable {b0 Ls : Nat} {xs : Nat → Int32} {h : Hp} {pc : Nat} {ls : Pl} {st : List Value}
theorem Z_iconst {n : Int} (v : Int32) (d : decode code pc = .ok (.iconst n, 1)) (hv : Int32.ofInt n = v) (k : ZW b0 Ls xs h (pc + 1) ls (.int v :: st)) : ZW b0 Ls xs h pc ls (st) := fun p l e s m args below meth c X A H locs lsA C G hP hS hl => lv_iconst C.1 C.2.1 d hv (k p l e s m args below meth c X A H locs lsA C G hP hS hl)
theorem Z_bipush {n : Int} (v : Int32) (d : decode code pc = .ok (.bipush n, 2)) (hv : (Int8.ofInt n).toInt32 = v) (k : ZW b0 Ls xs h (pc + 2) ls (.int v :: st)) : ZW b0 Ls xs h pc ls (st) := fun p l e s m args below meth c X A H locs lsA C G hP hS hl => lv_bipush C.1 C.2.1 d hv (k p l e s m args below meth c X A H locs lsA C G hP hS hl)
theorem Z_iload_n {n : Fin 4} (i : Nat) {x : Int32} (d : decode code pc = .ok (.iload_n n, 1)) (hi : (n : Nat) = i) (hx : ls[i]? = some (some (.int x))) (k : ZW b0 Ls xs h (pc + 1) ls (.int x :: st)) : ZW b0 Ls xs h pc ls (st) := fun p l e s m args below meth c X A H locs lsA C G hP hS hl => lv_iload_n C.1 C.2.1 d hi (hl.2.2 i _ hx) (k p l e s m args below meth c X A H locs lsA C G hP hS hl)
theorem Z_aload_n {n : Fin 4} (i : Nat) {x : Nat} (d : decode code pc = .ok (.aload_n n, 1)) (hi : (n : Nat) = i) (hx : ls[i]? = some (some (.ref x))) (k : ZW b0 Ls xs h (pc + 1) ls (.ref x :: st)) : ZW b0 Ls xs h pc ls (st) := fun p l e s m args below meth c X A H locs lsA C G hP hS hl => lv_aload_n C.1 C.2.1 d hi (hl.2.2 i _ hx) (k p l e s m args below meth c X A H locs lsA C G hP hS hl)
theorem Z_iinc {n : Int} (i : Nat) (ls1 : Pl) {x v : Int32} (d : decode code pc = .ok (.iinc i n, 3)) (hx : ls[i]? = some (some (.int x))) (hv : x + Int32.ofInt n = v) (hn : i < 4) (ho : okS ls i = true) (h1 : ls.set i (some (.int v)) = ls1) (k : ZW b0 Ls xs h (pc + 3) ls1 st) : ZW b0 Ls xs h pc ls st := fun p l e s m args below meth c X A H locs lsA C G hP hS hl => by
  have hm : (i, Value.int x) ∈ asc X.2.1 ls := asc_in (ad := X.2.1) hx
  obtain ⟨q, hq⟩ := List.getElem?_of_mem hm
  exact lv_iinc C.1 C.2.1 d (asc_has hl) hq hv hn rfl (fun lsB hB => k p l e s m args below meth c X A H locs lsB C G hP hS (lh_set1 rfl ho h1 hB))
theorem Z_isub {x y : Int32} {A B : Int} (ha : x.toInt = A) (hb : y.toInt = B) (hr : -2147483648 ≤ A - B ∧ A - B ≤ 2147483647) (d : decode code pc = .ok (.isub, 1)) (k : ∀ z : Int32, z = x - y → z.toInt = A - B → ZW b0 Ls xs h (pc + 1) ls (.int z :: st)) : ZW b0 Ls xs h pc ls (.int y :: .int x :: st) := fun p l e s m args below meth c X A9 H locs lsA C G hP hS hl => lv_isub C.1 C.2.1 d (k _ rfl (ti_sub ha hb hr) p l e s m args below meth c X A9 H locs lsA C G hP hS hl)
theorem Z_iadd {x y : Int32} {A B : Int} (ha : x.toInt = A) (hb : y.toInt = B) (hr : -2147483648 ≤ A + B ∧ A + B ≤ 2147483647) (d : decode code pc = .ok (.iadd, 1)) (k : ∀ z : Int32, z = x + y → z.toInt = A + B → ZW b0 Ls xs h (pc + 1) ls (.int z :: st)) : ZW b0 Ls xs h pc ls (.int y :: .int x :: st) := fun p l e s m args below meth c X A9 H locs lsA C G hP hS hl => lv_iadd C.1 C.2.1 d (k _ rfl (ti_add ha hb hr) p l e s m args below meth c X A9 H locs lsA C G hP hS hl)
theorem Z_iand {x y : Int32} (d : decode code pc = .ok (.iand, 1)) (k : ∀ z : Int32, z = x &&& y → ZW b0 Ls xs h (pc + 1) ls (.int z :: st)) : ZW b0 Ls xs h pc ls (.int y :: .int x :: st) := fun p l e s m args below meth c X A H locs lsA C G hP hS hl => lv_iand C.1 C.2.1 d (k _ rfl p l e s m args below meth c X A H locs lsA C G hP hS hl)
theorem Z_pop {v : Value} (d : decode code pc = .ok (.pop, 1)) (hv : v.category = 1) (k : ZW b0 Ls xs h (pc + 1) ls (st)) : ZW b0 Ls xs h pc ls (v :: st) := fun p l e s m args below meth c X A H locs lsA C G hP hS hl => lv_pop C.1 C.2.1 d ((rv_cat _ _).trans hv) (k p l e s m args below meth c X A H locs lsA C G hP hS hl)
theorem Z_pop2L {v : Value} (d : decode code pc = .ok (.pop2, 1)) (hv : v.category = 2) (k : ZW b0 Ls xs h (pc + 1) ls (st)) : ZW b0 Ls xs h pc ls (v :: st) := fun p l e s m args below meth c X A H locs lsA C G hP hS hl => lv_pop2_2 C.1 C.2.1 d ((rv_cat _ _).trans hv) (k p l e s m args below meth c X A H locs lsA C G hP hS hl)
theorem Z_icmp_eq {x y : Int32} {A B : Int} {off : Int} (tgt : Nat) (ha : x.toInt = A) (hb : y.toInt = B) (d : decode code pc = .ok (.if_icmp .eq off, 3)) (ht : (pc : Int) + off = (tgt : Int)) (kt : A = B → ZW b0 Ls xs h tgt ls st) (kf : ¬ A = B → ZW b0 Ls xs h (pc + 3) ls st) : ZW b0 Ls xs h pc ls (.int y :: .int x :: st) := fun p l e s m args below meth c X A9 H locs lsA C G hP hS hl => lv_icmp_eq C.1 C.2.1 d ht (fun q => kt ((ti_eq ha hb).mp q) p l e s m args below meth c X A9 H locs lsA C G hP hS hl) (fun q => kf ((fun z => q ((ti_eq ha hb).mpr z))) p l e s m args below meth c X A9 H locs lsA C G hP hS hl)
theorem Z_if_eq {x : Int32} {A : Int} {off : Int} (tgt : Nat) (ha : x.toInt = A) (d : decode code pc = .ok (.ifCond .eq off, 3)) (ht : (pc : Int) + off = (tgt : Int)) (kt : A = 0 → ZW b0 Ls xs h tgt ls st) (kf : ¬ A = 0 → ZW b0 Ls xs h (pc + 3) ls st) : ZW b0 Ls xs h pc ls (.int x :: st) := fun p l e s m args below meth c X A9 H locs lsA C G hP hS hl => lv_if_eq C.1 C.2.1 d ht (fun q => kt ((ti_eq ha ti_0).mp q) p l e s m args below meth c X A9 H locs lsA C G hP hS hl) (fun q => kf ((fun z => q ((ti_eq ha ti_0).mpr z))) p l e s m args below meth c X A9 H locs lsA C G hP hS hl)
theorem Z_icmp_gt {x y : Int32} {A B : Int} {off : Int} (tgt : Nat) (ha : x.toInt = A) (hb : y.toInt = B) (d : decode code pc = .ok (.if_icmp .gt off, 3)) (ht : (pc : Int) + off = (tgt : Int)) (kt : B < A → ZW b0 Ls xs h tgt ls st) (kf : A ≤ B → ZW b0 Ls xs h (pc + 3) ls st) : ZW b0 Ls xs h pc ls (.int y :: .int x :: st) := fun p l e s m args below meth c X A9 H locs lsA C G hP hS hl => lv_icmp_gt C.1 C.2.1 d ht (fun q => kt ((ti_lt hb ha).mp q) p l e s m args below meth c X A9 H locs lsA C G hP hS hl) (fun q => kf (Int.not_lt.mp (fun z => q ((ti_lt hb ha).mpr z))) p l e s m args below meth c X A9 H locs lsA C G hP hS hl)
theorem Z_goto {off : Int} (tgt : Nat) (d : decode code pc = .ok (.goto off, 3)) (ht : (pc : Int) + off = (tgt : Int)) (k : ZW b0 Ls xs h tgt ls st) : ZW b0 Ls xs h pc ls st := fun p l e s m args below meth c X A H locs lsA C G hP hS hl => lv_goto C.1 C.2.1 d ht (k p l e s m args below meth c X A H locs lsA C G hP hS hl)
theorem Z_tabOut {dflt lo hi : Int} {offs : Array Int} {len : Nat} {x : Int32} {A : Int} (tgt : Nat) (ha : x.toInt = A) (d : decode code pc = .ok (.tableswitch dflt lo hi offs, len)) (hr : A < lo ∨ hi < A) (ht : (pc : Int) + dflt = (tgt : Int)) (k : ZW b0 Ls xs h tgt ls st) : ZW b0 Ls xs h pc ls (.int x :: st) := fun p l e s m args below meth c X A9 H locs lsA C G hP hS hl => lv_tableOut C.1 C.2.1 d (by rw [ha]; exact hr) ht (k p l e s m args below meth c X A9 H locs lsA C G hP hS hl)
theorem Z_tabIn {dflt lo hi : Int} {offs : Array Int} {len : Nat} {x : Int32} {A : Int} {off : Int} (tgt : Nat) (ha : x.toInt = A) (d : decode code pc = .ok (.tableswitch dflt lo hi offs, len)) (h1 : lo ≤ A) (h2 : A ≤ hi) (ho : offs[(A - lo).toNat]? = some off) (ht : (pc : Int) + off = (tgt : Int)) (k : ZW b0 Ls xs h tgt ls st) : ZW b0 Ls xs h pc ls (.int x :: st) := fun p l e s m args below meth c X A9 H locs lsA C G hP hS hl => lv_tableIn C.1 C.2.1 d (by rw [ha]; omega) (by rw [ha]; omega) (by rw [ha]; exact ho) ht (k p l e s m args below meth c X A9 H locs lsA C G hP hS hl)
theorem Z_sld {i : Int32} {I : Int} (ha : i.toInt = I) (hin : 0 ≤ I ∧ I < Ls) (d : decode code pc = .ok (.iaload, 1)) (k : ZW b0 Ls xs h (pc + 1) ls (.int (xs I.toNat) :: st)) : ZW b0 Ls xs h pc ls (.int i :: .ref 200 :: st) := fun p l e s m args below meth c X A H locs lsA C G hP hS hl => by
  have hb : rv X.2.1 (.ref 200) = .ref b0 := by show Value.ref (X.2.1 200) = _; rw [G.2.1]
  have hk := k p l e s m args below meth c X A H locs lsA C G hP hS hl
  show W p l e room_1 s m args below meth c H locs 132 2553 (lw_Z below args s) (F0 m pc lsA (.int i :: rv X.2.1 (.ref 200) :: st.map (rv X.2.1)))
  rw [hb]
  refine va_sld C.1 C.2.1 G.2.2.2.2.1 G.2.2.1 G.2.2.2.1 hS (vp_in_of_ti ha hin) d ?_
  rw [ti_cl, ha]
  exact hk
theorem Z_slen {v : Int32} (hv : Int32.ofNat Ls = v) (d : decode code pc = .ok (.arraylength, 1)) (k : ZW b0 Ls xs h (pc + 1) ls (.int v :: st)) : ZW b0 Ls xs h pc ls (.ref 200 :: st) := fun p l e s m args below meth c X A H locs lsA C G hP hS hl => by
  have hb : rv X.2.1 (.ref 200) = .ref b0 := by show Value.ref (X.2.1 200) = _; rw [G.2.1]
  have hk := k p l e s m args below meth c X A H locs lsA C G hP hS hl
  show W p l e room_1 s m args below meth c H locs 132 2553 (lw_Z below args s) (F0 m pc lsA (rv X.2.1 (.ref 200) :: st.map (rv X.2.1)))
  rw [hb]
  refine va_slen C.1 C.2.1 G.2.2.2.2.1 G.2.2.1 G.2.2.2.1 hS d ?_
  rw [hv]
  exact hk
theorem Z_ret (d : decode code pc = .ok (.ireturn, 1)) : ZW b0 Ls xs h pc ls [.int 1] := fun p l e s m args below meth c X A H locs lsA C G hP hS hl => by
  obtain ⟨rfl, -, -, -, -, gA⟩ := G
  refine va_forget (fun q hq => gA _ (hS.2.2 q hq)) ?_
  exact W.widen (by decide) (by decide) (lw_ret C.1 C.2.1 C.2.2.2.2.2.2.1 C.2.2.2.2.2.1 d)
/-- one number of the script, at i + j -/
theorem Z_arg {i : Int32} {I : Nat} (j : Nat) (hj : j ≤ 4) (hi : i.toInt = I) (hL : I + 5 ≤ Ls) (hL2 : Ls ≤ 320) (d0 : decode code pc = .ok (.aload_n 0, 1)) (d1 : decode code (pc + 1) = .ok (.iload_n 3, 1)) (d2 : decode code (pc + 1 + 1) = .ok (.iconst j, 1)) (d3 : decode code (pc + 1 + 1 + 1) = .ok (.iadd, 1)) (d4 : decode code (pc + 1 + 1 + 1 + 1) = .ok (.iaload, 1)) (k : ZW b0 Ls xs h (pc + 1 + 1 + 1 + 1 + 1) (LZ i) (.int (xs (I + j)) :: st)) : ZW b0 Ls xs h pc (LZ i) st := by
  refine Z_aload_n 0 d0 rfl rfl ?_
  refine Z_iload_n 3 d1 rfl rfl ?_
  refine Z_iconst (Int32.ofInt j) d2 rfl ?_
  have hj' : (Int32.ofInt j).toInt = j := Int32.toInt_ofInt_of_le (by (first | decide +kernel | omega)) (by (first | decide +kernel | omega))
  refine Z_iadd hi hj' (by (first | decide +kernel | omega)) d3 (fun z _ hz => ?_)
  refine Z_sld hz (by (first | decide +kernel | omega)) d4 ?_
  rw [show ((I : Int) + (j : Int)).toNat = I + j by (first | decide +kernel | omega)]
  exact k
/-- 'script[k] != 0' as an argument -/
theorem Z_bool {x : Int32} (d0 : decode code pc = .ok (.ifCond .eq 7, 3)) (d1 : decode code (pc + 3) = .ok (.iconst 1, 1)) (d2 : decode code (pc + 3 + 1) = .ok (.goto 4, 3)) (d3 : decode code (pc + 7) = .ok (.iconst 0, 1)) (k : ∀ r : Int32, r = (if x = 0 then 0 else 1) → ZW b0 Ls xs h (pc + 7 + 1) ls (.int r :: st)) : ZW b0 Ls xs h pc ls (.int x :: st) := by
  refine Z_if_eq (pc + 7) rfl d0 (by (first | decide +kernel | omega)) (fun hx => ?_) (fun hx => ?_)
  · refine Z_iconst 0 d3 (by decide) (k 0 ?_)
    rw [if_pos ((ti_eq (A := x.toInt) rfl ti_0).mpr hx)]
  · refine Z_iconst 1 d1 (by decide) ?_
    refine Z_goto (pc + 7 + 1) d2 (by (first | decide +kernel | omega)) (k 1 ?_)
    rw [if_neg (fun q => hx (by rw [q]; rfl))]
end ZR
section ZC
variable {b0 Ls : Nat} {xs : Nat → Int32} {h : Hp} {pc : Nat} {ls : Pl} {st : List Value}
variable {p : Program} {l : Launch} {e : Env} {s : State} {m : MethodId} {args : Array Value} {below : List Frame} {meth : Method} {c : Code} {X : Xc} {A : Nat → Prop} {H : Heap} {locs : List Loc} {lsA : Array Slot}
theorem zz_after {st0 rest : List Value} {a : Array Value} {post' : Option Value → Hp → Prop} (hr : va_Run p l e room_1 s m args below meth c H locs 132 2553 0 0 (F0 m pc lsA st0) (rest.map (rv X.2.1)) (QcOf X (vv_A X H.size) post' a) (vv_A X H.size)) (C : Cx R_law code 4 ret p s m args meth c X A) (G : G0 b0 Ls xs s args X A) (hS : va_S A s.heap H locs) (hl : lh X.2.1 lsA 4 ls)
    (kk : ∀ (r : Option Value) (h' : Hp), post' r h' → ZW b0 Ls xs h' (pc + 3) ls (r.toList ++ rest)) : W p l e room_1 s m args below meth c H locs 132 2553 (lw_Z below args s) (F0 m pc lsA st0) := by
  intro T hT Xs
  obtain ⟨v, st₀, t, T', L', h0, X', hL, e1, e2, ⟨⟨r, h', hv, hp, hb⟩, hz, hk⟩, stp⟩ := hr T hT Xs
  have hv' : v = r.map (rv X.2.1) := by injection hv
  subst hv'
  rw [h0] at hz hk
  have hAA := vv_AA C.2.2.2.2.2.2.2.2.1 (fun q (hq : H.size ≤ q) => C.2.2.2.2.2.2.2.2.2.1 q (Nat.le_trans hS.1 hq))
  have hS' : va_S A s.heap T'.heap (locs ++ L') := ⟨Nat.le_trans hS.1 (by rw [e1]; exact hz), fun q h1 h2 => by rw [e1, hk q (Nat.lt_of_lt_of_le h1 hS.1) (fun z => h2 (hAA q z))]; exact hS.2.1 q h1 h2, fun q hq => by
      rcases List.mem_append.mp hq with h | h
      · exact hS.2.2 q h
      · exact hAA _ (hL q h)⟩
  obtain ⟨t2, a1, b1⟩ := kk r h' hp p l e s m args below meth c X A T'.heap (locs ++ L') lsA C G (by rw [e1]; exact hb) hS' hl T' rfl X'
  refine ⟨t2, stp t2 ?_, b1⟩
  have hst : ((r.toList ++ rest).map (rv X.2.1)) = (r.map (rv X.2.1)).toList ++ rest.map (rv X.2.1) := by cases r <;> simp
  rw [hst] at a1
  exact a1
end ZC
section ZD
variable {b0 Ls : Nat} {xs : Nat → Int32} {h : Hp} {pc : Nat} {ls : Pl} {st : List Value}
theorem Z_call {y : MethodName} {cc' : ByteArray} {nL' : Nat} {ret' : Option FieldType} {F' L' idx b ci : Nat} {ss : List Sl} {post' : Option Value → Hp → Prop} (As rest : List Value) (cv : CV R_law idx y cc' nL' ret' As.length) (hs : vv_sk[b]? = some (.inr (ci, ss))) (hcl : (classes[ci]?).map (fun q => q.1) = some y.cls) (d : decode code pc = .ok (.invokevirtual idx, 3)) (hst : st = As.reverse ++ .ref b :: rest) (hrm : (rest.map fun v => v.category).sum ≤ 8) (hF : F' + 1 ≤ 13) (hL : 8 + (nL' + 11) + L' ≤ 470)
    (ct : Ct y cc' nL' ret' F' L' (.ref b :: As) h post') (kk : ∀ (r : Option Value) (h' : Hp), post' r h' → ZW b0 Ls xs h' (pc + 3) ls (r.toList ++ rest)) : ZW b0 Ls xs h pc ls st := fun p l e s m args below meth c X A H locs lsA C G hP hS hl => by
  obtain ⟨⟨q1, q2, q3⟩, q4, q5, q6⟩ := cv
  obtain ⟨r, hr, hrc⟩ : ∃ r, classes[ci]? = some r ∧ r.1 = y.cls := by
    cases hz : classes[ci]? with
    | none => rw [hz] at hcl; cases hcl
    | some r => rw [hz] at hcl; exact ⟨r, rfl, Option.some.inj hcl⟩
  have hts := C.2.2.2.2.1
  obtain ⟨b1, b2⟩ := vv_pre C hP hS (.ref b :: As)
  have hrecv := va_recv C.2.2.2.2.2.2.2.1 hP hr (wsX_get hs)
  rw [hrc] at hrecv
  refine zz_after (rest := rest) (va_runV (Ts := vv_G) (As := As.map (rv X.2.1)) (b := X.2.1 b) (C := y.cls) (n := As.length) ⟨C.1, C.2.1, C.2.2.1, C.2.2.2.1, hts⟩ (ct l X H.size) ⟨callB_of As.length hts (vv_good q1) rfl rfl rfl (hts _ q3) (hts _ q6) q2 ⟨hF, hL⟩, hts _ q4, hts _ q5⟩ ⟨b1, hrecv, b2⟩ rfl (List.length_map _) hl.1 ?_ (lv_room (vv_room _ hrm)) d ⟨by decide, by decide⟩) C G hS hl kk
  rw [hst]
  simp [rv]
end ZD
