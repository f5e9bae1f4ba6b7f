theorem dl_0 : decode code 0 = .ok (.new 7, 3) := dc_187 (a := 0) (b := 7) (dcc (r := 0) lq_0 rfl (Nat.le_of_ble_eq_true rfl) (by decide +kernel)) rfl
theorem dl_3 : decode code 3 = .ok (.dup, 1) := dc_89 (dcc (r := 3) lq_0 rfl (Nat.le_of_ble_eq_true rfl) (by decide +kernel))
theorem dl_4 : decode code 4 = .ok (.invokespecial 9, 3) := dc_183 (a := 0) (b := 9) (dcc (r := 4) lq_0 rfl (Nat.le_of_ble_eq_true rfl) (by decide +kernel)) rfl
theorem dl_7 : decode code 7 = .ok (.astore_n 1, 1) := dc_76 (dcc (r := 7) lq_0 rfl (Nat.le_of_ble_eq_true rfl) (by decide +kernel))
theorem dl_8 : decode code 8 = .ok (.new 10, 3) := dc_187 (a := 0) (b := 10) (dcc (r := 8) lq_0 rfl (Nat.le_of_ble_eq_true rfl) (by decide +kernel)) rfl
theorem dl_11 : decode code 11 = .ok (.dup, 1) := dc_89 (dcc (r := 11) lq_0 rfl (Nat.le_of_ble_eq_true rfl) (by decide +kernel))
theorem dl_12 : decode code 12 = .ok (.invokespecial 12, 3) := dc_183 (a := 0) (b := 12) (dcc (r := 12) lq_0 rfl (Nat.le_of_ble_eq_true rfl) (by decide +kernel)) rfl
theorem dl_15 : decode code 15 = .ok (.astore_n 2, 1) := dc_77 (dcc (r := 15) lq_0 rfl (Nat.le_of_ble_eq_true rfl) (by decide +kernel))
theorem dl_16 : decode code 16 = .ok (.iconst 0, 1) := dc_3 (dcc (r := 16) lq_0 rfl (Nat.le_of_ble_eq_true rfl) (by decide +kernel))
theorem dl_17 : decode code 17 = .ok (.istore_n 3, 1) := dc_62 (dcc (r := 17) lq_0 rfl (Nat.le_of_ble_eq_true rfl) (by decide +kernel))
theorem cb_Rod_init : CB y_Rod_init b_Rod_init 2 none 0 := ⟨vv_Gin (List.mem_append_right _ (List.mem_append_left _ (List.mem_of_getElem? (i := 25) rfl))) rfl, by decide +kernel, vv_Gin (List.mem_append_right _ (List.mem_append_left _ (List.mem_of_getElem? (i := 1) rfl))) rfl⟩
theorem im_Rod_init : Cond.instanceMethod y_Rod_init ∈ vv_G := vv_Gin (List.mem_append_right _ (List.mem_append_left _ (List.mem_of_getElem? (i := 24) rfl))) rfl
theorem cb_Mod_init : CB y_Mod_init b_Mod_init 2 none 0 := ⟨vv_Gin (List.mem_append_right _ (List.mem_append_right _ (List.mem_append_right _ (List.mem_append_right _ (List.mem_append_left _ (List.mem_of_getElem? (i := 213) rfl)))))) rfl, by decide +kernel, vv_Gin (List.mem_append_right _ (List.mem_append_left _ (List.mem_of_getElem? (i := 13) rfl))) rfl⟩
theorem im_Mod_init : Cond.instanceMethod y_Mod_init ∈ vv_G := vv_Gin (List.mem_append_right _ (List.mem_append_right _ (List.mem_append_right _ (List.mem_append_right _ (List.mem_append_left _ (List.mem_of_getElem? (i := 212) rfl)))))) rfl
theorem wi_Rod : Cond.instantiable R_Rod 11 ∈ vv_G := vv_Gin (List.mem_append_right _ (List.mem_append_left _ (List.mem_of_getElem? (i := 22) (by decide +kernel)))) (by decide +kernel)
theorem wn_Rod : Cond.initialized R_Rod ∈ vv_G := vv_Gin (List.mem_append_right _ (List.mem_append_left _ (List.mem_of_getElem? (i := 1) (by decide +kernel)))) (by decide +kernel)
theorem wi_Mod : Cond.instantiable R_Mod 37 ∈ vv_G := vv_Gin (List.mem_append_right _ (List.mem_append_right _ (List.mem_append_right _ (List.mem_append_right _ (List.mem_append_left _ (List.mem_of_getElem? (i := 210) (by decide +kernel))))))) (by decide +kernel)
theorem wn_Mod : Cond.initialized R_Mod ∈ vv_G := vv_Gin (List.mem_append_right _ (List.mem_append_left _ (List.mem_of_getElem? (i := 13) (by decide +kernel)))) (by decide +kernel)
theorem ck_law_9 : CI R_law 9 y_Rod_init b_Rod_init 2 0 := ⟨cb_Rod_init, rfl, im_Rod_init, Or.inl (vv_Gin (List.mem_append_right _ (List.mem_append_left _ (List.mem_of_getElem? (i := 23) rfl))) rfl)⟩
theorem ck_law_12 : CI R_law 12 y_Mod_init b_Mod_init 2 0 := ⟨cb_Mod_init, rfl, im_Mod_init, Or.inl (vv_Gin (List.mem_append_right _ (List.mem_append_right _ (List.mem_append_right _ (List.mem_append_right _ (List.mem_append_left _ (List.mem_of_getElem? (i := 211) rfl)))))) rfl)⟩
theorem wk_law_R : Cond.classLink R_law 7 R_Rod ∈ vv_G := vv_Gin (List.mem_append_right _ (List.mem_append_left _ (List.mem_of_getElem? (i := 21) (by decide +kernel)))) (by decide +kernel)
theorem wk_law_M : Cond.classLink R_law 10 R_Mod ∈ vv_G := vv_Gin (List.mem_append_right _ (List.mem_append_right _ (List.mem_append_right _ (List.mem_append_right _ (List.mem_append_left _ (List.mem_of_getElem? (i := 209) (by decide +kernel))))))) (by decide +kernel)
theorem wd_law_R : ∀ j, j < 11 → defaultValue (t_Rod j) = vp_V [.null, .null, .null, .null, .null, .null, .null, .null, .null, .null, .int 0] j := by decide
theorem wd_law_M : ∀ j, j < 37 → defaultValue (t_Mod j) = vp_V [.null, .null, .int 0, .int 0, .int 0, .int 0, .null, .int 0, .int 0, .int 0, .int 0, .int 0, .null, .int 0, .null, .int 0, .int 0, .int 0, .int 0, .int 0, .int 0, .int 0, .null, .null, .null, .int 0, .long 0, .null, .int 0, .null, .int 0, .null, .null, .null, .null, .int 0, .null] j := by decide
theorem nd_of : ∀ l : List Nat, l.Nodup → va_nd l = true := by
  intro l
  induction l with
  | nil => intro _; rfl
  | cons a l ih =>
    intro h
    have h2 := List.nodup_cons.mp h
    show (decide (a ∉ l) && va_nd l) = true
    rw [ih h2.2, decide_eq_true h2.1]
    rfl
theorem nd_range (n : Nat) : va_nd (List.range n) = true := nd_of _ List.nodup_range
section LZN
variable {p : Program} {l : Launch} {e : Env} {s : State} {m : MethodId} {args : Array Value} {below : List Frame} {meth : Method} {c : Code} {A : Nat → Prop} {H : Heap} {locs : List Loc} {lsA : Array Slot} {Q : State → Prop}
/-- 'new', 'dup', the constructor: one object more -/
theorem lz_new {D : va_G} {ca : Nat → ClassId} {ws : va_W} {cl sl pc idx idx2 ci N nL' F' L' C' S' : Nat} {Cn : String} {T : u_T} {fs : List Value} {y : MethodName} {cc' : ByteArray} {post : Nat → va_W → Prop} (hx : p.tables.exec = Jvm.exec) (hcc : c.code = code) (hml : c.maxLocals = 4) (hown : s.vm.findClass R_law = some m.cls) (hts : ∀ w ∈ vv_G, w.before args s = true) (hK : va_K D classes (tysC ca) s) (hKw : Kw s) (hA : ∀ q : Nat, s.heap.size ≤ q → A q)
    (ty : Nat → FieldType) (hc : classes[ci]? = some (Cn, T, N)) (hin : ∀ w ∈ u_ws Cn T N, w ∈ vv_G) (hty : ∀ k, k < N → parseFieldDescriptor (T k).2.2.1 = some (ty k)) (hw : Cond.classLink R_law idx Cn ∈ vv_G) (h1 : Cond.instantiable Cn N ∈ vv_G) (h2 : Cond.initialized Cn ∈ vv_G) (hfs : ∀ j, j < N → defaultValue (ty j) = vp_V fs j) (d0 : decode code pc = .ok (.new idx, 3)) (d1 : decode code (pc + 3) = .ok (.dup, 1)) (d2 : decode code (pc + 3 + 1) = .ok (.invokespecial idx2, 3)) (ck : CI R_law idx2 y cc' nL' 0) (ct : ∀ a : Nat, Cu y cc' nL' F' L' C' S' D ca [.ref a] [(a, .inr (ci, fs))] (post a)) (hF : F' + 1 ≤ 13) (hL : 8 + (nL' + 11) + L' ≤ 470) (hCc : cl + 1 + C' ≤ 600000) (hSs : sl + N + S' ≤ 7302250)
    (hP : va_P D classes ws H) (hD : va_D A ws) (hS : va_S A s.heap H locs) (hsz : lsA.size = 4)
    (kk : ∀ (a : Nat) (w1 : va_W) (H1 : Heap) (locs1 : List Loc), post a w1 → va_P D classes (ws ++ w1) H1 → va_D A (ws ++ w1) → va_S A s.heap H1 locs1 → W p l e room_1 s m args below meth c H1 locs1 (cl + 1 + C') (sl + N + S') Q (F0 m (pc + 3 + 1 + 3) lsA [.ref a])) : W p l e room_1 s m args below meth c H locs cl sl Q (F0 m pc lsA []) := by
  obtain ⟨⟨q1, q2, q3⟩, q4, q5, q6⟩ := ck
  refine va_new (D := D) (ci := ci) (fs := fs) hx hcc hts hin ty hty hown (hts _ hw) (hts _ h1) (hts _ h2) hK hP hD hS hA hc hfs (by show cl + 1 ≤ 600000; omega) (by show sl + N ≤ 7302250; omega) d0 (fun a H1 hP1 hD1 hS1 => ?_)
  refine lv_dup hx hcc d1 rfl ?_
  have hPa : va_P D classes [(a, .inr (ci, fs))] H1 := fun k q hk => by
    have h0 : k < 1 := (List.getElem?_eq_some_iff.mp hk).1
    rw [show k = 0 by (first | decide +kernel | omega)] at hk
    cases hk
    exact hP1 ws.length (a, .inr (ci, fs)) (by rw [List.getElem?_append_right (Nat.le_refl _), Nat.sub_self]; rfl)
  have hDa : va_D (fun _ => True) [(a, (.inr (ci, fs) : va_E))] := ⟨fun i j x z hi hj _ => by
      have hi' : i < 1 := (List.getElem?_eq_some_iff.mp hi).1
      have hj' : j < 1 := (List.getElem?_eq_some_iff.mp hj).1
      omega, fun _ _ _ => trivial⟩
  have hpre : FrameBlind (va_Pc [Value.ref a] (fun U => U.heap.size = H1.size ∧ va_P D classes [(a, .inr (ci, fs))] U.heap ∧ va_K D classes (tysC ca) U ∧ va_D (fun _ => True) [(a, .inr (ci, fs))] ∧ Kw U)) ∧ ∀ U : State, U.heap = H1 → s.WarmedH U.vm → va_Pc [Value.ref a] (fun U => U.heap.size = H1.size ∧ va_P D classes [(a, .inr (ci, fs))] U.heap ∧ va_K D classes (tysC ca) U ∧ va_D (fun _ => True) [(a, .inr (ci, fs))] ∧ Kw U) [Value.ref a].toArray U := by
    refine ⟨fun a' U g mk q => ?_, fun U hU hW => ⟨rfl, ?_⟩⟩
    · obtain ⟨q0, q1, qP, qK, qA, qR⟩ := q
      exact ⟨q0, q1, qP, va_K.moved (u := U) (U := U.calling g mk a') (Vm.Alike.refl U.vm) qK, qA, Kw.blind g mk a' qR⟩
    · exact ⟨by rw [hU], by rw [hU]; exact hPa, va_K.moved hW.alike hK, hDa, Kw.to hW hKw⟩
  have q6 : Cond.methodLink R_law idx2 y ∈ vv_G := by
    rcases q6 with q6 | q6
    · exact q6
    · have hn : R_law ∈ kNest.map (fun q => q.1) := List.mem_map_of_mem (f := fun q => q.1) q6
      exact absurd hn (by decide +kernel)
  have hr := va_runI (R := room_1) (e := e) (below := below) (meth := meth) (locs := locs) (cells := cl + 1) (slots := sl + N) (mc := C') (ms := S') (Ts := vv_G) (As := []) (b := a) (n := 0) (rest := [.ref a]) (g := F0 m (pc + 3 + 1) lsA [.ref a, .ref a]) ⟨hx, hcc, hml, hown, hts⟩ (ct a l H1.size) ⟨callB_of 0 hts (vv_good q1) rfl rfl rfl (hts _ q3) (hts _ q6) q2 ⟨hF, hL⟩, q4, hts _ q5⟩ hpre rfl rfl hsz rfl (Nat.le_of_ble_eq_true rfl) d2 ⟨hCc, hSs⟩
  have hC1 : [ws.length].map (fun i => (ws ++ [(a, (.inr (ci, fs) : va_E))])[i]?) = [(a, (.inr (ci, fs) : va_E))].map some := by
    show [(ws ++ [(a, (.inr (ci, fs) : va_E))])[ws.length]?] = _
    rw [List.getElem?_append_right (Nat.le_refl _), Nat.sub_self]
    rfl
  have hR1 : (List.range ws.length).map (fun i => (ws ++ [(a, (.inr (ci, fs) : va_E))])[i]?) = ws.map some := by
    apply List.ext_getElem?
    intro i
    rw [List.getElem?_map, List.getElem?_map]
    by_cases hi : i < ws.length
    · rw [List.getElem?_range hi]
      show some ((ws ++ [(a, (.inr (ci, fs) : va_E))])[i]?) = _
      rw [List.getElem?_append_left hi, List.getElem?_eq_getElem hi]
      rfl
    · rw [List.getElem?_eq_none (by rw [List.length_range]; omega), List.getElem?_eq_none (by (first | decide +kernel | omega))]
      rfl
  have hFc := va_free (wc := [(a, (.inr (ci, fs) : va_E))]) hD1 hS1 hA [ws.length] hC1
  intro T hT Xs
  obtain ⟨v, st₀, t, T', L'', g0, X', gL, e1, e2, ⟨⟨w1, hv, hp, hb, hb2⟩, hz, hk⟩, stp⟩ := hr T hT Xs
  have hv' : v = none := by injection hv
  subst hv'
  rw [g0] at hz hk
  obtain ⟨hPj, hDj⟩ := va_join (wr := ws) (w1 := w1) (H1 := t.heap) hP1 hD1 [ws.length] (List.range ws.length) hC1 hR1 (nd_range ws.length) (fun i hi h => by
    have := List.mem_range.mp hi
    rw [List.mem_singleton.mp h] at this
    omega) hk hFc hb hb2
  have hS' : va_S A s.heap T'.heap (locs ++ L'') := ⟨Nat.le_trans hS1.1 (by rw [e1]; exact hz), fun q h1 h2 => by rw [e1, hk q (Nat.lt_of_lt_of_le h1 hS1.1) (fun z => h2 (hFc q z))]; exact hS1.2.1 q h1 h2, fun q hq => by
      rcases List.mem_append.mp hq with h | h
      · exact hS1.2.2 q h
      · exact hFc _ (gL q h)⟩
  obtain ⟨t2, a1, b1⟩ := kk a w1 T'.heap (locs ++ L'') hp (by rw [e1]; exact hPj) hDj hS' T' rfl X'
  exact ⟨t2, stp t2 a1, b1⟩
end LZN
