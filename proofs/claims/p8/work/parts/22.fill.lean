section UM
variable {own : String} {cc : ByteArray} {nL : Nat} {ini : Bool} {F L C S : Nat} {D : va_G} {ca : Nat → ClassId} {post : va_W → Prop} {ws : va_W} {cl sl pc : Nat} {ls : Pl} {st : List Value}
theorem U_mna {idx : Nat} (hw : Cond.classLink own idx "[[I" ∈ vv_G) (ha : Cond.arrayClass .int ∈ vv_G) (d : decode cc pc = .ok (.multianewarray idx 2, 4)) (hC : cl + 7 ≤ C) (hSl : sl + 102 ≤ S)
    (k : ∀ (q : Nat) (r : Nat → Nat), U own cc nL ini F L C S D ca post (ws ++ [(q, .inl (ca 5, 6, .inr (.inr (.inr (.inr (fun i => if i < 6 then some (r i) else none)))))), (r 0, .inl (ca 0, 16, .inl (fun _ => 0))), (r 1, .inl (ca 0, 16, .inl (fun _ => 0))), (r 2, .inl (ca 0, 16, .inl (fun _ => 0))), (r 3, .inl (ca 0, 16, .inl (fun _ => 0))), (r 4, .inl (ca 0, 16, .inl (fun _ => 0))), (r 5, .inl (ca 0, 16, .inl (fun _ => 0)))]) (cl + 7) (sl + 102) (pc + 4) ls (.ref q :: st)) : U own cc nL ini F L C S D ca post ws cl sl pc ls (.int 16 :: .int 6 :: st) := fun p l e s m args below meth c A H locs lsA K hP hD hS hl => by
  have hts := K.2.2.2.2.1
  have hK := K.2.2.2.2.2.2.2.1
  have hcy : s.vm.findClass (FieldType.array .int).toString = some (ca 0) := (hK.2 0 _ rfl).2
  have e0 : ws ++ va_pl [] (fun _ => .inl (ca 0, 0, .inl (fun _ => 0))) = ws := List.append_nil ws
  refine va_mna (D := D) (ty := .int) (own := own) (index := idx) (X := ws) (L := []) (f := fun _ => .inl (ca 0, 0, .inl (fun _ => 0))) (N' := 6) (K' := 16) (z := (16, .inl (fun _ => 0))) K.1 K.2.1 K.2.2.2.1 (hts _ hw) K.2.2.2.2.2.2.2.2.2.2.2.2.2 (hts _ ha) hcy hK (by rw [e0]; exact hP) (by rw [e0]; exact hD) hS K.2.2.2.2.2.2.2.2.1 (by decide) (by decide) (by decide) (by decide) (by decide) (by decide) (by decide) (by decide) (by decide) (by show cl + (1 + 6) ≤ C; omega) (by show sl + (6 + 6 * 16) ≤ S; omega) (fun _ => rfl) d (fun q r cA H1 _ _ hK1 hP1 hD1 hS1 => ?_)
  have eA : cA = ca 5 := ca_prim (ty := .array .int) (hK1.2 6 _ rfl).2 (hK.2 5 _ rfl).2
  subst eA
  have e1 : (ws ++ [(q, Sum.inl (ca 5, 6, Sum.inr (Sum.inr (Sum.inr (Sum.inr (fun i => if i < 6 then some (r i) else none))))))]) ++ va_pl ([] ++ (List.range 6).map r) (vr_up (fun _ => Sum.inl (ca 0, 0, Sum.inl (fun _ => 0))) ((List.range 6).map r) (.inl (ca 0, 16, .inl (fun _ => 0)))) = ws ++ [(q, .inl (ca 5, 6, .inr (.inr (.inr (.inr (fun i => if i < 6 then some (r i) else none)))))), (r 0, .inl (ca 0, 16, .inl (fun _ => 0))), (r 1, .inl (ca 0, 16, .inl (fun _ => 0))), (r 2, .inl (ca 0, 16, .inl (fun _ => 0))), (r 3, .inl (ca 0, 16, .inl (fun _ => 0))), (r 4, .inl (ca 0, 16, .inl (fun _ => 0))), (r 5, .inl (ca 0, 16, .inl (fun _ => 0)))] := by
    rw [List.append_assoc]
    congr 1
    have hm : ∀ i, i < 6 → vr_up (fun _ => Sum.inl (ca 0, 0, Sum.inl (fun _ => 0))) ((List.range 6).map r) (.inl (ca 0, 16, .inl (fun _ => 0))) (r i) = (.inl (ca 0, 16, .inl (fun _ => 0)) : va_E) := fun i hi => vr_up_in (List.mem_map.mpr ⟨i, List.mem_range.mpr hi, rfl⟩)
    show [_] ++ List.map _ [r 0, r 1, r 2, r 3, r 4, r 5] = _
    simp only [List.map_cons, List.map_nil, List.cons_append, List.nil_append]
    rw [hm 0 (by decide), hm 1 (by decide), hm 2 (by decide), hm 3 (by decide), hm 4 (by decide), hm 5 (by decide)]
  rw [e1] at hP1 hD1
  exact W.widen (by (first | decide +kernel | omega)) (by (first | decide +kernel | omega)) (k q r p l e s m args below meth c A H1 locs lsA K hP1 hD1 hS1 hl)
theorem U_iast {q0 a n : Nat} {i x : Int32} {f : Nat → Int32} (ha : ws[q0]? = some (a, .inl (ca 0, n, .inl f))) (hin : vp_in i n) (d : decode cc pc = .ok (.iastore, 1)) (k : U own cc nL ini F L C S D ca post (ws.set q0 (a, .inl (ca 0, n, .inl (upd f i.toNatClampNeg x)))) cl sl (pc + 1) ls st) : U own cc nL ini F L C S D ca post ws cl sl pc ls (.int x :: .int i :: .ref a :: st) := fun p l e s m args below meth c A H locs lsA K hP hD hS hl =>
  va_iast (D := D) K.1 K.2.1 K.2.2.2.2.2.2.2.1 hP hD hS q0 0 ha rfl hin d (fun H1 locs1 hP1 hD1 hS1 => k p l e s m args below meth c A H1 locs1 lsA K hP1 hD1 hS1 hl)
theorem U_alen {q0 a n : Nat} {v : Int32} {f : Nat → Int32} (ha : ws[q0]? = some (a, .inl (ca 0, n, .inl f))) (hv : Int32.ofNat n = v) (d : decode cc pc = .ok (.arraylength, 1)) (k : U own cc nL ini F L C S D ca post ws cl sl (pc + 1) ls (.int v :: st)) : U own cc nL ini F L C S D ca post ws cl sl pc ls (.ref a :: st) := fun p l e s m args below meth c A H locs lsA K hP hD hS hl =>
  va_alen (D := D) K.1 K.2.1 K.2.2.2.2.2.2.2.1 hP q0 0 ha rfl hv d (k p l e s m args below meth c A H locs lsA K hP hD hS hl)
theorem U_row1 {q n : Nat} {f g : Nat → Int32} (h : ∀ j, j < n → f j = g j) (k : U own cc nL ini F L C S D ca post [(q, .inl (ca 0, n, .inl g))] cl sl pc ls st) : U own cc nL ini F L C S D ca post [(q, .inl (ca 0, n, .inl f))] cl sl pc ls st := fun p l e s m args below meth c A H locs lsA K hP hD hS hl => by
  refine k p l e s m args below meth c A H locs lsA K ?_ ?_ hS hl
  · intro k9 x hx
    have h0 : k9 < 1 := (List.getElem?_eq_some_iff.mp hx).1
    rw [show k9 = 0 by (first | decide +kernel | omega)] at hx
    cases hx
    have h1 := hP 0 _ rfl
    show H[q]? = some (vp_cell (ca 0) (n, .inl g))
    rw [← arrV_congr h]
    exact h1
  · refine ⟨fun i j x y hx hy _ => ?_, fun k9 x hx => ?_⟩
    · have h0 : i < 1 := (List.getElem?_eq_some_iff.mp hx).1
      have h1 : j < 1 := (List.getElem?_eq_some_iff.mp hy).1
      omega
    · have h0 : k9 < 1 := (List.getElem?_eq_some_iff.mp hx).1
      rw [show k9 = 0 by (first | decide +kernel | omega)] at hx
      cases hx
      exact hD.2 0 (q, .inl (ca 0, n, .inl f)) rfl
end UM
theorem k_fill_l (D : va_G) (ca : Nat → ClassId) (q n : Nat) (hn : n < 1000) (v w : Int32) (hw : w.toInt = n) : ∀ (d j : Nat) (x : Int32) (f : Nat → Int32), n - j = d → x.toInt = j → j ≤ n → (∀ i, i < j → f i = v) → U R_Arr b_Arr_fill 4 false 0 0 0 0 D ca (fun w => w = [(q, .inl (ca 0, n, .inl (fun _ => v)))]) [(q, .inl (ca 0, n, .inl f))] 0 0 5 [some (.ref q), some (.int v), some (.int x), some (.int w)] [] := by
  intro d
  induction d with
  | zero =>
    intro j x f hd hx hj hf
    refine U_iload_n 2 d_Arr_fill_5 rfl rfl ?_
    refine U_iload_n 3 d_Arr_fill_6 rfl rfl ?_
    refine U_icmp_ge 20 d_Arr_fill_7 (by decide) (fun _ => ?_) (fun c => absurd ((ti_le hw hx).mpr (by (first | decide +kernel | omega))) c)
    refine U_row1 (g := fun _ => v) (fun i hi => hf i (by (first | decide +kernel | omega))) ?_
    exact U_vret d_Arr_fill_20 rfl rfl rfl
  | succ d ih =>
    intro j x f hd hx hj hf
    refine U_iload_n 2 d_Arr_fill_5 rfl rfl ?_
    refine U_iload_n 3 d_Arr_fill_6 rfl rfl ?_
    refine U_icmp_ge 20 d_Arr_fill_7 (by decide) (fun c => absurd ((ti_le hw hx).mp c) (by (first | decide +kernel | omega))) (fun _ => ?_)
    refine U_aload_n 0 d_Arr_fill_10 rfl rfl ?_
    refine U_iload_n 2 d_Arr_fill_11 rfl rfl ?_
    refine U_iload_n 1 d_Arr_fill_12 rfl rfl ?_
    refine U_iast (q0 := 0) rfl (vp_in_of_ti hx (by (first | decide +kernel | omega))) d_Arr_fill_13 ?_
    refine U_iinc (v := x + 1) 2 [some (.ref q), some (.int v), some (.int (x + 1)), some (.int w)] d_Arr_fill_14 rfl rfl (by decide) rfl rfl ?_
    refine U_goto 5 d_Arr_fill_17 (by decide) ?_
    refine ih (j + 1) (x + 1) (upd f x.toNatClampNeg v) (by (first | decide +kernel | omega)) ?_ (by (first | decide +kernel | omega)) ?_
    · rw [ti_add hx (show (1 : Int32).toInt = 1 by decide) (by (first | decide +kernel | omega))]; omega
    · intro i hi
      have e : x.toNatClampNeg = j := by rw [ti_cl, hx]; omega
      rw [e]
      by_cases hij : i = j
      · subst hij; exact if_pos rfl
      · exact (if_neg hij).trans (hf i (by (first | decide +kernel | omega)))
theorem k_fill (D : va_G) (ca : Nat → ClassId) (q n : Nat) (hn : n < 1000) (f : Nat → Int32) (v : Int32) : Cu y_Arr_fill b_Arr_fill 4 0 0 0 0 D ca [.ref q, .int v] [(q, .inl (ca 0, n, .inl f))] (fun w => w = [(q, .inl (ca 0, n, .inl (fun _ => v)))]) := by
  refine cu_of R_Arr false [some (.ref q), some (.int v), none, none] rfl (fun q => by cases q) (by decide) rfl (Nat.le_of_ble_eq_true rfl) ?_
  refine U_iconst 0 d_Arr_fill_0 (by decide) ?_
  refine U_istore_n 2 [some (.ref q), some (.int v), some (.int 0), none] d_Arr_fill_1 rfl (by decide) rfl rfl ?_
  refine U_aload_n 0 d_Arr_fill_2 rfl rfl ?_
  refine U_alen (q0 := 0) rfl rfl d_Arr_fill_3 ?_
  refine U_istore_n 3 [some (.ref q), some (.int v), some (.int 0), some (.int (Int32.ofNat n))] d_Arr_fill_4 rfl (by decide) rfl rfl ?_
  have hw : (Int32.ofNat n).toInt = n := by
    rw [Int32.toInt_ofNat_of_lt (by (first | decide +kernel | omega))]
  exact k_fill_l D ca q n hn v _ hw (n - 0) 0 0 f rfl (by decide) (by (first | decide +kernel | omega)) (fun i hi => absurd hi (by (first | decide +kernel | omega)))
