section UN
variable {own : String} {cc : ByteArray} {nL : Nat} {ini : Bool} {F L C S : Nat} {D : va_G} {ca : Nat → ClassId} {post : va_W → Prop} {ws : va_W} {cl sl pc : Nat} {ls : Pl} {st : List Value}
theorem U_iadd {x y : Int32} (d : decode cc pc = .ok (.iadd, 1)) (k : U own cc nL ini F L C S D ca post ws cl sl (pc + 1) ls (.int (x + y) :: st)) : U own cc nL ini F L C S D ca post ws cl sl pc ls (.int y :: .int x :: st) := fun p l e s m args below meth c A H locs lsA K hP hD hS hl => lv_iadd K.1 K.2.1 d (k p l e s m args below meth c A H locs lsA K hP hD hS hl)
theorem U_iald {q0 a n : Nat} {i : Int32} {f : Nat → Int32} (ha : ws[q0]? = some (a, .inl (ca 0, n, .inl f))) (hin : vp_in i n) (d : decode cc pc = .ok (.iaload, 1)) (k : U own cc nL ini F L C S D ca post ws cl sl (pc + 1) ls (.int (f i.toNatClampNeg) :: st)) : U own cc nL ini F L C S D ca post ws cl sl pc ls (.int i :: .ref a :: st) := fun p l e s m args below meth c A H locs lsA K hP hD hS hl =>
  va_iald (D := D) K.1 K.2.1 K.2.2.2.2.2.2.2.1 hP q0 0 ha rfl hin d (k p l e s m args below meth c A H locs lsA K hP hD hS hl)
theorem U_zast {q0 a n : Nat} {i x : Int32} {f : Nat → Int32} (ha : ws[q0]? = some (a, .inl (ca 2, n, .inl f))) (hin : vp_in i n) (d : decode cc pc = .ok (.bastore, 1)) (k : U own cc nL ini F L C S D ca post (ws.set q0 (a, .inl (ca 2, n, .inl (upd f i.toNatClampNeg (vp_nar .boolean x))))) cl sl (pc + 1) ls st) : U own cc nL ini F L C S D ca post ws cl sl pc ls (.int x :: .int i :: .ref a :: st) := fun p l e s m args below meth c A H locs lsA K hP hD hS hl =>
  va_zast (D := D) K.1 K.2.1 K.2.2.2.2.2.2.2.1 hP hD hS q0 2 ha rfl hin d (fun H1 locs1 hP1 hD1 hS1 => k p l e s m args below meth c A H1 locs1 lsA K hP1 hD1 hS1 hl)
theorem U_row {q0 a t n : Nat} {f : Nat → Int32} (g : Nat → Int32) (ha : ws[q0]? = some (a, .inl (ca t, n, .inl f))) (h : ∀ j, j < n → f j = g j) (k : U own cc nL ini F L C S D ca post (ws.set q0 (a, .inl (ca t, n, .inl g))) cl sl pc ls st) : U own cc nL ini F L C S D ca post ws cl sl pc ls st := fun p l e s m args below meth c A H locs lsA K hP hD hS hl => by
  refine k p l e s m args below meth c A H locs lsA K (hP.set hD ha ?_ (fun _ _ => rfl)) (hD.set ha) hS hl
  have h1 := hP q0 _ ha
  show H[a]? = some (vp_cell (ca t) (n, .inl g))
  rw [← arrV_congr h]
  exact h1
end UN
def dr0 : Nat → Int32 := fun i => if i = 85 then 9 else if 32 ≤ i ∧ i < 48 then 5 else if 48 ≤ i ∧ i < 64 then -4 else 0
def dr1 (j : Nat) : Nat → Int32 := fun i => if 32 ≤ i ∧ i < 32 + j then 5 else if 48 ≤ i ∧ i < 48 + j then -4 else 0
section UL
variable {F L C S : Nat} {D : va_G} {ca : Nat → ClassId} {post : va_W → Prop} {cl sl : Nat}
theorem l_fd1 {ws : va_W} (a0 qd q0 : Nat) (fs : List Value) (hne : q0 ≠ 0) (hlt : q0 < ws.length) (h0 : ws[0]? = some (a0, .inr (11, fs))) (h6 : fs[6]? = some (.ref qd)) (k : ∀ g : Nat → Int32, (∀ i, i < 144 → g i = 0) → U R_Mod b_Mod_firstDraft 2 false F L C S D ca post (ws.set q0 (qd, .inl (ca 0, 144, .inl g))) cl sl 22 [some (.ref a0), some (.int 144)] []) : ∀ (d j : Nat) (x : Int32) (f : Nat → Int32), 144 - j = d → x.toInt = j → j ≤ 144 → (∀ i, i < j → f i = 0) → U R_Mod b_Mod_firstDraft 2 false F L C S D ca post (ws.set q0 (qd, .inl (ca 0, 144, .inl f))) cl sl 2 [some (.ref a0), some (.int x)] [] := by
  intro d
  induction d with
  | zero =>
    intro j x f hd hx hj hf
    have hj' : j = 144 := by (first | decide +kernel | omega)
    subst hj'
    have hx' : x = 144 := (ti_eq hx (show (144 : Int32).toInt = 144 by decide)).mpr rfl
    subst hx'
    refine U_iload_n 1 d_Mod_firstDraft_2 rfl rfl ?_
    refine U_sipush 144 d_Mod_firstDraft_3 (by decide) ?_
    refine U_icmp_ge 22 d_Mod_firstDraft_6 (by decide) (fun _ => k f hf) (fun c => absurd (by decide) c)
  | succ d ih =>
    intro j x f hd hx hj hf
    refine U_iload_n 1 d_Mod_firstDraft_2 rfl rfl ?_
    refine U_sipush 144 d_Mod_firstDraft_3 (by decide) ?_
    refine U_icmp_ge 22 d_Mod_firstDraft_6 (by decide) (fun c => absurd ((ti_le (show (144 : Int32).toInt = 144 by decide) hx).mp c) (by (first | decide +kernel | omega))) (fun _ => ?_)
    refine U_aload_n 0 d_Mod_firstDraft_9 rfl rfl ?_
    refine U_get (.ref qd) 0 fa_Mod_17 ((List.getElem?_set_ne hne).trans h0) h6 d_Mod_firstDraft_10 ?_
    refine U_iload_n 1 d_Mod_firstDraft_13 rfl rfl ?_
    refine U_iconst 0 d_Mod_firstDraft_14 (by decide) ?_
    refine U_iast (q0 := q0) (List.getElem?_set_self hlt) (vp_in_of_ti hx (by (first | decide +kernel | omega))) d_Mod_firstDraft_15 ?_
    refine U_eq _ (List.set_set ..) ?_
    refine U_iinc (v := x + 1) 1 [some (.ref a0), some (.int (x + 1))] d_Mod_firstDraft_16 rfl rfl (by decide) rfl rfl ?_
    refine U_goto 2 d_Mod_firstDraft_19 (by decide) ?_
    refine ih (j + 1) (x + 1) _ (by (first | decide +kernel | omega)) ?_ (by (first | decide +kernel | omega)) ?_
    · rw [ti_add hx (show (1 : Int32).toInt = 1 by decide) (by (first | decide +kernel | omega))]; omega
    · intro i hi
      have e : x.toNatClampNeg = j := by rw [ti_cl, hx]; omega
      rw [e]
      by_cases hij : i = j
      · subst hij; exact if_pos rfl
      · exact (if_neg hij).trans (hf i (by (first | decide +kernel | omega)))
theorem l_fd2 {ws : va_W} (a0 qd q0 : Nat) (fs : List Value) (hne : q0 ≠ 0) (hlt : q0 < ws.length) (h0 : ws[0]? = some (a0, .inr (11, fs))) (h6 : fs[6]? = some (.ref qd)) (k : ∀ g : Nat → Int32, (∀ i, i < 144 → g i = dr1 16 i) → U R_Mod b_Mod_firstDraft 2 false F L C S D ca post (ws.set q0 (qd, .inl (ca 0, 144, .inl g))) cl sl 57 [some (.ref a0), some (.int 16)] []) : ∀ (d j : Nat) (x : Int32) (f : Nat → Int32), 16 - j = d → x.toInt = j → j ≤ 16 → (∀ i, i < 144 → f i = dr1 j i) → U R_Mod b_Mod_firstDraft 2 false F L C S D ca post (ws.set q0 (qd, .inl (ca 0, 144, .inl f))) cl sl 24 [some (.ref a0), some (.int x)] [] := by
  intro d
  induction d with
  | zero =>
    intro j x f hd hx hj hf
    have hj' : j = 16 := by (first | decide +kernel | omega)
    subst hj'
    have hx' : x = 16 := (ti_eq hx (show (16 : Int32).toInt = 16 by decide)).mpr rfl
    subst hx'
    refine U_iload_n 1 d_Mod_firstDraft_24 rfl rfl ?_
    refine U_bipush 16 d_Mod_firstDraft_25 (by decide) ?_
    refine U_icmp_ge 57 d_Mod_firstDraft_27 (by decide) (fun _ => k f hf) (fun c => absurd (by decide) c)
  | succ d ih =>
    intro j x f hd hx hj hf
    have e1 : ((32 : Int32) + x).toInt = 32 + j := ti_add (by decide) hx (by (first | decide +kernel | omega))
    have e2 : ((48 : Int32) + x).toInt = 48 + j := ti_add (by decide) hx (by (first | decide +kernel | omega))
    have g1 : ((32 : Int32) + x).toNatClampNeg = 32 + j := by rw [ti_cl, e1]; omega
    have g2 : ((48 : Int32) + x).toNatClampNeg = 48 + j := by rw [ti_cl, e2]; omega
    refine U_iload_n 1 d_Mod_firstDraft_24 rfl rfl ?_
    refine U_bipush 16 d_Mod_firstDraft_25 (by decide) ?_
    refine U_icmp_ge 57 d_Mod_firstDraft_27 (by decide) (fun c => absurd ((ti_le (show (16 : Int32).toInt = 16 by decide) hx).mp c) (by (first | decide +kernel | omega))) (fun _ => ?_)
    refine U_aload_n 0 d_Mod_firstDraft_30 rfl rfl ?_
    refine U_get (.ref qd) 0 fa_Mod_17 ((List.getElem?_set_ne hne).trans h0) h6 d_Mod_firstDraft_31 ?_
    refine U_bipush 32 d_Mod_firstDraft_34 (by decide) ?_
    refine U_iload_n 1 d_Mod_firstDraft_36 rfl rfl ?_
    refine U_iadd d_Mod_firstDraft_37 ?_
    refine U_iconst 5 d_Mod_firstDraft_38 (by decide) ?_
    refine U_iast (q0 := q0) (List.getElem?_set_self hlt) (vp_in_of_ti e1 (by (first | decide +kernel | omega))) d_Mod_firstDraft_39 ?_
    refine U_eq _ (List.set_set ..) ?_
    refine U_aload_n 0 d_Mod_firstDraft_40 rfl rfl ?_
    refine U_get (.ref qd) 0 fa_Mod_17 ((List.getElem?_set_ne hne).trans h0) h6 d_Mod_firstDraft_41 ?_
    refine U_bipush 48 d_Mod_firstDraft_44 (by decide) ?_
    refine U_iload_n 1 d_Mod_firstDraft_46 rfl rfl ?_
    refine U_iadd d_Mod_firstDraft_47 ?_
    refine U_bipush (-4) d_Mod_firstDraft_48 (by decide) ?_
    refine U_iast (q0 := q0) (List.getElem?_set_self hlt) (vp_in_of_ti e2 (by (first | decide +kernel | omega))) d_Mod_firstDraft_50 ?_
    refine U_eq _ (List.set_set ..) ?_
    refine U_iinc (v := x + 1) 1 [some (.ref a0), some (.int (x + 1))] d_Mod_firstDraft_51 rfl rfl (by decide) rfl rfl ?_
    refine U_goto 24 d_Mod_firstDraft_54 (by decide) ?_
    refine ih (j + 1) (x + 1) _ (by (first | decide +kernel | omega)) ?_ (by (first | decide +kernel | omega)) ?_
    · rw [ti_add hx (show (1 : Int32).toInt = 1 by decide) (by (first | decide +kernel | omega))]; omega
    · intro i hi
      rw [g1, g2]
      have hfi := hf i hi
      show upd (upd f (32 + j) 5) (48 + j) (-4) i = _
      unfold upd
      unfold dr1 at hfi ⊢
      by_cases c1 : i = 48 + j
      · rw [if_pos c1, if_neg (by (first | decide +kernel | omega)), if_pos (by (first | decide +kernel | omega))]
      · rw [if_neg c1]
        by_cases c2 : i = 32 + j
        · rw [if_pos c2, if_pos (by (first | decide +kernel | omega))]
        · rw [if_neg c2, hfi]
          by_cases c3 : 32 ≤ i ∧ i < 32 + j
          · rw [if_pos c3, if_pos (by (first | decide +kernel | omega))]
          · rw [if_neg c3, if_neg (by (first | decide +kernel | omega) : ¬ (32 ≤ i ∧ i < 32 + (j + 1)))]
            by_cases c4 : 48 ≤ i ∧ i < 48 + j
            · rw [if_pos c4, if_pos (by (first | decide +kernel | omega))]
            · rw [if_neg c4, if_neg (by (first | decide +kernel | omega))]
theorem l_kd {ws : va_W} (a0 qs qd q0 q1 : Nat) (fs : List Value) (hne : q0 ≠ 0) (hn1 : q0 ≠ q1) (hlt : q0 < ws.length) (h0 : ws[0]? = some (a0, .inr (11, fs))) (h6 : fs[0]? = some (.ref qs)) (h7 : fs[6]? = some (.ref qd)) (h1 : ws[q1]? = some (qd, .inl (ca 0, 144, .inl dr0))) (k : ∀ g : Nat → Int32, (∀ i, i < 432 → g i = if i < 144 then dr0 i else 0) → U R_Mod b_Mod_keepDraft 2 false F L C S D ca post (ws.set q0 (qs, .inl (ca 0, 432, .inl g))) cl sl 27 [some (.ref a0), some (.int 144)] []) : ∀ (d j : Nat) (x : Int32) (f : Nat → Int32), 144 - j = d → x.toInt = j → j ≤ 144 → (∀ i, i < 432 → f i = if i < j then dr0 i else 0) → U R_Mod b_Mod_keepDraft 2 false F L C S D ca post (ws.set q0 (qs, .inl (ca 0, 432, .inl f))) cl sl 2 [some (.ref a0), some (.int x)] [] := by
  intro d
  induction d with
  | zero =>
    intro j x f hd hx hj hf
    have hj' : j = 144 := by (first | decide +kernel | omega)
    subst hj'
    have hx' : x = 144 := (ti_eq hx (show (144 : Int32).toInt = 144 by decide)).mpr rfl
    subst hx'
    refine U_iload_n 1 d_Mod_keepDraft_2 rfl rfl ?_
    refine U_sipush 144 d_Mod_keepDraft_3 (by decide) ?_
    refine U_icmp_ge 27 d_Mod_keepDraft_6 (by decide) (fun _ => k f hf) (fun c => absurd (by decide) c)
  | succ d ih =>
    intro j x f hd hx hj hf
    have e : x.toNatClampNeg = j := by rw [ti_cl, hx]; omega
    refine U_iload_n 1 d_Mod_keepDraft_2 rfl rfl ?_
    refine U_sipush 144 d_Mod_keepDraft_3 (by decide) ?_
    refine U_icmp_ge 27 d_Mod_keepDraft_6 (by decide) (fun c => absurd ((ti_le (show (144 : Int32).toInt = 144 by decide) hx).mp c) (by (first | decide +kernel | omega))) (fun _ => ?_)
    refine U_aload_n 0 d_Mod_keepDraft_9 rfl rfl ?_
    refine U_get (.ref qs) 0 fa_Mod_7 ((List.getElem?_set_ne hne).trans h0) h6 d_Mod_keepDraft_10 ?_
    refine U_iload_n 1 d_Mod_keepDraft_13 rfl rfl ?_
    refine U_aload_n 0 d_Mod_keepDraft_14 rfl rfl ?_
    refine U_get (.ref qd) 0 fa_Mod_17 ((List.getElem?_set_ne hne).trans h0) h7 d_Mod_keepDraft_15 ?_
    refine U_iload_n 1 d_Mod_keepDraft_18 rfl rfl ?_
    refine U_iald (q0 := q1) ((List.getElem?_set_ne hn1).trans h1) (vp_in_of_ti hx (by (first | decide +kernel | omega))) d_Mod_keepDraft_19 ?_
    refine U_iast (q0 := q0) (List.getElem?_set_self hlt) (vp_in_of_ti hx (by (first | decide +kernel | omega))) d_Mod_keepDraft_20 ?_
    refine U_eq _ (List.set_set ..) ?_
    refine U_iinc (v := x + 1) 1 [some (.ref a0), some (.int (x + 1))] d_Mod_keepDraft_21 rfl rfl (by decide) rfl rfl ?_
    refine U_goto 2 d_Mod_keepDraft_24 (by decide) ?_
    refine ih (j + 1) (x + 1) _ (by (first | decide +kernel | omega)) ?_ (by (first | decide +kernel | omega)) ?_
    · rw [ti_add hx (show (1 : Int32).toInt = 1 by decide) (by (first | decide +kernel | omega))]; omega
    · intro i hi
      rw [e]
      show upd f j (dr0 j) i = _
      unfold upd
      by_cases hij : i = j
      · subst hij; rw [if_pos rfl, if_pos (by (first | decide +kernel | omega))]
      · rw [if_neg hij, hf i hi]
        by_cases c : i < j
        · rw [if_pos c, if_pos (by (first | decide +kernel | omega))]
        · rw [if_neg c, if_neg (by (first | decide +kernel | omega))]
end UL
