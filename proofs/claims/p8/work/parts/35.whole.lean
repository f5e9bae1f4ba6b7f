theorem whole_start {p : Program} {e : Env} {s : State} {m : MethodId} {below : List Frame} {meth : Method} {c : Code} (l : Launch) {b L : Nat} {xs : Nat → Int32} (hL : L ≤ 320) (C0 : lw_At p s m meth c b L xs) : W p l e room_1 s m #[Value.ref b] below meth c s.heap [] 0 0 (lw_Z below #[Value.ref b] s) (entryFrame m ([Value.ref b] : List Value).toArray 4) := by
  obtain ⟨hx, hcc, hret, hml, hown, htb, hX, hbl, hlocks, hgv⟩ := C0
  have hts : ∀ w ∈ vv_G, w.before #[Value.ref b] s = true := fun w hw => htb w (List.mem_filter.mp hw).1
  obtain ⟨D, hD0⟩ := st_D hts
  obtain ⟨ca, hca⟩ := st_ca htb
  have hK : va_K D classes (tysC ca) s := ⟨hD0, hca⟩
  have hKw : Kw s := st_Kw htb
  obtain ⟨ro, hRo⟩ := st_Ro (A := fun q => s.heap.size ≤ q) htb hgv (fun a h1 h2 => absurd h1 (Nat.not_lt.mpr h2))
  have hA : ∀ q : Nat, s.heap.size ≤ q → (fun q => s.heap.size ≤ q) q := fun q h => h
  have hl := lv_entry [Value.ref b] (n := 4) (Nat.le_of_ble_eq_true rfl)
  rw [lg_entry_eq]
  generalize (lg_sl [Value.ref b] ++ List.replicate (4 - (lg_sl [Value.ref b]).length) Slot.unset).toArray = lsA at hl ⊢
  have hl1 : lh (fun k => k) lsA 4 [some (.ref b), none, none, none] := ⟨hl.1, hl.2.1, fun i v hi => by
    match i, hi with
    | 0, hi => cases hi; exact hl.2.2 (0, .ref b) List.mem_cons_self
    | 1, hi => cases hi
    | 2, hi => cases hi
    | 3, hi => cases hi
    | _ + 4, hi => cases hi⟩
  refine lz_new (A := fun q => s.heap.size ≤ q) (ws := []) (cl := 0) (sl := 0) (pc := 0) (post := fun a w => PRod ca a w) hx hcc hml hown hts hK hKw hA t_Rod rfl i_Rod t_Rod_ok wk_law_R wi_Rod wn_Rod wd_law_R dl_0 dl_3 dl_4 ck_law_9 (fun a => k_Rod_init D ca a) (by decide) (by decide) (by decide) (by decide) (fun k q hk => by rw [List.getElem?_nil] at hk; cases hk) ⟨fun i j p q hi => (by rw [List.getElem?_nil] at hi; cases hi), fun k q hk => (by rw [List.getElem?_nil] at hk; cases hk)⟩ va_S.rf hl1.1 (fun a0 w1 H1 locs1 hp1 hP1 hD1 hS1 => ?_)
  rw [List.nil_append] at hP1 hD1
  refine lv_astore_n hx hcc dl_7 rfl (asc_has hl1) (by decide) rfl (fun lsB hB => ?_)
  have hl2 : lh (fun k => k) lsB 4 [some (.ref b), some (.ref a0), none, none] := lh_set1 (i := 1) (ls := [some (.ref b), none, none, none]) (v := .ref a0) rfl rfl rfl hB
  refine lz_new (A := fun q => s.heap.size ≤ q) (ws := w1) (post := fun a w => PMod ca a w) hx hcc hml hown hts hK hKw hA t_Mod rfl i_Mod t_Mod_ok wk_law_M wi_Mod wn_Mod wd_law_M dl_8 dl_11 dl_12 ck_law_12 (fun a => k_Mod_init D ca a) (by decide) (by decide) (by decide) (by decide) hP1 hD1 hS1 hl2.1 (fun m0 w2 H2 locs2 hp2 hP2 hD2 hS2 => ?_)
  refine lv_astore_n hx hcc dl_15 rfl (asc_has hl2) (by decide) rfl (fun lsC hC => ?_)
  have hl3 : lh (fun k => k) lsC 4 [some (.ref b), some (.ref a0), some (.ref m0), none] := lh_set1 (i := 2) (ls := [some (.ref b), some (.ref a0), none, none]) (v := .ref m0) rfl rfl rfl hC
  refine lv_iconst (v := 0) hx hcc dl_16 (by decide) ?_
  refine lv_istore_n hx hcc dl_17 rfl (asc_has hl3) (by decide) rfl (fun lsD hDD => ?_)
  have hl4 : lh (fun k => k) lsD 4 [some (.ref b), some (.ref a0), some (.ref m0), some (.int 0)] := lh_set1 (i := 3) (ls := [some (.ref b), some (.ref a0), some (.ref m0), none]) (v := .int 0) rfl rfl rfl hDD
  obtain ⟨v, v85, v116, v200, vro, hw⟩ := st_fin ca ro b a0 m0 w1 w2 hp1 hp2
  rw [hw] at hP2 hD2
  have hz : ∀ k, k < 132 → ∃ q, (wsX (D, v, ca) h0)[k]? = some q ∧ q.1 = v k ∧ (WD ca v)[st_pm.getD k 0]? = some q := fun k hk => by
    have h1 := st_all D ca v k hk
    have h2 : vv_sk[k]? = some (vv_sk[k]'(by rw [vv_skN]; exact hk)) := List.getElem?_eq_getElem _
    rw [h2] at h1
    exact ⟨_, wsX_get h2, rfl, h1⟩
  have hPX : va_P D classes (wsX (D, v, ca) h0) H2 := fun k q hk => by
    obtain ⟨q', g1, -, g3⟩ := hz k (wsX_inv hk).1
    rw [hk] at g1
    cases g1
    exact hP2 _ _ g3
  have hAd : adOk (D, v, ca) (fun q => s.heap.size ≤ q) := ⟨fun i j hi hj e => by
      obtain ⟨q1, -, g1, g2⟩ := hz i hi
      obtain ⟨q2, -, g3, g4⟩ := hz j hj
      exact st_nd i hi j hj (hD2.1 _ _ q1 q2 g2 g4 (by rw [g1, g3]; exact e)), fun k hk => by
      obtain ⟨q1, -, g1, g2⟩ := hz k hk
      have := hD2.2 _ q1 g2
      rw [g1] at this
      exact this⟩
  have hl5 : lh v lsD 4 (LZ 0) := ⟨hl4.1, hl4.2.1, fun i w hi => by
    match i, hi with
    | 0, hi => cases hi; show lsD[0]? = some (.val (.ref (v 200))); rw [v200]; exact hl4.2.2 0 (.ref b) rfl
    | 1, hi => cases hi; show lsD[1]? = some (.val (.ref (v 85))); rw [v85]; exact hl4.2.2 1 (.ref a0) rfl
    | 2, hi => cases hi; show lsD[2]? = some (.val (.ref (v 116))); rw [v116]; exact hl4.2.2 2 (.ref m0) rfl
    | 3, hi => cases hi; exact hl4.2.2 3 (.int 0) rfl
    | _ + 4, hi => cases hi⟩
  exact law_loop hL (L + 5) 0 0 h0 (by (first | decide +kernel | omega)) (by decide) (by (first | decide +kernel | omega)) ⟨inv_h0, ⟨rfl, fun j hj => absurd (show (j : Int) < 0 from hj) (by (first | decide +kernel | omega)), rfl⟩, JA_h0, JB_h0, JS_h0⟩ p l e s m _ below meth c (D, v, ca) (fun q => s.heap.size ≤ q) H2 locs2 lsD ⟨hx, hcc, hml, hown, hts, hlocks, hret, hK, hAd, hA, hRo (D, v, ca) vro⟩ ⟨rfl, v200, hbl, Nat.not_le.mpr hbl, hX, fun q h => h⟩ hPX hS2 hl5
