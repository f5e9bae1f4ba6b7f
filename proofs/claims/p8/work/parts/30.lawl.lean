theorem law_loop {b0 Ls : Nat} {xs : Nat → Int32} (hL2 : Ls ≤ 320) : ∀ (d I : Nat) (i : Int32) (h : Hp), Ls + 5 - I ≤ d → i.toInt = I → I ≤ Ls → J h → ZW b0 Ls xs h 18 (LZ i) [] := by
  intro d
  induction d with
  | zero => intro I i h hd hi hIL; omega
  | succ d ih =>
    intro I i h hd hi hIL hJ
    have hLs : (Int32.ofNat Ls).toInt = Ls := by rw [Int32.toInt_ofNat_of_lt (by (first | decide +kernel | omega))]
    refine Z_iload_n 3 dl_18 rfl rfl ?_
    refine Z_aload_n 0 dl_19 rfl rfl ?_
    refine Z_slen rfl dl_20 ?_
    refine Z_iconst 5 dl_21 (by decide) ?_
    refine Z_isub hLs (show (5 : Int32).toInt = 5 by decide) (by (first | decide +kernel | omega)) dl_22 (fun z _ hz => ?_)
    refine Z_icmp_gt 1365 hi hz dl_23 (by decide) (fun _ => ?_) (fun hle => ?_)
    · refine Z_iconst 1 dl_1365 (by decide) ?_
      exact Z_ret dl_1366
    · have hL : I + 5 ≤ Ls := by (first | decide +kernel | omega)
      have K : ∀ h' : Hp, J h' → ZW b0 Ls xs h' 1359 (LZ i) [] := fun h' hJ' => by
        refine Z_iinc (v := i + 5) 3 (LZ (i + 5)) dl_1359 rfl rfl (by decide) rfl rfl ?_
        refine Z_goto 18 dl_1362 (by decide) ?_
        refine ih (I + 5) (i + 5) h' (by (first | decide +kernel | omega)) ?_ (by (first | decide +kernel | omega)) hJ'
        rw [ti_add hi (show (5 : Int32).toInt = 5 by decide) (by (first | decide +kernel | omega))]
        omega
      refine Z_aload_n 0 dl_26 rfl rfl ?_
      refine Z_iload_n 3 dl_27 rfl rfl ?_
      refine Z_sld hi (by (first | decide +kernel | omega)) dl_28 ?_
      refine Z_bipush 63 dl_29 (by decide) ?_
      refine Z_iand dl_31 (fun z _ => ?_)
      by_cases hr : z.toInt < 0 ∨ 36 < z.toInt
      · exact Z_tabOut 1359 rfl dl_32 hr (by decide) (K h hJ)
      · have hc : z.toInt = 0 ∨ z.toInt = 1 ∨ z.toInt = 2 ∨ z.toInt = 3 ∨ z.toInt = 4 ∨ z.toInt = 5 ∨ z.toInt = 6 ∨ z.toInt = 7 ∨ z.toInt = 8 ∨ z.toInt = 9 ∨ z.toInt = 10 ∨ z.toInt = 11 ∨ z.toInt = 12 ∨ z.toInt = 13 ∨ z.toInt = 14 ∨ z.toInt = 15 ∨ z.toInt = 16 ∨ z.toInt = 17 ∨ z.toInt = 18 ∨ z.toInt = 19 ∨ z.toInt = 20 ∨ z.toInt = 21 ∨ z.toInt = 22 ∨ z.toInt = 23 ∨ z.toInt = 24 ∨ z.toInt = 25 ∨ z.toInt = 26 ∨ z.toInt = 27 ∨ z.toInt = 28 ∨ z.toInt = 29 ∨ z.toInt = 30 ∨ z.toInt = 31 ∨ z.toInt = 32 ∨ z.toInt = 33 ∨ z.toInt = 34 ∨ z.toInt = 35 ∨ z.toInt = 36 := by (first | decide +kernel | omega)
        rcases hc with hc | hc | hc | hc | hc | hc | hc | hc | hc | hc | hc | hc | hc | hc | hc | hc | hc | hc | hc | hc | hc | hc | hc | hc | hc | hc | hc | hc | hc | hc | hc | hc | hc | hc | hc | hc | hc
        · exact Z_tabIn 196 hc dl_32 (by decide) (by decide) rfl (by decide) (law_0 hL2 hi hL hJ K)
        · exact Z_tabIn 219 hc dl_32 (by decide) (by decide) rfl (by decide) (law_1 hL2 hi hL hJ K)
        · exact Z_tabIn 242 hc dl_32 (by decide) (by decide) rfl (by decide) (law_2 hL2 hi hL hJ K)
        · exact Z_tabIn 255 hc dl_32 (by decide) (by decide) rfl (by decide) (law_3 hL2 hi hL hJ K)
        · exact Z_tabIn 268 hc dl_32 (by decide) (by decide) rfl (by decide) (law_4 hL2 hi hL hJ K)
        · exact Z_tabIn 291 hc dl_32 (by decide) (by decide) rfl (by decide) (law_5 hL2 hi hL hJ K)
        · exact Z_tabIn 324 hc dl_32 (by decide) (by decide) rfl (by decide) (law_6 hL2 hi hL hJ K)
        · exact Z_tabIn 347 hc dl_32 (by decide) (by decide) rfl (by decide) (law_7 hL2 hi hL hJ K)
        · exact Z_tabIn 380 hc dl_32 (by decide) (by decide) rfl (by decide) (law_8 hL2 hi hL hJ K)
        · exact Z_tabIn 429 hc dl_32 (by decide) (by decide) rfl (by decide) (law_9 hL2 hi hL hJ K)
        · exact Z_tabIn 462 hc dl_32 (by decide) (by decide) rfl (by decide) (law_10 hL2 hi hL hJ K)
        · exact Z_tabIn 495 hc dl_32 (by decide) (by decide) rfl (by decide) (law_11 hL2 hi hL hJ K)
        · exact Z_tabIn 528 hc dl_32 (by decide) (by decide) rfl (by decide) (law_12 hL2 hi hL hJ K)
        · exact Z_tabIn 561 hc dl_32 (by decide) (by decide) rfl (by decide) (law_13 hL2 hi hL hJ K)
        · exact Z_tabIn 604 hc dl_32 (by decide) (by decide) rfl (by decide) (law_14 hL2 hi hL hJ K)
        · exact Z_tabIn 627 hc dl_32 (by decide) (by decide) rfl (by decide) (law_15 hL2 hi hL hJ K)
        · exact Z_tabIn 650 hc dl_32 (by decide) (by decide) rfl (by decide) (law_16 hL2 hi hL hJ K)
        · exact Z_tabIn 693 hc dl_32 (by decide) (by decide) rfl (by decide) (law_17 hL2 hi hL hJ K)
        · exact Z_tabIn 762 hc dl_32 (by decide) (by decide) rfl (by decide) (law_18 hL2 hi hL hJ K)
        · exact Z_tabIn 785 hc dl_32 (by decide) (by decide) rfl (by decide) (law_19 hL2 hi hL hJ K)
        · exact Z_tabIn 798 hc dl_32 (by decide) (by decide) rfl (by decide) (law_20 hL2 hi hL hJ K)
        · exact Z_tabIn 821 hc dl_32 (by decide) (by decide) rfl (by decide) (law_21 hL2 hi hL hJ K)
        · exact Z_tabIn 854 hc dl_32 (by decide) (by decide) rfl (by decide) (law_22 hL2 hi hL hJ K)
        · exact Z_tabIn 907 hc dl_32 (by decide) (by decide) rfl (by decide) (law_23 hL2 hi hL hJ K)
        · exact Z_tabIn 950 hc dl_32 (by decide) (by decide) rfl (by decide) (law_24 hL2 hi hL hJ K)
        · exact Z_tabIn 1003 hc dl_32 (by decide) (by decide) rfl (by decide) (law_25 hL2 hi hL hJ K)
        · exact Z_tabIn 1026 hc dl_32 (by decide) (by decide) rfl (by decide) (law_26 hL2 hi hL hJ K)
        · exact Z_tabIn 1059 hc dl_32 (by decide) (by decide) rfl (by decide) (law_27 hL2 hi hL hJ K)
        · exact Z_tabIn 1082 hc dl_32 (by decide) (by decide) rfl (by decide) (law_28 hL2 hi hL hJ K)
        · exact Z_tabIn 1105 hc dl_32 (by decide) (by decide) rfl (by decide) (law_29 hL2 hi hL hJ K)
        · exact Z_tabIn 1138 hc dl_32 (by decide) (by decide) rfl (by decide) (law_30 hL2 hi hL hJ K)
        · exact Z_tabIn 1161 hc dl_32 (by decide) (by decide) rfl (by decide) (law_31 hL2 hi hL hJ K)
        · exact Z_tabIn 1184 hc dl_32 (by decide) (by decide) rfl (by decide) (law_32 hL2 hi hL hJ K)
        · exact Z_tabIn 1227 hc dl_32 (by decide) (by decide) rfl (by decide) (law_33 hL2 hi hL hJ K)
        · exact Z_tabIn 1270 hc dl_32 (by decide) (by decide) rfl (by decide) (law_34 hL2 hi hL hJ K)
        · exact Z_tabIn 1323 hc dl_32 (by decide) (by decide) rfl (by decide) (law_35 hL2 hi hL hJ K)
        · exact Z_tabIn 1336 hc dl_32 (by decide) (by decide) rfl (by decide) (law_36 hL2 hi hL hJ K)
