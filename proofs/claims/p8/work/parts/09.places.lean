theorem sk_0 : vv_sk[0]? = some (.inr (1, [.inl 1, .inl 7, .inl 12, .inr false, .inr false])) := by decide +kernel
theorem sk_1 : vv_sk[1]? = some (.inr (2, [.inr false, .inr false, .inr false, .inr false, .inl 2, .inl 3, .inl 4, .inl 5, .inl 6])) := by decide +kernel
theorem sk_2 : vv_sk[2]? = some (vv_ar 16) := by decide +kernel
theorem sk_3 : vv_sk[3]? = some (vv_ar 16) := by decide +kernel
theorem sk_4 : vv_sk[4]? = some (vv_ar 16) := by decide +kernel
theorem sk_5 : vv_sk[5]? = some (vv_ar 16) := by decide +kernel
theorem sk_6 : vv_sk[6]? = some (vv_ar 16) := by decide +kernel
theorem sk_7 : vv_sk[7]? = some (.inr (3, [.inl 8, .inl 9, .inl 10, .inl 11, .inr false])) := by decide +kernel
theorem sk_8 : vv_sk[8]? = some (vv_ar 4) := by decide +kernel
theorem sk_9 : vv_sk[9]? = some (vv_ar 8) := by decide +kernel
theorem sk_10 : vv_sk[10]? = some (vv_ar 8) := by decide +kernel
theorem sk_11 : vv_sk[11]? = some (vv_ar 8) := by decide +kernel
theorem sk_12 : vv_sk[12]? = some (.inr (7, [.inl 13, .inl 14, .inl 15, .inl 16, .inr false])) := by decide +kernel
theorem sk_13 : vv_sk[13]? = some (vv_ar 8) := by decide +kernel
theorem sk_14 : vv_sk[14]? = some (vv_ar 8) := by decide +kernel
theorem sk_15 : vv_sk[15]? = some (vv_ar 8) := by decide +kernel
theorem sk_16 : vv_sk[16]? = some (vv_ar 8) := by decide +kernel
theorem sk_17 : vv_sk[17]? = some (.inr (1, [.inl 18, .inl 24, .inl 29, .inr false, .inr false])) := by decide +kernel
theorem sk_18 : vv_sk[18]? = some (.inr (2, [.inr false, .inr false, .inr false, .inr false, .inl 19, .inl 20, .inl 21, .inl 22, .inl 23])) := by decide +kernel
theorem sk_19 : vv_sk[19]? = some (vv_ar 16) := by decide +kernel
theorem sk_20 : vv_sk[20]? = some (vv_ar 16) := by decide +kernel
theorem sk_21 : vv_sk[21]? = some (vv_ar 16) := by decide +kernel
theorem sk_22 : vv_sk[22]? = some (vv_ar 16) := by decide +kernel
theorem sk_23 : vv_sk[23]? = some (vv_ar 16) := by decide +kernel
theorem sk_24 : vv_sk[24]? = some (.inr (3, [.inl 25, .inl 26, .inl 27, .inl 28, .inr false])) := by decide +kernel
theorem sk_25 : vv_sk[25]? = some (vv_ar 4) := by decide +kernel
theorem sk_26 : vv_sk[26]? = some (vv_ar 8) := by decide +kernel
theorem sk_27 : vv_sk[27]? = some (vv_ar 8) := by decide +kernel
theorem sk_28 : vv_sk[28]? = some (vv_ar 8) := by decide +kernel
theorem sk_29 : vv_sk[29]? = some (.inr (7, [.inl 30, .inl 31, .inl 32, .inl 33, .inr false])) := by decide +kernel
theorem sk_30 : vv_sk[30]? = some (vv_ar 8) := by decide +kernel
theorem sk_31 : vv_sk[31]? = some (vv_ar 8) := by decide +kernel
theorem sk_32 : vv_sk[32]? = some (vv_ar 8) := by decide +kernel
theorem sk_33 : vv_sk[33]? = some (vv_ar 8) := by decide +kernel
theorem sk_34 : vv_sk[34]? = some (.inr (1, [.inl 35, .inl 41, .inl 46, .inr false, .inr false])) := by decide +kernel
theorem sk_35 : vv_sk[35]? = some (.inr (2, [.inr false, .inr false, .inr false, .inr false, .inl 36, .inl 37, .inl 38, .inl 39, .inl 40])) := by decide +kernel
theorem sk_36 : vv_sk[36]? = some (vv_ar 16) := by decide +kernel
theorem sk_37 : vv_sk[37]? = some (vv_ar 16) := by decide +kernel
theorem sk_38 : vv_sk[38]? = some (vv_ar 16) := by decide +kernel
theorem sk_39 : vv_sk[39]? = some (vv_ar 16) := by decide +kernel
theorem sk_40 : vv_sk[40]? = some (vv_ar 16) := by decide +kernel
theorem sk_41 : vv_sk[41]? = some (.inr (3, [.inl 42, .inl 43, .inl 44, .inl 45, .inr false])) := by decide +kernel
theorem sk_42 : vv_sk[42]? = some (vv_ar 4) := by decide +kernel
theorem sk_43 : vv_sk[43]? = some (vv_ar 8) := by decide +kernel
theorem sk_44 : vv_sk[44]? = some (vv_ar 8) := by decide +kernel
theorem sk_45 : vv_sk[45]? = some (vv_ar 8) := by decide +kernel
theorem sk_46 : vv_sk[46]? = some (.inr (7, [.inl 47, .inl 48, .inl 49, .inl 50, .inr false])) := by decide +kernel
theorem sk_47 : vv_sk[47]? = some (vv_ar 8) := by decide +kernel
theorem sk_48 : vv_sk[48]? = some (vv_ar 8) := by decide +kernel
theorem sk_49 : vv_sk[49]? = some (vv_ar 8) := by decide +kernel
theorem sk_50 : vv_sk[50]? = some (vv_ar 8) := by decide +kernel
theorem sk_51 : vv_sk[51]? = some (.inr (1, [.inl 52, .inl 58, .inl 63, .inr false, .inr false])) := by decide +kernel
theorem sk_52 : vv_sk[52]? = some (.inr (2, [.inr false, .inr false, .inr false, .inr false, .inl 53, .inl 54, .inl 55, .inl 56, .inl 57])) := by decide +kernel
theorem sk_53 : vv_sk[53]? = some (vv_ar 16) := by decide +kernel
theorem sk_54 : vv_sk[54]? = some (vv_ar 16) := by decide +kernel
theorem sk_55 : vv_sk[55]? = some (vv_ar 16) := by decide +kernel
theorem sk_56 : vv_sk[56]? = some (vv_ar 16) := by decide +kernel
theorem sk_57 : vv_sk[57]? = some (vv_ar 16) := by decide +kernel
theorem sk_58 : vv_sk[58]? = some (.inr (3, [.inl 59, .inl 60, .inl 61, .inl 62, .inr false])) := by decide +kernel
theorem sk_59 : vv_sk[59]? = some (vv_ar 4) := by decide +kernel
theorem sk_60 : vv_sk[60]? = some (vv_ar 8) := by decide +kernel
theorem sk_61 : vv_sk[61]? = some (vv_ar 8) := by decide +kernel
theorem sk_62 : vv_sk[62]? = some (vv_ar 8) := by decide +kernel
theorem sk_63 : vv_sk[63]? = some (.inr (7, [.inl 64, .inl 65, .inl 66, .inl 67, .inr false])) := by decide +kernel
theorem sk_64 : vv_sk[64]? = some (vv_ar 8) := by decide +kernel
theorem sk_65 : vv_sk[65]? = some (vv_ar 8) := by decide +kernel
theorem sk_66 : vv_sk[66]? = some (vv_ar 8) := by decide +kernel
theorem sk_67 : vv_sk[67]? = some (vv_ar 8) := by decide +kernel
theorem sk_68 : vv_sk[68]? = some (.inr (1, [.inl 69, .inl 75, .inl 80, .inr false, .inr false])) := by decide +kernel
theorem sk_69 : vv_sk[69]? = some (.inr (2, [.inr false, .inr false, .inr false, .inr false, .inl 70, .inl 71, .inl 72, .inl 73, .inl 74])) := by decide +kernel
theorem sk_70 : vv_sk[70]? = some (vv_ar 16) := by decide +kernel
theorem sk_71 : vv_sk[71]? = some (vv_ar 16) := by decide +kernel
theorem sk_72 : vv_sk[72]? = some (vv_ar 16) := by decide +kernel
theorem sk_73 : vv_sk[73]? = some (vv_ar 16) := by decide +kernel
theorem sk_74 : vv_sk[74]? = some (vv_ar 16) := by decide +kernel
theorem sk_75 : vv_sk[75]? = some (.inr (3, [.inl 76, .inl 77, .inl 78, .inl 79, .inr false])) := by decide +kernel
theorem sk_76 : vv_sk[76]? = some (vv_ar 4) := by decide +kernel
theorem sk_77 : vv_sk[77]? = some (vv_ar 8) := by decide +kernel
theorem sk_78 : vv_sk[78]? = some (vv_ar 8) := by decide +kernel
theorem sk_79 : vv_sk[79]? = some (vv_ar 8) := by decide +kernel
theorem sk_80 : vv_sk[80]? = some (.inr (7, [.inl 81, .inl 82, .inl 83, .inl 84, .inr false])) := by decide +kernel
theorem sk_81 : vv_sk[81]? = some (vv_ar 8) := by decide +kernel
theorem sk_82 : vv_sk[82]? = some (vv_ar 8) := by decide +kernel
theorem sk_83 : vv_sk[83]? = some (vv_ar 8) := by decide +kernel
theorem sk_84 : vv_sk[84]? = some (vv_ar 8) := by decide +kernel
theorem sk_85 : vv_sk[85]? = some (.inr (10, [.inl 0, .inl 17, .inl 86, .inl 87, .inl 88, .inl 89, .inl 93, .inl 102, .inl 104, .inl 107, .inr false])) := by decide +kernel
theorem sk_86 : vv_sk[86]? = some (.inl (3, 2, some [34, 51])) := by decide +kernel
theorem sk_87 : vv_sk[87]? = some (.inl (2, 2, none)) := by decide +kernel
theorem sk_88 : vv_sk[88]? = some (.inr (5, [.inl 89, .inl 68, .inl 91, .inl 92, .inr false, .inr false, .inr false])) := by decide +kernel
theorem sk_89 : vv_sk[89]? = some (.inr (8, [.inl 90, .inr false, .inr false, .inr false, .inr false, .inr false])) := by decide +kernel
theorem sk_90 : vv_sk[90]? = some (.inl (1, 160, none)) := by decide +kernel
theorem sk_91 : vv_sk[91]? = some (vv_ar 3) := by decide +kernel
theorem sk_92 : vv_sk[92]? = some (vv_ar 10) := by decide +kernel
theorem sk_93 : vv_sk[93]? = some (.inr (9, [.inl 94, .inl 101])) := by decide +kernel
theorem sk_94 : vv_sk[94]? = some (.inl (5, 6, some [95, 96, 97, 98, 99, 100])) := by decide +kernel
theorem sk_95 : vv_sk[95]? = some (vv_ar 16) := by decide +kernel
theorem sk_96 : vv_sk[96]? = some (vv_ar 16) := by decide +kernel
theorem sk_97 : vv_sk[97]? = some (vv_ar 16) := by decide +kernel
theorem sk_98 : vv_sk[98]? = some (vv_ar 16) := by decide +kernel
theorem sk_99 : vv_sk[99]? = some (vv_ar 16) := by decide +kernel
theorem sk_100 : vv_sk[100]? = some (vv_ar 16) := by decide +kernel
theorem sk_101 : vv_sk[101]? = some (vv_ar 6) := by decide +kernel
theorem sk_102 : vv_sk[102]? = some (.inr (4, [.inl 103, .inr false, .inr false])) := by decide +kernel
theorem sk_103 : vv_sk[103]? = some (vv_ar 4) := by decide +kernel
theorem sk_104 : vv_sk[104]? = some (.inr (0, [.inl 105, .inr false, .inl 106, .inr false, .inr false, .inr false, .inr false, .inr false])) := by decide +kernel
theorem sk_105 : vv_sk[105]? = some (vv_ar 48) := by decide +kernel
theorem sk_106 : vv_sk[106]? = some (vv_ar 10) := by decide +kernel
theorem sk_107 : vv_sk[107]? = some (.inl (4, 4, some [108, 110, 112, 114])) := by decide +kernel
theorem sk_108 : vv_sk[108]? = some (.inr (6, [.inl 109, .inr false, .inr false])) := by decide +kernel
theorem sk_109 : vv_sk[109]? = some (vv_ar 40) := by decide +kernel
theorem sk_110 : vv_sk[110]? = some (.inr (6, [.inl 111, .inr false, .inr false])) := by decide +kernel
theorem sk_111 : vv_sk[111]? = some (vv_ar 40) := by decide +kernel
theorem sk_112 : vv_sk[112]? = some (.inr (6, [.inl 113, .inr false, .inr false])) := by decide +kernel
theorem sk_113 : vv_sk[113]? = some (vv_ar 40) := by decide +kernel
theorem sk_114 : vv_sk[114]? = some (.inr (6, [.inl 115, .inr false, .inr false])) := by decide +kernel
theorem sk_115 : vv_sk[115]? = some (vv_ar 40) := by decide +kernel
theorem sk_116 : vv_sk[116]? = some (.inr (11, [.inl 117, .inl 118, .inr false, .inr false, .inr false, .inr false, .inl 119, .inr false, .inr false, .inr false, .inr false, .inr false, .inl 120, .inr false, .inl 121, .inr false, .inr false, .inr false, .inr false, .inr false, .inr false, .inr false, .inl 122, .inl 123, .inl 124, .inr false, .inr true, .inl 125, .inr false, .inl 126, .inr false, .inl 127, .inl 128, .inl 129, .inl 130, .inr false, .inl 131])) := by decide +kernel
theorem sk_117 : vv_sk[117]? = some (vv_ar 432) := by decide +kernel
theorem sk_118 : vv_sk[118]? = some (.inl (2, 2, none)) := by decide +kernel
theorem sk_119 : vv_sk[119]? = some (vv_ar 144) := by decide +kernel
theorem sk_120 : vv_sk[120]? = some (vv_ar 6) := by decide +kernel
theorem sk_121 : vv_sk[121]? = some (vv_ar 160) := by decide +kernel
theorem sk_122 : vv_sk[122]? = some (vv_ar 128) := by decide +kernel
theorem sk_123 : vv_sk[123]? = some (vv_ar 4) := by decide +kernel
theorem sk_124 : vv_sk[124]? = some (vv_ar 4) := by decide +kernel
theorem sk_125 : vv_sk[125]? = some (vv_ar 48) := by decide +kernel
theorem sk_126 : vv_sk[126]? = some (vv_ar 4) := by decide +kernel
theorem sk_127 : vv_sk[127]? = some (vv_ar 16) := by decide +kernel
theorem sk_128 : vv_sk[128]? = some (vv_ar 4) := by decide +kernel
theorem sk_129 : vv_sk[129]? = some (vv_ar 4) := by decide +kernel
theorem sk_130 : vv_sk[130]? = some (vv_ar 160) := by decide +kernel
theorem sk_131 : vv_sk[131]? = some (vv_ar 20) := by decide +kernel
theorem lo_116 : ∀ j : Nat, j ≠ 26 → ([.inl 117, .inl 118, .inr false, .inr false, .inr false, .inr false, .inl 119, .inr false, .inr false, .inr false, .inr false, .inr false, .inl 120, .inr false, .inl 121, .inr false, .inr false, .inr false, .inr false, .inr false, .inr false, .inr false, .inl 122, .inl 123, .inl 124, .inr false, .inr true, .inl 125, .inr false, .inl 126, .inr false, .inl 127, .inl 128, .inl 129, .inl 130, .inr false, .inl 131] : List Sl)[j]? ≠ some (.inr true) := by
  intro j hj
  by_cases h : j < 37
  · have : ∀ j, j < 37 → j ≠ 26 → ([.inl 117, .inl 118, .inr false, .inr false, .inr false, .inr false, .inl 119, .inr false, .inr false, .inr false, .inr false, .inr false, .inl 120, .inr false, .inl 121, .inr false, .inr false, .inr false, .inr false, .inr false, .inr false, .inr false, .inl 122, .inl 123, .inl 124, .inr false, .inr true, .inl 125, .inr false, .inl 126, .inr false, .inl 127, .inl 128, .inl 129, .inl 130, .inr false, .inl 131] : List Sl)[j]? ≠ some (.inr true) := by decide +kernel
    exact this j h hj
  · rw [List.getElem?_eq_none (by simp; omega)]; intro q; cases q
theorem wmax1 : Cond.static Lib.Math.max.name ∈ vv_G := vv_Gin (List.mem_append_right _ (List.mem_append_right _ (List.mem_append_right _ (List.mem_append_left _ (List.mem_of_getElem? (i := 175) (by decide +kernel)))))) (by decide +kernel)
theorem wmax3 : Cond.code Lib.Math.max.name Lib.Math.max.code 2 (some .int) ∈ vv_G := vv_Gin (List.mem_append_right _ (List.mem_append_right _ (List.mem_append_right _ (List.mem_append_left _ (List.mem_of_getElem? (i := 176) (by decide +kernel)))))) (by decide +kernel)
theorem wmin1 : Cond.static Lib.Math.min.name ∈ vv_G := vv_Gin (List.mem_append_right _ (List.mem_append_right _ (List.mem_append_right _ (List.mem_append_right _ (List.mem_append_left _ (List.mem_of_getElem? (i := 190) (by decide +kernel))))))) (by decide +kernel)
theorem wmin3 : Cond.code Lib.Math.min.name Lib.Math.min.code 2 (some .int) ∈ vv_G := vv_Gin (List.mem_append_right _ (List.mem_append_right _ (List.mem_append_right _ (List.mem_append_right _ (List.mem_append_left _ (List.mem_of_getElem? (i := 191) (by decide +kernel))))))) (by decide +kernel)
theorem wM2 : Cond.initialized "java/lang/Math" ∈ vv_G := vv_Gin (List.mem_append_right _ (List.mem_append_left _ (List.mem_of_getElem? (i := 19) (by decide +kernel)))) (by decide +kernel)
theorem wA1 : Cond.native arraycopyName ∈ vv_G := vv_Gin (List.mem_append_right _ (List.mem_append_right _ (List.mem_append_right _ (List.mem_append_left _ (List.mem_of_getElem? (i := 89) (by decide +kernel)))))) (by decide +kernel)
theorem wA2 : Cond.static arraycopyName ∈ vv_G := vv_Gin (List.mem_append_right _ (List.mem_append_right _ (List.mem_append_right _ (List.mem_append_left _ (List.mem_of_getElem? (i := 88) (by decide +kernel)))))) (by decide +kernel)
theorem wA3 : Cond.initialized "java/lang/System" ∈ vv_G := vv_Gin (List.mem_append_right _ (List.mem_append_left _ (List.mem_of_getElem? (i := 18) (by decide +kernel)))) (by decide +kernel)
theorem t64_lt {x y : Int64} {A B : Int} (ha : x.toInt = A) (hb : y.toInt = B) : x < y ↔ A < B := by rw [Int64.lt_iff_toInt_lt, ha, hb]
theorem t64_eq {x y : Int64} {A B : Int} (ha : x.toInt = A) (hb : y.toInt = B) : x = y ↔ A = B := by rw [← Int64.toInt_inj, ha, hb]
theorem lcmp_ti {x y : Int64} {A B : Int} {z : Int32} {Z : Int} (ha : x.toInt = A) (hb : y.toInt = B) (e : z = lg_cmp x y) (hz : z.toInt = Z) : Z = 1 ∧ B < A ∨ Z = 0 ∧ A = B ∨ Z = -1 ∧ A < B := by
  subst e
  unfold lg_cmp at hz
  split at hz
  · next h => exact Or.inl ⟨hz.symm.trans rfl, (t64_lt hb ha).mp h⟩
  · next h =>
    have h1 := fun q => h ((t64_lt hb ha).mpr q)
    split at hz
    · next h2 => exact Or.inr (Or.inl ⟨hz.symm.trans rfl, (t64_eq ha hb).mp h2⟩)
    · next h2 =>
      have h3 := fun q => h2 ((t64_eq ha hb).mpr q)
      refine Or.inr (Or.inr ⟨hz.symm.trans (by rfl), ?_⟩)
      rcases Int.lt_trichotomy A B with q | q | q
      · exact q
      · exact absurd q h3
      · exact absurd q h1
theorem gridAt {I : Int} (hI : 0 ≤ I ∧ I < 6) : ([95, 96, 97, 98, 99, 100] : List Nat)[I.toNat]? = some (95 + I.toNat) := by
  rcases (by (first | decide +kernel | omega) : I = 0 ∨ I = 1 ∨ I = 2 ∨ I = 3 ∨ I = 4 ∨ I = 5) with rfl | rfl | rfl | rfl | rfl | rfl <;> rfl
theorem gridSk {I : Int} (hI : 0 ≤ I ∧ I < 6) : vv_sk[95 + I.toNat]? = some (vv_ar 16) := by
  rcases (by (first | decide +kernel | omega) : I = 0 ∨ I = 1 ∨ I = 2 ∨ I = 3 ∨ I = 4 ∨ I = 5) with rfl | rfl | rfl | rfl | rfl | rfl
  · exact sk_95
  · exact sk_96
  · exact sk_97
  · exact sk_98
  · exact sk_99
  · exact sk_100
