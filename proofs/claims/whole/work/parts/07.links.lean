theorem cl_at {ci : Nat} (h : ci < 9) : vwCl[ci]? = some (ownN ci, clT ci, clN ci) := by
  rcases (by omega : ci = 0 ∨ ci = 1 ∨ ci = 2 ∨ ci = 3 ∨ ci = 4 ∨ ci = 5 ∨ ci = 6 ∨ ci = 7 ∨ ci = 8) with q | q | q | q | q | q | q | q | q <;> subst q <;> rfl
theorem cl_ty {ci : Nat} (h : ci < 9) : ∀ k, k < clN ci → parseFieldDescriptor (clT ci k).2.2.1 = some (clF ci k) := by
  rcases (by omega : ci = 0 ∨ ci = 1 ∨ ci = 2 ∨ ci = 3 ∨ ci = 4 ∨ ci = 5 ∨ ci = 6 ∨ ci = 7 ∨ ci = 8) with q | q | q | q | q | q | q | q | q <;> subst q
  · exact tyX0_ok
  · exact tyX1_ok
  · exact tyX2_ok
  · exact tyX3_ok
  · exact tyX4_ok
  · exact tyX5_ok
  · exact tyX6_ok
  · exact tyX7_ok
  · exact tyX8_ok
theorem cl_nm {ci : Nat} (h : ci < 9) : ∀ a, a < clN ci → ∀ b, b < clN ci → a ≠ b → (clT ci a).2.1 ≠ (clT ci b).2.1 := by
  rcases (by omega : ci = 0 ∨ ci = 1 ∨ ci = 2 ∨ ci = 3 ∨ ci = 4 ∨ ci = 5 ∨ ci = 6 ∨ ci = 7 ∨ ci = 8) with q | q | q | q | q | q | q | q | q <;> subst q
  · exact nmX0
  · exact nmX1
  · exact nmX2
  · exact nmX3
  · exact nmX4
  · exact nmX5
  · exact nmX6
  · exact nmX7
  · exact nmX8
theorem gd_mem {w : Jvm.Cond} (h1 : w ∈ lw_tbl) (h2 : goodWord w = true) : w ∈ gdW := List.mem_filter.mpr ⟨h1, h2⟩
theorem cl_good : (List.range 9).all (fun ci => (u_ws (ownN ci) (clT ci) (clN ci)).all goodWord) = true := by decide +kernel
theorem cl_ws {ci : Nat} (h : ci < 9) : ∀ w ∈ u_ws (ownN ci) (clT ci) (clN ci), w ∈ gdW := fun w hw => by
  have g : goodWord w = true := List.all_eq_true.mp (List.all_eq_true.mp cl_good ci (List.mem_range.mpr h)) w hw
  refine gd_mem ?_ g
  rcases (by omega : ci = 0 ∨ ci = 1 ∨ ci = 2 ∨ ci = 3 ∨ ci = 4 ∨ ci = 5 ∨ ci = 6 ∨ ci = 7 ∨ ci = 8) with q | q | q | q | q | q | q | q | q <;> subst q
  · exact inX0 w hw
  · exact inX1 w hw
  · exact inX2 w hw
  · exact inX3 w hw
  · exact inX4 w hw
  · exact inX5 w hw
  · exact inX6 w hw
  · exact inX7 w hw
  · exact inX8 w hw
theorem cl_own : (List.range 9).all (fun ci => (List.range (clN ci)).all (fun k => decide ((clT ci k).1 = ownN ci))) = true := by decide +kernel
theorem cl_ow {ci k : Nat} (h : ci < 9) (hk : k < clN ci) : (clT ci k).1 = ownN ci := of_decide_eq_true (List.all_eq_true.mp (List.all_eq_true.mp cl_own ci (List.mem_range.mpr h)) k (List.mem_range.mpr hk))
def fldK (qi : ((Nat × Nat) × Nat × Nat × Bool) × Nat) : Bool := decide (qi.1.2.1 < 9) && (decide (qi.1.2.2.1 < clN qi.1.2.1) && (match qi.1.2.2.2 with
  | true => decide (lw_tbl[qi.2]? = some (Cond.fieldLinkNest (ownN qi.1.1.1) qi.1.1.2 (ownN qi.1.2.1) (clT qi.1.2.1 qi.1.2.2.1).2.1 (clT qi.1.2.1 qi.1.2.2.1).2.2.1 RX7))
  | false => decide (lw_tbl[qi.2]? = some (Cond.fieldLink (ownN qi.1.1.1) qi.1.1.2 (ownN qi.1.2.1) (clT qi.1.2.1 qi.1.2.2.1).2.1 (clT qi.1.2.1 qi.1.2.2.1).2.2.1))))
def fldP : List Nat := [295, 303, 304, 305, 306, 307, 297, 237, 230, 187, 235, 299, 301, 195, 333, 335, 336, 243, 239, 234, 231, 229, 233, 186, 178, 238, 241, 244, 282, 283, 258, 260, 261, 140, 141, 147, 148, 143, 145, 144, 146, 188, 194, 198, 191, 177, 179, 181, 183, 185, 190, 193, 197, 376, 377, 378, 379, 380, 381, 382, 259, 384, 386, 387, 388, 391, 392, 142, 236, 180, 182, 189, 242, 232, 240, 245, 262, 383, 385, 298, 300, 302, 296, 192, 334, 389, 263, 196, 199, 390, 184, 884, 886, 887, 888, 889, 890, 891, 892, 899, 900, 901, 903, 904, 905, 906, 907, 885, 894, 895, 897, 896, 898, 893, 908, 902, 883]
theorem fldT_ok : (fldT.zip fldP).all fldK = true := by decide +kernel
theorem zip_ex {α : Type} : ∀ {T : List α} {P : List Nat}, T.length = P.length → ∀ {x : α}, x ∈ T → ∃ i, (x, i) ∈ T.zip P
  | [], _, _, _, h => by cases h
  | a :: T, [], e, _, _ => by cases e
  | a :: T, i :: P, e, x, h => by
    rcases List.mem_cons.mp h with q | q
    · subst q
      exact ⟨i, List.mem_cons_self⟩
    · obtain ⟨j, hj⟩ := zip_ex (T := T) (P := P) (Nat.succ.inj e) q
      exact ⟨j, List.mem_cons_of_mem _ hj⟩
theorem fldT_len : fldT.length = fldP.length := by decide +kernel
theorem find_map {α : Type} {T : List ((Nat × Nat) × α)} {own idx : Nat} {v : α} (h : (T.find? (fun q => q.1.1 == own && q.1.2 == idx)).map (·.2) = some v) : ((own, idx), v) ∈ T := by
  cases hf : T.find? (fun q => q.1.1 == own && q.1.2 == idx) with
  | none => rw [hf] at h; cases h
  | some q =>
    rw [hf] at h
    have h1 := List.find?_some hf
    have h2 := List.mem_of_find?_eq_some hf
    simp at h1 h
    obtain ⟨⟨a, b⟩, u⟩ := q
    simp at h1 h
    obtain ⟨rfl, rfl⟩ := h1
    subst h
    exact h2
theorem fld_ok {own idx ci k : Nat} {nest : Bool} (h : fldR own idx = some (ci, k, nest)) : ci < 9 ∧ k < clN ci ∧ (nest = false → Cond.fieldLink (ownN own) idx (ownN ci) (clT ci k).2.1 (clT ci k).2.2.1 ∈ gdW) ∧ (nest = true → Cond.fieldLinkNest (ownN own) idx (ownN ci) (clT ci k).2.1 (clT ci k).2.2.1 RX7 ∈ lw_tbl) := by
  obtain ⟨i, hi⟩ := zip_ex fldT_len (find_map h)
  have h1 := List.all_eq_true.mp fldT_ok _ hi
  unfold fldK at h1
  simp only [Bool.and_eq_true, decide_eq_true_eq] at h1
  obtain ⟨a, b, d⟩ := h1
  refine ⟨a, b, fun q => ?_, fun q => ?_⟩ <;> subst q <;> dsimp only at d
  · exact gd_mem (List.mem_of_getElem? (of_decide_eq_true d)) rfl
  · exact List.mem_of_getElem? (of_decide_eq_true d)
def mthP : List Nat := [294, 701, 702, 706, 714, 715, 710, 724, 719, 728, 723, 332, 737, 741, 750, 744, 228, 356, 529, 279, 372, 222, 225, 352, 573, 569, 139, 452, 453, 461, 465, 481, 489, 493, 497, 469, 473, 477, 485, 501, 505, 457, 172, 173, 131, 136, 169, 219, 276, 291, 329, 344, 432, 440, 448, 509, 517, 521, 525, 533, 537, 542, 546, 562, 565, 577, 360, 585, 591, 595, 602, 606, 614, 550, 634, 642, 646, 661, 669, 673, 685, 654, 697, 733, 758, 761, 769, 773, 789, 801, 805, 812, 820, 824, 829, 834, 839, 844, 853, 348, 364, 368, 658, 650, 665, 793, 808, 874, 875, 879, 968, 983, 979, 991, 1007, 999, 1003, 987, 995, 1046, 1034, 1038, 1042, 1022, 1018, 1030, 1118, 1014, 1026, 1054, 1066, 1074, 1106, 1110, 1114, 1122, 1126, 1130, 1142, 1154, 1159, 1163, 1171, 1175, 1183, 1203, 1220]
def mthK (qi : ((Nat × Nat) × Nat × Bool) × Nat) : Bool := match qi.1.2.1 with
  | 900 => !qi.1.2.2 && decide (lw_tbl[qi.2]? = some (Cond.methodLink (ownN qi.1.1.1) qi.1.1.2 arraycopyName))
  | 901 => !qi.1.2.2 && decide (lw_tbl[qi.2]? = some (Cond.methodLink (ownN qi.1.1.1) qi.1.1.2 objectInit))
  | 902 => !qi.1.2.2 && decide (lw_tbl[qi.2]? = some (Cond.methodLink (ownN qi.1.1.1) qi.1.1.2 Lib.Math.min.name))
  | y => match qi.1.2.2 with
    | true => decide (lw_tbl[qi.2]? = some (Cond.methodLinkNest (ownN qi.1.1.1) qi.1.1.2 (namB y) RX7))
    | false => decide (lw_tbl[qi.2]? = some (Cond.methodLink (ownN qi.1.1.1) qi.1.1.2 (namB y)))
theorem mthT_len : mthT.length = mthP.length := by decide +kernel
theorem mthT_ok : (mthT.zip mthP).all mthK = true := by decide +kernel
theorem mth_ok {own idx y : Nat} {nest : Bool} (h : mthR own idx = some (y, nest)) (hy : y < 195) : (nest = false → Cond.methodLink (ownN own) idx (namB y) ∈ gdW) ∧ (nest = true → Cond.methodLinkNest (ownN own) idx (namB y) RX7 ∈ lw_tbl) := by
  obtain ⟨i, hi⟩ := zip_ex mthT_len (find_map h)
  have h1 := List.all_eq_true.mp mthT_ok _ hi
  unfold mthK at h1
  dsimp only at h1
  split at h1
  · omega
  · omega
  · omega
  · refine ⟨fun q => ?_, fun q => ?_⟩ <;> subst q <;> dsimp only at h1
    · exact gd_mem (List.mem_of_getElem? (of_decide_eq_true h1)) rfl
    · exact List.mem_of_getElem? (of_decide_eq_true h1)
theorem mth_cp {own idx : Nat} {nest : Bool} (h : mthR own idx = some (900, nest)) : Cond.methodLink (ownN own) idx arraycopyName ∈ gdW := by
  obtain ⟨i, hi⟩ := zip_ex mthT_len (find_map h)
  have h1 := List.all_eq_true.mp mthT_ok _ hi
  unfold mthK at h1
  dsimp only at h1
  simp only [Bool.and_eq_true, decide_eq_true_eq] at h1
  exact gd_mem (List.mem_of_getElem? h1.2) rfl
theorem mth_oi {own idx : Nat} {nest : Bool} (h : mthR own idx = some (901, nest)) : Cond.methodLink (ownN own) idx objectInit ∈ gdW := by
  obtain ⟨i, hi⟩ := zip_ex mthT_len (find_map h)
  have h1 := List.all_eq_true.mp mthT_ok _ hi
  unfold mthK at h1
  dsimp only at h1
  simp only [Bool.and_eq_true, decide_eq_true_eq] at h1
  exact gd_mem (List.mem_of_getElem? h1.2) rfl
theorem mth_mn {own idx : Nat} {nest : Bool} (h : mthR own idx = some (902, nest)) : Cond.methodLink (ownN own) idx Lib.Math.min.name ∈ gdW := by
  obtain ⟨i, hi⟩ := zip_ex mthT_len (find_map h)
  have h1 := List.all_eq_true.mp mthT_ok _ hi
  unfold mthK at h1
  dsimp only at h1
  simp only [Bool.and_eq_true, decide_eq_true_eq] at h1
  exact gd_mem (List.mem_of_getElem? h1.2) rfl
theorem mn_ws : Cond.static Lib.Math.min.name ∈ gdW ∧ Cond.initialized "java/lang/Math" ∈ gdW ∧ Cond.code Lib.Math.min.name Lib.Math.min.code 2 (some .int) ∈ gdW := ⟨gd_mem (by decide +kernel) rfl, gd_mem (by decide +kernel) rfl, gd_mem (by decide +kernel) rfl⟩
theorem cp_ws : Cond.native arraycopyName ∈ gdW ∧ Cond.static arraycopyName ∈ gdW ∧ Cond.initialized "java/lang/System" ∈ gdW := ⟨gd_mem (by decide +kernel) rfl, gd_mem (by decide +kernel) rfl, gd_mem (by decide +kernel) rfl⟩
theorem oi_ws : Cond.instanceMethod objectInit ∈ gdW ∧ Cond.code objectInit ⟨#[0xb1]⟩ 1 none ∈ gdW := ⟨gd_mem (by decide +kernel) rfl, gd_mem (by decide +kernel) rfl⟩
def mIP : List (Nat × Nat × Nat × Nat) := [(293, 119, 292, 0), (700, 119, 699, 53), (705, 119, 704, 54), (718, 119, 717, 57), (709, 119, 708, 55), (713, 119, 712, 56), (727, 119, 726, 59), (722, 119, 721, 58), (331, 120, 330, 0), (736, 120, 735, 60), (740, 120, 739, 61), (743, 120, 742, 0), (227, 117, 226, 0), (355, 117, 354, 3), (576, 117, 575, 37), (532, 117, 531, 30), (528, 117, 527, 29), (524, 117, 523, 28), (580, 117, 579, 38), (553, 117, 552, 34), (605, 117, 604, 40), (609, 117, 608, 41), (617, 117, 616, 42), (676, 117, 675, 51), (811, 117, 810, 68), (278, 118, 277, 0), (367, 118, 366, 6), (375, 118, 374, 8), (371, 118, 370, 7), (221, 116, 220, 0), (351, 116, 350, 2), (856, 116, 855, 75), (568, 116, 567, 35), (572, 116, 571, 36), (637, 116, 636, 43), (138, 114, 137, 0), (435, 114, 434, 9), (443, 114, 442, 10), (451, 114, 450, 11), (464, 114, 463, 14), (468, 114, 467, 15), (484, 114, 483, 19), (492, 114, 491, 21), (496, 114, 495, 22), (500, 114, 499, 23), (504, 114, 503, 24), (472, 114, 471, 16), (480, 114, 479, 18), (456, 114, 455, 12), (460, 114, 459, 13), (460, 114, 459, 13), (171, 115, 170, 0), (176, 115, 175, 0), (512, 115, 511, 26), (476, 115, 475, 17), (488, 115, 487, 20), (508, 115, 507, 25), (653, 115, 652, 46), (764, 115, 763, 62), (359, 115, 358, 4), (130, 113, 129, 0), (431, 113, 429, 430), (439, 113, 437, 438), (447, 113, 445, 446), (516, 113, 514, 515), (541, 113, 539, 540), (557, 113, 555, 556), (561, 113, 559, 560), (584, 113, 582, 583), (601, 113, 599, 600), (613, 113, 611, 612), (621, 113, 619, 620), (625, 113, 623, 624), (629, 113, 627, 628), (633, 113, 631, 632), (641, 113, 639, 640), (680, 113, 678, 679), (684, 113, 682, 683), (692, 113, 690, 691), (696, 113, 694, 695), (732, 113, 730, 731), (757, 113, 755, 756), (768, 113, 766, 767), (780, 113, 778, 779), (784, 113, 782, 783), (788, 113, 786, 787), (800, 113, 798, 799), (818, 113, 816, 817), (852, 113, 850, 851), (860, 113, 858, 859), (864, 113, 862, 863), (868, 113, 866, 867), (520, 113, 519, 27), (688, 113, 687, 52), (545, 113, 544, 32), (564, 113, 563, 0), (760, 113, 759, 0), (347, 113, 346, 1), (363, 113, 362, 5), (549, 113, 548, 33), (536, 113, 535, 31), (657, 113, 656, 47), (660, 113, 659, 0), (645, 113, 644, 44), (649, 113, 648, 45), (664, 113, 663, 48), (668, 113, 667, 49), (672, 113, 671, 50), (594, 113, 593, 39), (772, 113, 771, 63), (776, 113, 775, 64), (792, 113, 791, 65), (796, 113, 795, 66), (804, 113, 803, 67), (807, 113, 806, 0), (814, 113, 813, 0), (823, 113, 822, 69), (827, 113, 826, 70), (832, 113, 831, 71), (837, 113, 836, 72), (842, 113, 841, 73), (847, 113, 846, 74), (873, 121, 872, 0), (970, 121, 969, 0), (967, 121, 965, 966), (974, 121, 972, 973), (986, 121, 985, 79), (982, 121, 981, 78), (994, 121, 993, 81), (1002, 121, 1001, 83), (990, 121, 989, 80), (1009, 121, 1008, 0), (1006, 121, 1005, 84), (998, 121, 997, 82), (878, 121, 877, 76), (882, 121, 881, 77), (978, 121, 976, 977), (1017, 121, 1016, 85), (1057, 121, 1056, 94), (1021, 121, 1020, 86), (1222, 121, 1221, 0), (1025, 121, 1024, 87), (1037, 121, 1036, 90), (1041, 121, 1040, 91), (1049, 121, 1048, 93), (1045, 121, 1044, 92), (1033, 121, 1032, 89), (1029, 121, 1028, 88), (1113, 121, 1112, 98), (1121, 121, 1120, 100), (1117, 121, 1116, 99), (1109, 121, 1108, 97), (1129, 121, 1128, 102), (1125, 121, 1124, 101), (1133, 121, 1132, 103), (1013, 121, 1011, 1012), (1053, 121, 1051, 1052), (1061, 121, 1059, 1060), (1069, 121, 1068, 95), (1077, 121, 1076, 96), (1065, 121, 1063, 1064), (1073, 121, 1071, 1072), (1081, 121, 1079, 1080), (1085, 121, 1083, 1084), (1089, 121, 1087, 1088), (1093, 121, 1091, 1092), (1097, 121, 1095, 1096), (1101, 121, 1099, 1100), (1105, 121, 1103, 1104), (1137, 121, 1135, 1136), (1145, 121, 1144, 104), (1141, 121, 1139, 1140), (1149, 121, 1147, 1148), (1157, 121, 1156, 105), (1166, 121, 1165, 107), (1162, 121, 1161, 106), (1153, 121, 1151, 1152), (1178, 121, 1177, 109), (1174, 121, 1173, 108), (1170, 121, 1168, 1169), (1186, 121, 1185, 110), (1182, 121, 1180, 1181), (1190, 121, 1188, 1189), (1194, 121, 1192, 1193), (1198, 121, 1196, 1197), (1206, 121, 1205, 111), (1202, 121, 1200, 1201), (1210, 121, 1208, 1209), (1214, 121, 1212, 1213), (1227, 121, 1225, 1226), (1231, 121, 1229, 1230), (1235, 121, 1233, 1234), (1239, 121, 1237, 1238), (587, 122, 586, 0), (746, 124, 745, 0)]
def mIK (qi : mInfo × Nat × Nat × Nat × Nat) : Bool :=
  decide (lw_tbl[qi.2.1]? = some (Cond.code qi.1.2.1 qi.1.2.2.1 qi.1.2.2.2.1 qi.1.2.2.2.2.1))
def mI1 (qi : mInfo × Nat × Nat × Nat × Nat) : Bool := decide (lw_tbl[qi.2.2.1]? = some (Cond.initialized qi.1.2.1.cls))
def mI2 (qi : mInfo × Nat × Nat × Nat × Nat) : Bool := decide (qi.1.2.1.cls ≠ "java/lang/invoke/MethodHandle") && decide (qi.1.2.1.cls ≠ "java/lang/invoke/VarHandle")
def mI3 (qi : mInfo × Nat × Nat × Nat × Nat) : Bool := decide ((parseMethodDescriptor qi.1.2.1.desc).map (fun d => d.parameters.length) = some qi.1.2.2.2.2.2.1)
def mI4 (qi : mInfo × Nat × Nat × Nat × Nat) : Bool := decide (qi.1.2.1.cls = ownN qi.1.1)
def mI5 (qi : mInfo × Nat × Nat × Nat × Nat) : Bool := Jvm.plainName qi.1.2.1.cls && decide (qi.1.2.2.2.1 ≤ 40)
def mI6 (qi : mInfo × Nat × Nat × Nat × Nat) : Bool := (match qi.1.2.2.2.2.2.2 with
    | true => decide (lw_tbl[qi.2.2.2.1]? = some (Cond.static qi.1.2.1))
    | false => decide (qi.1.1 < 9) && decide (lw_tbl[qi.2.2.2.1]? = some (Cond.instanceMethod qi.1.2.1)))
def mI7 (qi : mInfo × Nat × Nat × Nat × Nat) : Bool := (match qi.1.2.2.2.2.2.2 with
    | true => true
    | false => (match qi.1.2.1.name == "<init>" with
      | true => decide (qi.1.2.2.2.2.1 = none)
      | false => decide (lw_tbl[qi.2.2.2.2]? = some (Cond.selects qi.1.2.1.cls qi.1.2.1 qi.1.2.1))))
theorem mTab_len : mTab.length = 195 ∧ mIP.length = 195 := by decide +kernel
theorem mTab_mI1 : (mTab.zip mIP).all mI1 = true := by decide +kernel
theorem mTab_mI2 : (mTab.zip mIP).all mI2 = true := by decide +kernel
theorem mTab_mI3 : (mTab.zip mIP).all mI3 = true := by decide +kernel
theorem mTab_mI4 : (mTab.zip mIP).all mI4 = true := by decide +kernel
theorem mTab_mI5 : (mTab.zip mIP).all mI5 = true := by decide +kernel
theorem mTab_mI6 : (mTab.zip mIP).all mI6 = true := by decide +kernel
theorem mTab_mI7 : (mTab.zip mIP).all mI7 = true := by decide +kernel
def clsK (q : (Nat × Nat) × Nat) : Bool := match q.2 with
  | 105 => decide (Cond.classLink (ownN q.1.1) q.1.2 "[[I" ∈ lw_tbl)
  | ci => decide (ci < 9) && decide (Cond.classLink (ownN q.1.1) q.1.2 (ownN ci) ∈ lw_tbl)
theorem clsT_ok : clsT.all clsK = true := by decide +kernel
theorem cls_ok {own idx ci : Nat} (h : clsR own idx = some ci) (hc : ci < 9) : Cond.classLink (ownN own) idx (ownN ci) ∈ gdW := by
  have h1 := List.all_eq_true.mp clsT_ok _ (find_map h)
  unfold clsK at h1
  dsimp only at h1
  split at h1
  · omega
  · simp only [Bool.and_eq_true, decide_eq_true_eq] at h1
    exact gd_mem h1.2 rfl
theorem cls_2 {own idx : Nat} (h : clsR own idx = some 105) : Cond.classLink (ownN own) idx "[[I" ∈ gdW := by
  have h1 := List.all_eq_true.mp clsT_ok _ (find_map h)
  unfold clsK at h1
  dsimp only at h1
  exact gd_mem (of_decide_eq_true h1) rfl
theorem ins_all : (List.range 9).all (fun ci => decide (Cond.instantiable (ownN ci) (clN ci) ∈ lw_tbl) && decide (Cond.initialized (ownN ci) ∈ lw_tbl)) = true := by decide +kernel
theorem ins_ok {ci : Nat} (h : ci < 9) : Cond.instantiable (ownN ci) (clN ci) ∈ gdW ∧ Cond.initialized (ownN ci) ∈ gdW := by
  have h1 := List.all_eq_true.mp ins_all ci (List.mem_range.mpr h)
  simp only [Bool.and_eq_true, decide_eq_true_eq] at h1
  exact ⟨gd_mem h1.1 rfl, gd_mem h1.2 rfl⟩
theorem arc_ws : Cond.arrayClass .int ∈ gdW ∧ Cond.arrayClass .byte ∈ gdW ∧ Cond.arrayClass .boolean ∈ gdW := ⟨gd_mem (by decide +kernel) rfl, gd_mem (by decide +kernel) rfl, gd_mem (by decide +kernel) rfl⟩
theorem cst_all : cstT.all (fun q => decide (Cond.constant (ownN q.1.1) q.1.2 (Int32.ofInt q.2) ∈ lw_tbl)) = true := by decide +kernel
theorem cst_ok {own idx : Nat} {x : Int} (h : cstR own idx = some x) : Cond.constant (ownN own) idx (Int32.ofInt x) ∈ gdW := by
  have h1 := List.all_eq_true.mp cst_all _ (find_map h)
  simp only [decide_eq_true_eq] at h1
  exact gd_mem h1 rfl
theorem cstl_all : cstL.all (fun q => decide (Cond.constantLong (ownN q.1.1) q.1.2 (Int64.ofInt q.2) ∈ lw_tbl)) = true := by decide +kernel
theorem cstl_ok {own idx : Nat} {x : Int} (h : cstLR own idx = some x) : Cond.constantLong (ownN own) idx (Int64.ofInt x) ∈ gdW := by
  have h1 := List.all_eq_true.mp cstl_all _ (find_map h)
  simp only [decide_eq_true_eq] at h1
  exact gd_mem h1 rfl
theorem zip_at {α β : Type} : ∀ {T : List α} {P : List β}, T.length = P.length → ∀ {i : Nat} {x : α}, T[i]? = some x → ∃ z, (x, z) ∈ T.zip P
  | [], _, _, i, x, h => by simp at h
  | a :: T, [], e, _, _, _ => by cases e
  | a :: T, b :: P, e, i, x, h => by
    cases i with
    | zero => cases h; exact ⟨b, List.mem_cons_self⟩
    | succ i =>
      obtain ⟨z, hz⟩ := zip_at (T := T) (P := P) (Nat.succ.inj e) (i := i) (x := x) (by simpa using h)
      exact ⟨z, List.mem_cons_of_mem _ hz⟩
/-- what the tables say of a method that is called -/
theorem mI_ok {y : Nat} (hy : y < 195) : Cond.code (namB y) (codB y) (maxB y) (retB y) ∈ gdW ∧ Cond.initialized (namB y).cls ∈ gdW ∧ ((namB y).cls ≠ "java/lang/invoke/MethodHandle" ∧ (namB y).cls ≠ "java/lang/invoke/VarHandle") ∧ (parseMethodDescriptor (namB y).desc).map (fun d => d.parameters.length) = some (argB y) ∧ (namB y).cls = ownN (ownB y) ∧ Jvm.plainName (namB y).cls = true ∧ maxB y ≤ 40 ∧ (staB y = true → Cond.static (namB y) ∈ gdW) ∧ (staB y = false → ownB y < 9 ∧ Cond.instanceMethod (namB y) ∈ gdW ∧ (iniB y = true → retB y = none) ∧ (iniB y = false → Cond.selects (namB y).cls (namB y) (namB y) ∈ gdW)) := by
  have hq : mTab[y]? = some (mI y) := by
    unfold mI
    rw [List.getD_eq_getElem?_getD]
    cases h : mTab[y]? with
    | none =>
      have := List.getElem?_eq_none_iff.mp h
      have := mTab_len.1
      omega
    | some q => rfl
  obtain ⟨z, hz⟩ := zip_at (by rw [mTab_len.1, mTab_len.2] : mTab.length = mIP.length) hq
  have g1 := List.all_eq_true.mp mTab_mI1 _ hz
  have g2 := List.all_eq_true.mp mTab_mI2 _ hz
  have g3 := List.all_eq_true.mp mTab_mI3 _ hz
  have g4 := List.all_eq_true.mp mTab_mI4 _ hz
  have g5 := List.all_eq_true.mp mTab_mI5 _ hz
  have g6 := List.all_eq_true.mp mTab_mI6 _ hz
  have g7 := List.all_eq_true.mp mTab_mI7 _ hz
  unfold mI1 at g1
  unfold mI2 at g2
  unfold mI3 at g3
  unfold mI4 at g4
  unfold mI5 at g5
  unfold mI6 at g6
  unfold mI7 at g7
  simp only [Bool.and_eq_true, decide_eq_true_eq] at g1 g2 g3 g4 g5
  refine ⟨gd_mem (mTab_cw _ (List.mem_of_getElem? hq)) rfl, gd_mem (List.mem_of_getElem? g1) rfl, g2, g3, g4, g5.1, g5.2, fun hs => ?_, fun hs => ?_⟩
  · have hs2 : (mI y).2.2.2.2.2.2 = true := hs
    simp only [hs2] at g6
    exact gd_mem (List.mem_of_getElem? (of_decide_eq_true g6)) rfl
  · have hs2 : (mI y).2.2.2.2.2.2 = false := hs
    simp only [hs2] at g6 g7
    simp only [Bool.and_eq_true, decide_eq_true_eq] at g6
    refine ⟨g6.1, gd_mem (List.mem_of_getElem? g6.2) rfl, fun hi => ?_, fun hi => ?_⟩
    · have hi2 : ((mI y).2.1.name == "<init>") = true := hi
      simp only [hi2] at g7
      exact of_decide_eq_true g7
    · have hi2 : ((mI y).2.1.name == "<init>") = false := hi
      simp only [hi2] at g7
      exact gd_mem (List.mem_of_getElem? (of_decide_eq_true g7)) rfl
