/-! the words of the tables: what each link of the code is -/
def WG : List Cond := lw_tbl.filter goodWord
theorem WG_of {w : Cond} (i : Nat) (h : lw_tbl[i]? = some w) (g : goodWord w = true) : w ∈ WG := List.mem_filter.mpr ⟨List.mem_of_getElem? h, g⟩
theorem WG_l (ws : List Cond) (ps : List Nat) (hp : ws = ps.filterMap (fun i => lw_tbl[i]?)) (h : ws.all goodWord = true) : ∀ w ∈ ws, w ∈ WG := by
  intro w hw
  have h1 := List.all_eq_true.mp h w hw
  rw [hp] at hw
  obtain ⟨i, -, hi⟩ := List.mem_filterMap.mp hw
  exact WG_of i hi h1
theorem WG_good {w : Cond} (h : w ∈ WG) : (w.onTables && w.keeps) = true ∨ ∃ ty, w = .arrayClass ty := good_of_word (List.mem_filter.mp h).2
def mlName (kd j : Nat) : MethodName := match kd with
  | 4 => objectInit | 5 => Lib.Math.min.name | 6 => arraycopyName | 7 => yJ0_length_8abf5 | 8 => yJ0_charAt_5068e | _ => mY j
def dflV (ci : Nat) : List Value := match ci with
  | 0 => [.null, .null, .null, .null, .null, .null, .null, .null, .int 0]
  | 1 => [.null, .null, .null, .null, .null, .int 0, .null, .null, .null, .null]
  | 2 => [.null, .null, .null, .null, .int 0, .int 0]
  | 3 => [.null, .null, .null, .null, .int 0, .int 0]
  | 4 => [.null, .int 0, .int 0, .int 0]
  | 5 => [.null, .null, .null, .null, .int 0]
  | 6 => [.null, .null, .null, .null, .null, .null, .null, .null, .null, .null, .int 0, .int 0, .int 0]
  | 7 => [.null, .int 0, .int 0, .null, .null, .null, .null, .null, .int 0, .null, .null, .null, .null, .int 0, .null, .null, .null, .int 0, .null, .null, .int 0, .null, .null, .null, .int 0, .int 0, .int 0, .int 0, .int 0, .int 0, .int 0, .int 0, .null, .null, .null, .null, .null, .int 0, .null, .null]
  | _ => []
set_option maxRecDepth 20000 in
theorem uwX0 : ∀ w ∈ u_ws RX0 TX0 9, w ∈ WG := WG_l _ [217, 219, 221, 223, 225, 227, 229, 231, 233] (by decide +kernel) (by decide +kernel)
theorem dvX0 : ∀ j, j < 9 → defaultValue (tyX0 j) = vp_V (dflV 0) j := by decide +kernel
theorem inX0 : Cond.initialized RX0 ∈ WG := WG_of 62 (by decide +kernel) (by decide +kernel)
theorem isX0 : Cond.instantiable RX0 9 ∈ WG := WG_of 183 (by decide +kernel) (by decide +kernel)
set_option maxRecDepth 20000 in
theorem uwX1 : ∀ w ∈ u_ws RX1 TX1 10, w ∈ WG := WG_l _ [110, 112, 114, 116, 118, 120, 122, 124, 126, 128] (by decide +kernel) (by decide +kernel)
theorem dvX1 : ∀ j, j < 10 → defaultValue (tyX1 j) = vp_V (dflV 1) j := by decide +kernel
theorem inX1 : Cond.initialized RX1 ∈ WG := WG_of 59 (by decide +kernel) (by decide +kernel)
theorem isX1 : Cond.instantiable RX1 10 ∈ WG := WG_of 81 (by decide +kernel) (by decide +kernel)
set_option maxRecDepth 20000 in
theorem uwX2 : ∀ w ∈ u_ws RX2 TX2 6, w ∈ WG := WG_l _ [285, 287, 289, 291, 293, 295] (by decide +kernel) (by decide +kernel)
theorem dvX2 : ∀ j, j < 6 → defaultValue (tyX2 j) = vp_V (dflV 2) j := by decide +kernel
theorem inX2 : Cond.initialized RX2 ∈ WG := WG_of 64 (by decide +kernel) (by decide +kernel)
theorem isX2 : Cond.instantiable RX2 6 ∈ WG := WG_of 268 (by decide +kernel) (by decide +kernel)
set_option maxRecDepth 20000 in
theorem uwX3 : ∀ w ∈ u_ws RX3 TX3 6, w ∈ WG := WG_l _ [254, 256, 258, 260, 262, 264] (by decide +kernel) (by decide +kernel)
theorem dvX3 : ∀ j, j < 6 → defaultValue (tyX3 j) = vp_V (dflV 3) j := by decide +kernel
theorem inX3 : Cond.initialized RX3 ∈ WG := WG_of 63 (by decide +kernel) (by decide +kernel)
theorem isX3 : Cond.instantiable RX3 6 ∈ WG := WG_of 237 (by decide +kernel) (by decide +kernel)
set_option maxRecDepth 20000 in
theorem uwX4 : ∀ w ∈ u_ws RX4 TX4 4, w ∈ WG := WG_l _ [172, 174, 176, 178] (by decide +kernel) (by decide +kernel)
theorem dvX4 : ∀ j, j < 4 → defaultValue (tyX4 j) = vp_V (dflV 4) j := by decide +kernel
theorem inX4 : Cond.initialized RX4 ∈ WG := WG_of 61 (by decide +kernel) (by decide +kernel)
theorem isX4 : Cond.instantiable RX4 4 ∈ WG := WG_of 161 (by decide +kernel) (by decide +kernel)
set_option maxRecDepth 20000 in
theorem uwX5 : ∀ w ∈ u_ws RX5 TX5 5, w ∈ WG := WG_l _ [149, 151, 153, 155, 157] (by decide +kernel) (by decide +kernel)
theorem dvX5 : ∀ j, j < 5 → defaultValue (tyX5 j) = vp_V (dflV 5) j := by decide +kernel
theorem inX5 : Cond.initialized RX5 ∈ WG := WG_of 60 (by decide +kernel) (by decide +kernel)
theorem isX5 : Cond.instantiable RX5 5 ∈ WG := WG_of 134 (by decide +kernel) (by decide +kernel)
set_option maxRecDepth 20000 in
theorem uwX6 : ∀ w ∈ u_ws RX6 TX6 13, w ∈ WG := WG_l _ [311, 313, 315, 317, 319, 321, 323, 325, 327, 329, 331, 333, 335] (by decide +kernel) (by decide +kernel)
theorem dvX6 : ∀ j, j < 13 → defaultValue (tyX6 j) = vp_V (dflV 6) j := by decide +kernel
theorem inX6 : Cond.initialized RX6 ∈ WG := WG_of 58 (by decide +kernel) (by decide +kernel)
theorem isX6 : Cond.instantiable RX6 13 ∈ WG := WG_of 73 (by decide +kernel) (by decide +kernel)
set_option maxRecDepth 20000 in
theorem uwX7 : ∀ w ∈ u_ws RX7 TX7 40, w ∈ WG := WG_l _ [838, 840, 842, 844, 846, 848, 850, 852, 854, 856, 858, 860, 862, 864, 866, 868, 870, 872, 874, 876, 878, 880, 882, 884, 886, 888, 890, 892, 894, 896, 898, 900, 902, 904, 906, 908, 910, 912, 914, 916] (by decide +kernel) (by decide +kernel)
theorem dvX7 : ∀ j, j < 40 → defaultValue (tyX7 j) = vp_V (dflV 7) j := by decide +kernel
theorem inX7 : Cond.initialized RX7 ∈ WG := WG_of 65 (by decide +kernel) (by decide +kernel)
theorem isX7 : Cond.instantiable RX7 40 ∈ WG := WG_of 793 (by decide +kernel) (by decide +kernel)
/-- what holds of a class of objects -/
def am_C (ci : Nat) (q : vw_C) : Prop := (∀ w ∈ u_ws q.1 q.2.1 q.2.2, w ∈ WG) ∧ Cond.initialized q.1 ∈ WG ∧ Cond.instantiable q.1 q.2.2 ∈ WG ∧ q.2.2 = (dfl ci).length ∧ q.1 = am_R ci ∧
  ∃ ty0 : Nat → FieldType, (∀ k, k < q.2.2 → parseFieldDescriptor (q.2.1 k).2.2.1 = some (ty0 k)) ∧ (∀ a, a < q.2.2 → ∀ b, b < q.2.2 → a ≠ b → (q.2.1 a).2.1 ≠ (q.2.1 b).2.1) ∧ ∀ j, j < q.2.2 → defaultValue (ty0 j) = vp_V (dflV ci) j
theorem am_cls {ci : Nat} {q : vw_C} (h : vwCl[ci]? = some q) : am_C ci q := by
  match ci, h with
  | 0, h => cases h; exact ⟨uwX0, inX0, isX0, rfl, rfl, tyX0, tyX0_ok, nmX0, dvX0⟩
  | 1, h => cases h; exact ⟨uwX1, inX1, isX1, rfl, rfl, tyX1, tyX1_ok, nmX1, dvX1⟩
  | 2, h => cases h; exact ⟨uwX2, inX2, isX2, rfl, rfl, tyX2, tyX2_ok, nmX2, dvX2⟩
  | 3, h => cases h; exact ⟨uwX3, inX3, isX3, rfl, rfl, tyX3, tyX3_ok, nmX3, dvX3⟩
  | 4, h => cases h; exact ⟨uwX4, inX4, isX4, rfl, rfl, tyX4, tyX4_ok, nmX4, dvX4⟩
  | 5, h => cases h; exact ⟨uwX5, inX5, isX5, rfl, rfl, tyX5, tyX5_ok, nmX5, dvX5⟩
  | 6, h => cases h; exact ⟨uwX6, inX6, isX6, rfl, rfl, tyX6, tyX6_ok, nmX6, dvX6⟩
  | 7, h => cases h; exact ⟨uwX7, inX7, isX7, rfl, rfl, tyX7, tyX7_ok, nmX7, dvX7⟩
  | ci + 8, h => simp [vwCl] at h
theorem am_C7 (ci : Nat) (h : ci < 8) : ∃ q : vw_C, vwCl[ci]? = some q := ⟨vwCl[ci]'(by simpa [vwCl] using h), List.getElem?_eq_getElem _⟩
/-- a field's entry -/
def am_fk (q : Nat) (ty : Option FieldType) (fin : Bool) : Bool := match q, ty with
  | 0, some .int => !fin
  | 1, some .boolean => !fin
  | 2, some (.object _) => !fin
  | 2, some (.array _) => !fin
  | 6, some (.object _) => fin
  | 6, some (.array _) => fin
  | 4, some .int => fin
  | 5, some .boolean => fin
  | _, _ => false
def am_fOK (e : Nat × Nat × Nat × Nat × Nat × Nat) : Bool := match e with
  | (o, n, ci, j, q, pl) => match vwCl[ci]? with
    | some (C, T, N) => decide (j < N) && decide (lw_tbl[pl]? = some (Cond.fieldLink (am_R o) n (T j).1 (T j).2.1 (T j).2.2.1)) && am_fk q (parseFieldDescriptor (T j).2.2.1) (T j).2.2.2 && decide ((T j).1 = C)
    | none => false
set_option maxRecDepth 20000 in
theorem am_FLT_ok : am_FLT.all am_fOK = true := by decide +kernel
theorem am_fld {p o n ci j q pl : Nat} (h : am_FLT[p]? = some (o, n, ci, j, q, pl)) : ∃ (C : String) (T : u_T) (N : Nat), vwCl[ci]? = some (C, T, N) ∧ j < N ∧ Cond.fieldLink (am_R o) n (T j).1 (T j).2.1 (T j).2.2.1 ∈ WG ∧ am_fk q (parseFieldDescriptor (T j).2.2.1) (T j).2.2.2 = true ∧ (T j).1 = C := by
  have h1 := List.all_eq_true.mp am_FLT_ok _ (List.mem_of_getElem? h)
  unfold am_fOK at h1
  dsimp only at h1
  split at h1
  · rename_i C T N hC
    simp only [Bool.and_eq_true, decide_eq_true_eq] at h1
    exact ⟨C, T, N, hC, h1.1.1.1, WG_of _ h1.1.1.2 rfl, h1.1.2, h1.2⟩
  · cases h1
def am_cOK (e : Nat × Nat × Nat × Nat) : Bool := match e with
  | (o, n, ci, pl) => decide (ci < 8) && decide (lw_tbl[pl]? = some (Cond.classLink (am_R o) n (am_R ci)))
set_option maxRecDepth 20000 in
theorem am_CLT_ok : am_CLT.all am_cOK = true := by decide +kernel
theorem am_cl {p o n ci pl : Nat} (h : am_CLT[p]? = some (o, n, ci, pl)) : ci < 8 ∧ Cond.classLink (am_R o) n (am_R ci) ∈ WG := by
  have h1 := List.all_eq_true.mp am_CLT_ok _ (List.mem_of_getElem? h)
  simp only [am_cOK, Bool.and_eq_true, decide_eq_true_eq] at h1
  exact ⟨h1.1, WG_of _ h1.2 rfl⟩
def am_mw (kd o n j : Nat) : Cond := match kd with
  | 2 => .methodLinkNest (am_R o) n (mY j) RX6
  | _ => .methodLink (am_R o) n (mlName kd j)
def am_mOK (e : Nat × Nat × Nat × Nat × Nat) : Bool := match e with
  | (o, n, kd, j, pl) => decide (lw_tbl[pl]? = some (am_mw kd o n j))
set_option maxRecDepth 20000 in
theorem am_MLT_ok : am_MLT.all am_mOK = true := by decide +kernel
theorem am_ml {p o n kd j pl : Nat} (h : am_MLT[p]? = some (o, n, kd, j, pl)) (hk : ¬ kd = 2) : Cond.methodLink (am_R o) n (mlName kd j) ∈ WG := by
  have h1 := List.all_eq_true.mp am_MLT_ok _ (List.mem_of_getElem? h)
  simp only [am_mOK, decide_eq_true_eq] at h1
  have e : am_mw kd o n j = Cond.methodLink (am_R o) n (mlName kd j) := by unfold am_mw; split <;> first | (exact absurd rfl hk) | rfl
  rw [e] at h1
  exact WG_of _ h1 rfl
theorem am_mlN {p o n j pl : Nat} (h : am_MLT[p]? = some (o, n, 2, j, pl)) : Cond.methodLinkNest (am_R o) n (mY j) RX6 ∈ lw_tbl := by
  have h1 := List.all_eq_true.mp am_MLT_ok _ (List.mem_of_getElem? h)
  simp only [am_mOK, decide_eq_true_eq] at h1
  exact List.mem_of_getElem? h1
def am_MPL : List (Nat × Nat × Nat × Nat) := [(186, 62, 185, 0), (598, 62, 596, 597), (585, 62, 583, 584), (634, 62, 632, 633), (84, 59, 83, 0), (346, 59, 344, 345), (354, 59, 352, 353), (359, 59, 357, 358), (367, 59, 365, 366), (385, 59, 383, 384), (381, 59, 379, 380), (699, 59, 697, 698), (405, 59, 403, 404), (764, 59, 762, 763), (397, 59, 395, 396), (401, 59, 400, 1), (622, 59, 620, 621), (626, 59, 624, 625), (630, 59, 628, 629), (642, 59, 640, 641), (271, 64, 270, 0), (735, 64, 733, 734), (727, 64, 725, 726), (723, 64, 721, 722), (751, 64, 749, 750), (768, 64, 766, 767), (240, 63, 239, 0), (610, 63, 608, 609), (614, 63, 613, 17), (618, 63, 617, 18), (638, 63, 637, 19), (647, 63, 646, 20), (654, 63, 653, 21), (658, 63, 656, 657), (662, 63, 661, 22), (666, 63, 665, 23), (164, 61, 163, 0), (459, 61, 457, 458), (471, 61, 469, 470), (475, 61, 474, 3), (483, 61, 482, 5), (562, 61, 561, 11), (574, 61, 573, 13), (579, 61, 578, 14), (549, 61, 548, 9), (554, 61, 553, 10), (545, 61, 544, 8), (567, 61, 566, 12), (540, 61, 539, 7), (488, 61, 487, 6), (479, 61, 478, 4), (137, 60, 136, 0), (427, 60, 425, 426), (419, 60, 417, 418), (443, 60, 441, 442), (447, 60, 445, 446), (606, 60, 604, 605), (747, 60, 745, 746), (756, 60, 754, 755), (76, 58, 75, 0), (342, 58, 340, 341), (363, 58, 361, 362), (371, 58, 369, 370), (389, 58, 387, 388), (393, 58, 391, 392), (409, 58, 407, 408), (423, 58, 421, 422), (431, 58, 429, 430), (435, 58, 433, 434), (451, 58, 449, 450), (455, 58, 453, 454), (463, 58, 461, 462), (467, 58, 465, 466), (590, 58, 588, 589), (670, 58, 668, 669), (674, 58, 672, 673), (678, 58, 676, 677), (682, 58, 680, 681), (686, 58, 684, 685), (690, 58, 688, 689), (695, 58, 693, 694), (703, 58, 701, 702), (715, 58, 713, 714), (719, 58, 717, 718), (731, 58, 729, 730), (739, 58, 737, 738), (743, 58, 741, 742), (760, 58, 758, 759), (772, 58, 770, 771), (776, 58, 774, 775), (780, 58, 778, 779), (784, 58, 782, 783), (791, 58, 789, 790), (350, 58, 349, 0), (374, 58, 373, 0), (377, 58, 376, 0), (412, 58, 411, 0), (415, 58, 414, 0), (439, 58, 438, 2), (594, 58, 593, 15), (602, 58, 601, 16), (707, 58, 706, 24), (711, 58, 710, 25), (796, 65, 795, 0), (929, 65, 928, 0), (933, 65, 932, 27), (926, 65, 925, 26), (981, 65, 980, 33), (993, 65, 992, 34), (922, 65, 920, 921), (937, 65, 935, 936), (945, 65, 944, 28), (941, 65, 939, 940), (949, 65, 947, 948), (957, 65, 956, 29), (969, 65, 968, 32), (965, 65, 964, 31), (961, 65, 960, 30), (953, 65, 951, 952), (973, 65, 971, 972), (977, 65, 975, 976), (985, 65, 983, 984), (997, 65, 996, 35), (989, 65, 987, 988), (1001, 65, 999, 1000), (1005, 65, 1003, 1004), (1009, 65, 1007, 1008), (1021, 65, 1020, 37), (1033, 65, 1032, 40), (1029, 65, 1028, 39), (1045, 65, 1044, 43), (1037, 65, 1036, 41), (1053, 65, 1052, 45), (1049, 65, 1048, 44), (1041, 65, 1040, 42), (1057, 65, 1056, 46), (1061, 65, 1060, 47), (1025, 65, 1024, 38), (1017, 65, 1016, 36), (1065, 65, 1064, 48), (1013, 65, 1011, 1012), (1077, 65, 1076, 50), (1081, 65, 1080, 51), (1085, 65, 1084, 52), (1089, 65, 1088, 53), (1093, 65, 1092, 54), (1073, 65, 1072, 49), (1069, 65, 1067, 1068), (1098, 65, 1096, 1097), (1102, 65, 1100, 1101), (1106, 65, 1104, 1105), (1110, 65, 1108, 1109), (1114, 65, 1112, 1113), (1118, 65, 1116, 1117), (1122, 65, 1120, 1121), (1126, 65, 1124, 1125), (1130, 65, 1128, 1129), (1138, 65, 1137, 55), (1134, 65, 1132, 1133), (1142, 65, 1140, 1141), (1146, 65, 1144, 1145), (1154, 65, 1153, 56), (1150, 65, 1148, 1149), (1158, 65, 1156, 1157), (1162, 65, 1160, 1161), (1166, 65, 1164, 1165), (1170, 65, 1168, 1169), (1174, 65, 1172, 1173), (1178, 65, 1176, 1177)]
def mSt : Nat → Bool := fun x => (bif Nat.blt x 85 then (bif Nat.blt x 42 then (bif Nat.blt x 21 then (bif Nat.blt x 10 then (bif Nat.blt x 5 then (bif Nat.blt x 2 then (bif Nat.blt x 1 then (bif Nat.beq x 0 then false else false) else (bif Nat.beq x 1 then false else false)) else (bif Nat.blt x 3 then (bif Nat.beq x 2 then false else false) else (bif Nat.blt x 4 then (bif Nat.beq x 3 then false else false) else (bif Nat.beq x 4 then false else false)))) else (bif Nat.blt x 7 then (bif Nat.blt x 6 then (bif Nat.beq x 5 then false else false) else (bif Nat.beq x 6 then false else false)) else (bif Nat.blt x 8 then (bif Nat.beq x 7 then false else false) else (bif Nat.blt x 9 then (bif Nat.beq x 8 then false else false) else (bif Nat.beq x 9 then false else false))))) else (bif Nat.blt x 15 then (bif Nat.blt x 12 then (bif Nat.blt x 11 then (bif Nat.beq x 10 then false else false) else (bif Nat.beq x 11 then false else false)) else (bif Nat.blt x 13 then (bif Nat.beq x 12 then false else false) else (bif Nat.blt x 14 then (bif Nat.beq x 13 then false else false) else (bif Nat.beq x 14 then false else false)))) else (bif Nat.blt x 18 then (bif Nat.blt x 16 then (bif Nat.beq x 15 then false else false) else (bif Nat.blt x 17 then (bif Nat.beq x 16 then false else false) else (bif Nat.beq x 17 then false else false))) else (bif Nat.blt x 19 then (bif Nat.beq x 18 then false else false) else (bif Nat.blt x 20 then (bif Nat.beq x 19 then false else false) else (bif Nat.beq x 20 then false else false)))))) else (bif Nat.blt x 31 then (bif Nat.blt x 26 then (bif Nat.blt x 23 then (bif Nat.blt x 22 then (bif Nat.beq x 21 then false else false) else (bif Nat.beq x 22 then false else false)) else (bif Nat.blt x 24 then (bif Nat.beq x 23 then false else false) else (bif Nat.blt x 25 then (bif Nat.beq x 24 then false else false) else (bif Nat.beq x 25 then false else false)))) else (bif Nat.blt x 28 then (bif Nat.blt x 27 then (bif Nat.beq x 26 then false else false) else (bif Nat.beq x 27 then false else false)) else (bif Nat.blt x 29 then (bif Nat.beq x 28 then false else false) else (bif Nat.blt x 30 then (bif Nat.beq x 29 then false else false) else (bif Nat.beq x 30 then false else false))))) else (bif Nat.blt x 36 then (bif Nat.blt x 33 then (bif Nat.blt x 32 then (bif Nat.beq x 31 then false else false) else (bif Nat.beq x 32 then false else false)) else (bif Nat.blt x 34 then (bif Nat.beq x 33 then false else false) else (bif Nat.blt x 35 then (bif Nat.beq x 34 then false else false) else (bif Nat.beq x 35 then false else false)))) else (bif Nat.blt x 39 then (bif Nat.blt x 37 then (bif Nat.beq x 36 then false else false) else (bif Nat.blt x 38 then (bif Nat.beq x 37 then false else false) else (bif Nat.beq x 38 then false else false))) else (bif Nat.blt x 40 then (bif Nat.beq x 39 then false else false) else (bif Nat.blt x 41 then (bif Nat.beq x 40 then false else false) else (bif Nat.beq x 41 then false else false))))))) else (bif Nat.blt x 63 then (bif Nat.blt x 52 then (bif Nat.blt x 47 then (bif Nat.blt x 44 then (bif Nat.blt x 43 then (bif Nat.beq x 42 then false else false) else (bif Nat.beq x 43 then false else false)) else (bif Nat.blt x 45 then (bif Nat.beq x 44 then false else false) else (bif Nat.blt x 46 then (bif Nat.beq x 45 then false else false) else (bif Nat.beq x 46 then false else false)))) else (bif Nat.blt x 49 then (bif Nat.blt x 48 then (bif Nat.beq x 47 then false else false) else (bif Nat.beq x 48 then false else false)) else (bif Nat.blt x 50 then (bif Nat.beq x 49 then false else false) else (bif Nat.blt x 51 then (bif Nat.beq x 50 then false else false) else (bif Nat.beq x 51 then false else false))))) else (bif Nat.blt x 57 then (bif Nat.blt x 54 then (bif Nat.blt x 53 then (bif Nat.beq x 52 then false else false) else (bif Nat.beq x 53 then false else false)) else (bif Nat.blt x 55 then (bif Nat.beq x 54 then false else false) else (bif Nat.blt x 56 then (bif Nat.beq x 55 then false else false) else (bif Nat.beq x 56 then false else false)))) else (bif Nat.blt x 60 then (bif Nat.blt x 58 then (bif Nat.beq x 57 then false else false) else (bif Nat.blt x 59 then (bif Nat.beq x 58 then false else false) else (bif Nat.beq x 59 then false else false))) else (bif Nat.blt x 61 then (bif Nat.beq x 60 then false else false) else (bif Nat.blt x 62 then (bif Nat.beq x 61 then false else false) else (bif Nat.beq x 62 then false else false)))))) else (bif Nat.blt x 74 then (bif Nat.blt x 68 then (bif Nat.blt x 65 then (bif Nat.blt x 64 then (bif Nat.beq x 63 then false else false) else (bif Nat.beq x 64 then false else false)) else (bif Nat.blt x 66 then (bif Nat.beq x 65 then false else false) else (bif Nat.blt x 67 then (bif Nat.beq x 66 then false else false) else (bif Nat.beq x 67 then false else false)))) else (bif Nat.blt x 71 then (bif Nat.blt x 69 then (bif Nat.beq x 68 then false else false) else (bif Nat.blt x 70 then (bif Nat.beq x 69 then false else false) else (bif Nat.beq x 70 then false else false))) else (bif Nat.blt x 72 then (bif Nat.beq x 71 then false else false) else (bif Nat.blt x 73 then (bif Nat.beq x 72 then false else false) else (bif Nat.beq x 73 then false else false))))) else (bif Nat.blt x 79 then (bif Nat.blt x 76 then (bif Nat.blt x 75 then (bif Nat.beq x 74 then false else false) else (bif Nat.beq x 75 then false else false)) else (bif Nat.blt x 77 then (bif Nat.beq x 76 then false else false) else (bif Nat.blt x 78 then (bif Nat.beq x 77 then false else false) else (bif Nat.beq x 78 then false else false)))) else (bif Nat.blt x 82 then (bif Nat.blt x 80 then (bif Nat.beq x 79 then false else false) else (bif Nat.blt x 81 then (bif Nat.beq x 80 then false else false) else (bif Nat.beq x 81 then false else false))) else (bif Nat.blt x 83 then (bif Nat.beq x 82 then false else false) else (bif Nat.blt x 84 then (bif Nat.beq x 83 then false else false) else (bif Nat.beq x 84 then false else false)))))))) else (bif Nat.blt x 127 then (bif Nat.blt x 106 then (bif Nat.blt x 95 then (bif Nat.blt x 90 then (bif Nat.blt x 87 then (bif Nat.blt x 86 then (bif Nat.beq x 85 then false else false) else (bif Nat.beq x 86 then false else false)) else (bif Nat.blt x 88 then (bif Nat.beq x 87 then false else false) else (bif Nat.blt x 89 then (bif Nat.beq x 88 then false else false) else (bif Nat.beq x 89 then false else false)))) else (bif Nat.blt x 92 then (bif Nat.blt x 91 then (bif Nat.beq x 90 then false else false) else (bif Nat.beq x 91 then false else false)) else (bif Nat.blt x 93 then (bif Nat.beq x 92 then false else false) else (bif Nat.blt x 94 then (bif Nat.beq x 93 then false else false) else (bif Nat.beq x 94 then true else false))))) else (bif Nat.blt x 100 then (bif Nat.blt x 97 then (bif Nat.blt x 96 then (bif Nat.beq x 95 then true else false) else (bif Nat.beq x 96 then true else false)) else (bif Nat.blt x 98 then (bif Nat.beq x 97 then true else false) else (bif Nat.blt x 99 then (bif Nat.beq x 98 then false else false) else (bif Nat.beq x 99 then false else false)))) else (bif Nat.blt x 103 then (bif Nat.blt x 101 then (bif Nat.beq x 100 then false else false) else (bif Nat.blt x 102 then (bif Nat.beq x 101 then false else false) else (bif Nat.beq x 102 then false else false))) else (bif Nat.blt x 104 then (bif Nat.beq x 103 then false else false) else (bif Nat.blt x 105 then (bif Nat.beq x 104 then true else false) else (bif Nat.beq x 105 then false else false)))))) else (bif Nat.blt x 116 then (bif Nat.blt x 111 then (bif Nat.blt x 108 then (bif Nat.blt x 107 then (bif Nat.beq x 106 then false else false) else (bif Nat.beq x 107 then false else false)) else (bif Nat.blt x 109 then (bif Nat.beq x 108 then false else false) else (bif Nat.blt x 110 then (bif Nat.beq x 109 then false else false) else (bif Nat.beq x 110 then false else false)))) else (bif Nat.blt x 113 then (bif Nat.blt x 112 then (bif Nat.beq x 111 then false else false) else (bif Nat.beq x 112 then false else false)) else (bif Nat.blt x 114 then (bif Nat.beq x 113 then false else false) else (bif Nat.blt x 115 then (bif Nat.beq x 114 then false else false) else (bif Nat.beq x 115 then false else false))))) else (bif Nat.blt x 121 then (bif Nat.blt x 118 then (bif Nat.blt x 117 then (bif Nat.beq x 116 then false else false) else (bif Nat.beq x 117 then false else false)) else (bif Nat.blt x 119 then (bif Nat.beq x 118 then false else false) else (bif Nat.blt x 120 then (bif Nat.beq x 119 then false else false) else (bif Nat.beq x 120 then false else false)))) else (bif Nat.blt x 124 then (bif Nat.blt x 122 then (bif Nat.beq x 121 then false else false) else (bif Nat.blt x 123 then (bif Nat.beq x 122 then false else false) else (bif Nat.beq x 123 then false else false))) else (bif Nat.blt x 125 then (bif Nat.beq x 124 then false else false) else (bif Nat.blt x 126 then (bif Nat.beq x 125 then false else false) else (bif Nat.beq x 126 then false else false))))))) else (bif Nat.blt x 148 then (bif Nat.blt x 137 then (bif Nat.blt x 132 then (bif Nat.blt x 129 then (bif Nat.blt x 128 then (bif Nat.beq x 127 then false else false) else (bif Nat.beq x 128 then false else false)) else (bif Nat.blt x 130 then (bif Nat.beq x 129 then false else false) else (bif Nat.blt x 131 then (bif Nat.beq x 130 then false else false) else (bif Nat.beq x 131 then false else false)))) else (bif Nat.blt x 134 then (bif Nat.blt x 133 then (bif Nat.beq x 132 then false else false) else (bif Nat.beq x 133 then false else false)) else (bif Nat.blt x 135 then (bif Nat.beq x 134 then false else false) else (bif Nat.blt x 136 then (bif Nat.beq x 135 then false else false) else (bif Nat.beq x 136 then false else false))))) else (bif Nat.blt x 142 then (bif Nat.blt x 139 then (bif Nat.blt x 138 then (bif Nat.beq x 137 then false else false) else (bif Nat.beq x 138 then false else false)) else (bif Nat.blt x 140 then (bif Nat.beq x 139 then false else false) else (bif Nat.blt x 141 then (bif Nat.beq x 140 then false else false) else (bif Nat.beq x 141 then false else false)))) else (bif Nat.blt x 145 then (bif Nat.blt x 143 then (bif Nat.beq x 142 then false else false) else (bif Nat.blt x 144 then (bif Nat.beq x 143 then false else false) else (bif Nat.beq x 144 then false else false))) else (bif Nat.blt x 146 then (bif Nat.beq x 145 then false else false) else (bif Nat.blt x 147 then (bif Nat.beq x 146 then false else false) else (bif Nat.beq x 147 then false else false)))))) else (bif Nat.blt x 159 then (bif Nat.blt x 153 then (bif Nat.blt x 150 then (bif Nat.blt x 149 then (bif Nat.beq x 148 then false else false) else (bif Nat.beq x 149 then false else false)) else (bif Nat.blt x 151 then (bif Nat.beq x 150 then false else false) else (bif Nat.blt x 152 then (bif Nat.beq x 151 then false else false) else (bif Nat.beq x 152 then false else false)))) else (bif Nat.blt x 156 then (bif Nat.blt x 154 then (bif Nat.beq x 153 then false else false) else (bif Nat.blt x 155 then (bif Nat.beq x 154 then false else false) else (bif Nat.beq x 155 then false else false))) else (bif Nat.blt x 157 then (bif Nat.beq x 156 then false else false) else (bif Nat.blt x 158 then (bif Nat.beq x 157 then false else false) else (bif Nat.beq x 158 then false else false))))) else (bif Nat.blt x 164 then (bif Nat.blt x 161 then (bif Nat.blt x 160 then (bif Nat.beq x 159 then false else false) else (bif Nat.beq x 160 then false else false)) else (bif Nat.blt x 162 then (bif Nat.beq x 161 then false else false) else (bif Nat.blt x 163 then (bif Nat.beq x 162 then false else false) else (bif Nat.beq x 163 then false else false)))) else (bif Nat.blt x 167 then (bif Nat.blt x 165 then (bif Nat.beq x 164 then false else false) else (bif Nat.blt x 166 then (bif Nat.beq x 165 then false else false) else (bif Nat.beq x 166 then false else false))) else (bif Nat.blt x 168 then (bif Nat.beq x 167 then false else false) else (bif Nat.blt x 169 then (bif Nat.beq x 168 then false else false) else (bif Nat.beq x 169 then true else false)))))))))
def am_wOK (k : Nat) : Bool := match am_MPL[k]? with
  | some (pc, pi, pk, ps) => decide (lw_tbl[pi]? = some (Cond.initialized (mY k).cls)) && decide ((mY k).cls = am_R (mO k)) && plainName (mY k).cls &&
    decide ((mY k).cls ≠ "java/lang/invoke/MethodHandle") && decide ((mY k).cls ≠ "java/lang/invoke/VarHandle") && decide ((parseMethodDescriptor (mY k).desc).map (fun d => d.parameters.length + 1) = some (bif mSt k then mNA k + 1 else mNA k)) &&
    (bif mSt k then decide (lw_tbl[pk]? = some (Cond.static (mY k))) else decide (lw_tbl[pk]? = some (Cond.instanceMethod (mY k))) && (bif mIn k then decide ((mY k).name = "<init>") && decide (mR k = none) else decide (lw_tbl[ps]? = some (Cond.selects (mY k).cls (mY k) (mY k)))))
  | none => false
set_option maxRecDepth 20000 in
set_option maxHeartbeats 4000000 in
theorem am_code : ∀ k : Nat, k < 169 → Cond.code (mY k) (mB k) (mL k) (mR k) ∈ WG
  | 0, _ => WG_of 186 rfl rfl
  | 1, _ => WG_of 598 rfl rfl
  | 2, _ => WG_of 585 rfl rfl
  | 3, _ => WG_of 634 rfl rfl
  | 4, _ => WG_of 84 rfl rfl
  | 5, _ => WG_of 346 rfl rfl
  | 6, _ => WG_of 354 rfl rfl
  | 7, _ => WG_of 359 rfl rfl
  | 8, _ => WG_of 367 rfl rfl
  | 9, _ => WG_of 385 rfl rfl
  | 10, _ => WG_of 381 rfl rfl
  | 11, _ => WG_of 699 rfl rfl
  | 12, _ => WG_of 405 rfl rfl
  | 13, _ => WG_of 764 rfl rfl
  | 14, _ => WG_of 397 rfl rfl
  | 15, _ => WG_of 401 rfl rfl
  | 16, _ => WG_of 622 rfl rfl
  | 17, _ => WG_of 626 rfl rfl
  | 18, _ => WG_of 630 rfl rfl
  | 19, _ => WG_of 642 rfl rfl
  | 20, _ => WG_of 271 rfl rfl
  | 21, _ => WG_of 735 rfl rfl
  | 22, _ => WG_of 727 rfl rfl
  | 23, _ => WG_of 723 rfl rfl
  | 24, _ => WG_of 751 rfl rfl
  | 25, _ => WG_of 768 rfl rfl
  | 26, _ => WG_of 240 rfl rfl
  | 27, _ => WG_of 610 rfl rfl
  | 28, _ => WG_of 614 rfl rfl
  | 29, _ => WG_of 618 rfl rfl
  | 30, _ => WG_of 638 rfl rfl
  | 31, _ => WG_of 647 rfl rfl
  | 32, _ => WG_of 654 rfl rfl
  | 33, _ => WG_of 658 rfl rfl
  | 34, _ => WG_of 662 rfl rfl
  | 35, _ => WG_of 666 rfl rfl
  | 36, _ => WG_of 164 rfl rfl
  | 37, _ => WG_of 459 rfl rfl
  | 38, _ => WG_of 471 rfl rfl
  | 39, _ => WG_of 475 rfl rfl
  | 40, _ => WG_of 483 rfl rfl
  | 41, _ => WG_of 562 rfl rfl
  | 42, _ => WG_of 574 rfl rfl
  | 43, _ => WG_of 579 rfl rfl
  | 44, _ => WG_of 549 rfl rfl
  | 45, _ => WG_of 554 rfl rfl
  | 46, _ => WG_of 545 rfl rfl
  | 47, _ => WG_of 567 rfl rfl
  | 48, _ => WG_of 540 rfl rfl
  | 49, _ => WG_of 488 rfl rfl
  | 50, _ => WG_of 479 rfl rfl
  | 51, _ => WG_of 137 rfl rfl
  | 52, _ => WG_of 427 rfl rfl
  | 53, _ => WG_of 419 rfl rfl
  | 54, _ => WG_of 443 rfl rfl
  | 55, _ => WG_of 447 rfl rfl
  | 56, _ => WG_of 606 rfl rfl
  | 57, _ => WG_of 747 rfl rfl
  | 58, _ => WG_of 756 rfl rfl
  | 59, _ => WG_of 76 rfl rfl
  | 60, _ => WG_of 342 rfl rfl
  | 61, _ => WG_of 363 rfl rfl
  | 62, _ => WG_of 371 rfl rfl
  | 63, _ => WG_of 389 rfl rfl
  | 64, _ => WG_of 393 rfl rfl
  | 65, _ => WG_of 409 rfl rfl
  | 66, _ => WG_of 423 rfl rfl
  | 67, _ => WG_of 431 rfl rfl
  | 68, _ => WG_of 435 rfl rfl
  | 69, _ => WG_of 451 rfl rfl
  | 70, _ => WG_of 455 rfl rfl
  | 71, _ => WG_of 463 rfl rfl
  | 72, _ => WG_of 467 rfl rfl
  | 73, _ => WG_of 590 rfl rfl
  | 74, _ => WG_of 670 rfl rfl
  | 75, _ => WG_of 674 rfl rfl
  | 76, _ => WG_of 678 rfl rfl
  | 77, _ => WG_of 682 rfl rfl
  | 78, _ => WG_of 686 rfl rfl
  | 79, _ => WG_of 690 rfl rfl
  | 80, _ => WG_of 695 rfl rfl
  | 81, _ => WG_of 703 rfl rfl
  | 82, _ => WG_of 715 rfl rfl
  | 83, _ => WG_of 719 rfl rfl
  | 84, _ => WG_of 731 rfl rfl
  | 85, _ => WG_of 739 rfl rfl
  | 86, _ => WG_of 743 rfl rfl
  | 87, _ => WG_of 760 rfl rfl
  | 88, _ => WG_of 772 rfl rfl
  | 89, _ => WG_of 776 rfl rfl
  | 90, _ => WG_of 780 rfl rfl
  | 91, _ => WG_of 784 rfl rfl
  | 92, _ => WG_of 791 rfl rfl
  | 93, _ => WG_of 350 rfl rfl
  | 94, _ => WG_of 374 rfl rfl
  | 95, _ => WG_of 377 rfl rfl
  | 96, _ => WG_of 412 rfl rfl
  | 97, _ => WG_of 415 rfl rfl
  | 98, _ => WG_of 439 rfl rfl
  | 99, _ => WG_of 594 rfl rfl
  | 100, _ => WG_of 602 rfl rfl
  | 101, _ => WG_of 707 rfl rfl
  | 102, _ => WG_of 711 rfl rfl
  | 103, _ => WG_of 796 rfl rfl
  | 104, _ => WG_of 929 rfl rfl
  | 105, _ => WG_of 933 rfl rfl
  | 106, _ => WG_of 926 rfl rfl
  | 107, _ => WG_of 981 rfl rfl
  | 108, _ => WG_of 993 rfl rfl
  | 109, _ => WG_of 922 rfl rfl
  | 110, _ => WG_of 937 rfl rfl
  | 111, _ => WG_of 945 rfl rfl
  | 112, _ => WG_of 941 rfl rfl
  | 113, _ => WG_of 949 rfl rfl
  | 114, _ => WG_of 957 rfl rfl
  | 115, _ => WG_of 969 rfl rfl
  | 116, _ => WG_of 965 rfl rfl
  | 117, _ => WG_of 961 rfl rfl
  | 118, _ => WG_of 953 rfl rfl
  | 119, _ => WG_of 973 rfl rfl
  | 120, _ => WG_of 977 rfl rfl
  | 121, _ => WG_of 985 rfl rfl
  | 122, _ => WG_of 997 rfl rfl
  | 123, _ => WG_of 989 rfl rfl
  | 124, _ => WG_of 1001 rfl rfl
  | 125, _ => WG_of 1005 rfl rfl
  | 126, _ => WG_of 1009 rfl rfl
  | 127, _ => WG_of 1021 rfl rfl
  | 128, _ => WG_of 1033 rfl rfl
  | 129, _ => WG_of 1029 rfl rfl
  | 130, _ => WG_of 1045 rfl rfl
  | 131, _ => WG_of 1037 rfl rfl
  | 132, _ => WG_of 1053 rfl rfl
  | 133, _ => WG_of 1049 rfl rfl
  | 134, _ => WG_of 1041 rfl rfl
  | 135, _ => WG_of 1057 rfl rfl
  | 136, _ => WG_of 1061 rfl rfl
  | 137, _ => WG_of 1025 rfl rfl
  | 138, _ => WG_of 1017 rfl rfl
  | 139, _ => WG_of 1065 rfl rfl
  | 140, _ => WG_of 1013 rfl rfl
  | 141, _ => WG_of 1077 rfl rfl
  | 142, _ => WG_of 1081 rfl rfl
  | 143, _ => WG_of 1085 rfl rfl
  | 144, _ => WG_of 1089 rfl rfl
  | 145, _ => WG_of 1093 rfl rfl
  | 146, _ => WG_of 1073 rfl rfl
  | 147, _ => WG_of 1069 rfl rfl
  | 148, _ => WG_of 1098 rfl rfl
  | 149, _ => WG_of 1102 rfl rfl
  | 150, _ => WG_of 1106 rfl rfl
  | 151, _ => WG_of 1110 rfl rfl
  | 152, _ => WG_of 1114 rfl rfl
  | 153, _ => WG_of 1118 rfl rfl
  | 154, _ => WG_of 1122 rfl rfl
  | 155, _ => WG_of 1126 rfl rfl
  | 156, _ => WG_of 1130 rfl rfl
  | 157, _ => WG_of 1138 rfl rfl
  | 158, _ => WG_of 1134 rfl rfl
  | 159, _ => WG_of 1142 rfl rfl
  | 160, _ => WG_of 1146 rfl rfl
  | 161, _ => WG_of 1154 rfl rfl
  | 162, _ => WG_of 1150 rfl rfl
  | 163, _ => WG_of 1158 rfl rfl
  | 164, _ => WG_of 1162 rfl rfl
  | 165, _ => WG_of 1166 rfl rfl
  | 166, _ => WG_of 1170 rfl rfl
  | 167, _ => WG_of 1174 rfl rfl
  | 168, _ => WG_of 1178 rfl rfl
  | k + 169, h => absurd h (by omega)
set_option maxRecDepth 100000 in
set_option maxHeartbeats 4000000 in
theorem mw0 : (List.range 17).all (fun x => am_wOK (0 + x)) = true := by decide +kernel
set_option maxRecDepth 100000 in
set_option maxHeartbeats 4000000 in
theorem mw17 : (List.range 17).all (fun x => am_wOK (17 + x)) = true := by decide +kernel
set_option maxRecDepth 100000 in
set_option maxHeartbeats 4000000 in
theorem mw34 : (List.range 17).all (fun x => am_wOK (34 + x)) = true := by decide +kernel
set_option maxRecDepth 100000 in
set_option maxHeartbeats 4000000 in
theorem mw51 : (List.range 17).all (fun x => am_wOK (51 + x)) = true := by decide +kernel
set_option maxRecDepth 100000 in
set_option maxHeartbeats 4000000 in
theorem mw68 : (List.range 17).all (fun x => am_wOK (68 + x)) = true := by decide +kernel
set_option maxRecDepth 100000 in
set_option maxHeartbeats 4000000 in
theorem mw85 : (List.range 17).all (fun x => am_wOK (85 + x)) = true := by decide +kernel
set_option maxRecDepth 100000 in
set_option maxHeartbeats 4000000 in
theorem mw102 : (List.range 17).all (fun x => am_wOK (102 + x)) = true := by decide +kernel
set_option maxRecDepth 100000 in
set_option maxHeartbeats 4000000 in
theorem mw119 : (List.range 17).all (fun x => am_wOK (119 + x)) = true := by decide +kernel
set_option maxRecDepth 100000 in
set_option maxHeartbeats 4000000 in
theorem mw136 : (List.range 17).all (fun x => am_wOK (136 + x)) = true := by decide +kernel
set_option maxRecDepth 100000 in
set_option maxHeartbeats 4000000 in
theorem mw153 : (List.range 16).all (fun x => am_wOK (153 + x)) = true := by decide +kernel
theorem am_wAll {k : Nat} (hk : k < 169) : am_wOK k = true := by
  by_cases h17 : k < 17
  · have := List.all_eq_true.mp mw0 (k - 0) (List.mem_range.mpr (by omega)); rwa [show 0 + (k - 0) = k by omega] at this
  by_cases h34 : k < 34
  · have := List.all_eq_true.mp mw17 (k - 17) (List.mem_range.mpr (by omega)); rwa [show 17 + (k - 17) = k by omega] at this
  by_cases h51 : k < 51
  · have := List.all_eq_true.mp mw34 (k - 34) (List.mem_range.mpr (by omega)); rwa [show 34 + (k - 34) = k by omega] at this
  by_cases h68 : k < 68
  · have := List.all_eq_true.mp mw51 (k - 51) (List.mem_range.mpr (by omega)); rwa [show 51 + (k - 51) = k by omega] at this
  by_cases h85 : k < 85
  · have := List.all_eq_true.mp mw68 (k - 68) (List.mem_range.mpr (by omega)); rwa [show 68 + (k - 68) = k by omega] at this
  by_cases h102 : k < 102
  · have := List.all_eq_true.mp mw85 (k - 85) (List.mem_range.mpr (by omega)); rwa [show 85 + (k - 85) = k by omega] at this
  by_cases h119 : k < 119
  · have := List.all_eq_true.mp mw102 (k - 102) (List.mem_range.mpr (by omega)); rwa [show 102 + (k - 102) = k by omega] at this
  by_cases h136 : k < 136
  · have := List.all_eq_true.mp mw119 (k - 119) (List.mem_range.mpr (by omega)); rwa [show 119 + (k - 119) = k by omega] at this
  by_cases h153 : k < 153
  · have := List.all_eq_true.mp mw136 (k - 136) (List.mem_range.mpr (by omega)); rwa [show 136 + (k - 136) = k by omega] at this
  by_cases h169 : k < 169
  · have := List.all_eq_true.mp mw153 (k - 153) (List.mem_range.mpr (by omega)); rwa [show 153 + (k - 153) = k by omega] at this
  omega
theorem am_bn {x N : Nat} {t : Option AI} (h : N ≤ x) : (bif Nat.blt x N then t else none) = none := by
  have e : Nat.blt x N = false := by
    cases q : Nat.blt x N with
    | false => rfl
    | true => exact absurd (Nat.blt_eq.mp q) (by omega)
  rw [e]; rfl
theorem am_out : ∀ (k pc : Nat), k < 170 → mN k ≤ pc → mCode k pc = none
  | 0, pc, _, h => (am_bn h : cd0 pc = none)
  | 1, pc, _, h => (am_bn h : cd1 pc = none)
  | 2, pc, _, h => (am_bn h : cd2 pc = none)
  | 3, pc, _, h => (am_bn h : cd3 pc = none)
  | 4, pc, _, h => (am_bn h : cd4 pc = none)
  | 5, pc, _, h => (am_bn h : cd5 pc = none)
  | 6, pc, _, h => (am_bn h : cd6 pc = none)
  | 7, pc, _, h => (am_bn h : cd7 pc = none)
  | 8, pc, _, h => (am_bn h : cd8 pc = none)
  | 9, pc, _, h => (am_bn h : cd9 pc = none)
  | 10, pc, _, h => (am_bn h : cd10 pc = none)
  | 11, pc, _, h => (am_bn h : cd11 pc = none)
  | 12, pc, _, h => (am_bn h : cd12 pc = none)
  | 13, pc, _, h => (am_bn h : cd13 pc = none)
  | 14, pc, _, h => (am_bn h : cd14 pc = none)
  | 15, pc, _, h => (am_bn h : cd15 pc = none)
  | 16, pc, _, h => (am_bn h : cd16 pc = none)
  | 17, pc, _, h => (am_bn h : cd17 pc = none)
  | 18, pc, _, h => (am_bn h : cd18 pc = none)
  | 19, pc, _, h => (am_bn h : cd19 pc = none)
  | 20, pc, _, h => (am_bn h : cd20 pc = none)
  | 21, pc, _, h => (am_bn h : cd21 pc = none)
  | 22, pc, _, h => (am_bn h : cd22 pc = none)
  | 23, pc, _, h => (am_bn h : cd23 pc = none)
  | 24, pc, _, h => (am_bn h : cd24 pc = none)
  | 25, pc, _, h => (am_bn h : cd25 pc = none)
  | 26, pc, _, h => (am_bn h : cd26 pc = none)
  | 27, pc, _, h => (am_bn h : cd27 pc = none)
  | 28, pc, _, h => (am_bn h : cd28 pc = none)
  | 29, pc, _, h => (am_bn h : cd29 pc = none)
  | 30, pc, _, h => (am_bn h : cd30 pc = none)
  | 31, pc, _, h => (am_bn h : cd31 pc = none)
  | 32, pc, _, h => (am_bn h : cd32 pc = none)
  | 33, pc, _, h => (am_bn h : cd33 pc = none)
  | 34, pc, _, h => (am_bn h : cd34 pc = none)
  | 35, pc, _, h => (am_bn h : cd35 pc = none)
  | 36, pc, _, h => (am_bn h : cd36 pc = none)
  | 37, pc, _, h => (am_bn h : cd37 pc = none)
  | 38, pc, _, h => (am_bn h : cd38 pc = none)
  | 39, pc, _, h => (am_bn h : cd39 pc = none)
  | 40, pc, _, h => (am_bn h : cd40 pc = none)
  | 41, pc, _, h => (am_bn h : cd41 pc = none)
  | 42, pc, _, h => (am_bn h : cd42 pc = none)
  | 43, pc, _, h => (am_bn h : cd43 pc = none)
  | 44, pc, _, h => (am_bn h : cd44 pc = none)
  | 45, pc, _, h => (am_bn h : cd45 pc = none)
  | 46, pc, _, h => (am_bn h : cd46 pc = none)
  | 47, pc, _, h => (am_bn h : cd47 pc = none)
  | 48, pc, _, h => (am_bn h : cd48 pc = none)
  | 49, pc, _, h => (am_bn h : cd49 pc = none)
  | 50, pc, _, h => (am_bn h : cd50 pc = none)
  | 51, pc, _, h => (am_bn h : cd51 pc = none)
  | 52, pc, _, h => (am_bn h : cd52 pc = none)
  | 53, pc, _, h => (am_bn h : cd53 pc = none)
  | 54, pc, _, h => (am_bn h : cd54 pc = none)
  | 55, pc, _, h => (am_bn h : cd55 pc = none)
  | 56, pc, _, h => (am_bn h : cd56 pc = none)
  | 57, pc, _, h => (am_bn h : cd57 pc = none)
  | 58, pc, _, h => (am_bn h : cd58 pc = none)
  | 59, pc, _, h => (am_bn h : cd59 pc = none)
  | 60, pc, _, h => (am_bn h : cd60 pc = none)
  | 61, pc, _, h => (am_bn h : cd61 pc = none)
  | 62, pc, _, h => (am_bn h : cd62 pc = none)
  | 63, pc, _, h => (am_bn h : cd63 pc = none)
  | 64, pc, _, h => (am_bn h : cd64 pc = none)
  | 65, pc, _, h => (am_bn h : cd65 pc = none)
  | 66, pc, _, h => (am_bn h : cd66 pc = none)
  | 67, pc, _, h => (am_bn h : cd67 pc = none)
  | 68, pc, _, h => (am_bn h : cd68 pc = none)
  | 69, pc, _, h => (am_bn h : cd69 pc = none)
  | 70, pc, _, h => (am_bn h : cd70 pc = none)
  | 71, pc, _, h => (am_bn h : cd71 pc = none)
  | 72, pc, _, h => (am_bn h : cd72 pc = none)
  | 73, pc, _, h => (am_bn h : cd73 pc = none)
  | 74, pc, _, h => (am_bn h : cd74 pc = none)
  | 75, pc, _, h => (am_bn h : cd75 pc = none)
  | 76, pc, _, h => (am_bn h : cd76 pc = none)
  | 77, pc, _, h => (am_bn h : cd77 pc = none)
  | 78, pc, _, h => (am_bn h : cd78 pc = none)
  | 79, pc, _, h => (am_bn h : cd79 pc = none)
  | 80, pc, _, h => (am_bn h : cd80 pc = none)
  | 81, pc, _, h => (am_bn h : cd81 pc = none)
  | 82, pc, _, h => (am_bn h : cd82 pc = none)
  | 83, pc, _, h => (am_bn h : cd83 pc = none)
  | 84, pc, _, h => (am_bn h : cd84 pc = none)
  | 85, pc, _, h => (am_bn h : cd85 pc = none)
  | 86, pc, _, h => (am_bn h : cd86 pc = none)
  | 87, pc, _, h => (am_bn h : cd87 pc = none)
  | 88, pc, _, h => (am_bn h : cd88 pc = none)
  | 89, pc, _, h => (am_bn h : cd89 pc = none)
  | 90, pc, _, h => (am_bn h : cd90 pc = none)
  | 91, pc, _, h => (am_bn h : cd91 pc = none)
  | 92, pc, _, h => (am_bn h : cd92 pc = none)
  | 93, pc, _, h => (am_bn h : cd93 pc = none)
  | 94, pc, _, h => (am_bn h : cd94 pc = none)
  | 95, pc, _, h => (am_bn h : cd95 pc = none)
  | 96, pc, _, h => (am_bn h : cd96 pc = none)
  | 97, pc, _, h => (am_bn h : cd97 pc = none)
  | 98, pc, _, h => (am_bn h : cd98 pc = none)
  | 99, pc, _, h => (am_bn h : cd99 pc = none)
  | 100, pc, _, h => (am_bn h : cd100 pc = none)
  | 101, pc, _, h => (am_bn h : cd101 pc = none)
  | 102, pc, _, h => (am_bn h : cd102 pc = none)
  | 103, pc, _, h => (am_bn h : cd103 pc = none)
  | 104, pc, _, h => (am_bn h : cd104 pc = none)
  | 105, pc, _, h => (am_bn h : cd105 pc = none)
  | 106, pc, _, h => (am_bn h : cd106 pc = none)
  | 107, pc, _, h => (am_bn h : cd107 pc = none)
  | 108, pc, _, h => (am_bn h : cd108 pc = none)
  | 109, pc, _, h => (am_bn h : cd109 pc = none)
  | 110, pc, _, h => (am_bn h : cd110 pc = none)
  | 111, pc, _, h => (am_bn h : cd111 pc = none)
  | 112, pc, _, h => (am_bn h : cd112 pc = none)
  | 113, pc, _, h => (am_bn h : cd113 pc = none)
  | 114, pc, _, h => (am_bn h : cd114 pc = none)
  | 115, pc, _, h => (am_bn h : cd115 pc = none)
  | 116, pc, _, h => (am_bn h : cd116 pc = none)
  | 117, pc, _, h => (am_bn h : cd117 pc = none)
  | 118, pc, _, h => (am_bn h : cd118 pc = none)
  | 119, pc, _, h => (am_bn h : cd119 pc = none)
  | 120, pc, _, h => (am_bn h : cd120 pc = none)
  | 121, pc, _, h => (am_bn h : cd121 pc = none)
  | 122, pc, _, h => (am_bn h : cd122 pc = none)
  | 123, pc, _, h => (am_bn h : cd123 pc = none)
  | 124, pc, _, h => (am_bn h : cd124 pc = none)
  | 125, pc, _, h => (am_bn h : cd125 pc = none)
  | 126, pc, _, h => (am_bn h : cd126 pc = none)
  | 127, pc, _, h => (am_bn h : cd127 pc = none)
  | 128, pc, _, h => (am_bn h : cd128 pc = none)
  | 129, pc, _, h => (am_bn h : cd129 pc = none)
  | 130, pc, _, h => (am_bn h : cd130 pc = none)
  | 131, pc, _, h => (am_bn h : cd131 pc = none)
  | 132, pc, _, h => (am_bn h : cd132 pc = none)
  | 133, pc, _, h => (am_bn h : cd133 pc = none)
  | 134, pc, _, h => (am_bn h : cd134 pc = none)
  | 135, pc, _, h => (am_bn h : cd135 pc = none)
  | 136, pc, _, h => (am_bn h : cd136 pc = none)
  | 137, pc, _, h => (am_bn h : cd137 pc = none)
  | 138, pc, _, h => (am_bn h : cd138 pc = none)
  | 139, pc, _, h => (am_bn h : cd139 pc = none)
  | 140, pc, _, h => (am_bn h : cd140 pc = none)
  | 141, pc, _, h => (am_bn h : cd141 pc = none)
  | 142, pc, _, h => (am_bn h : cd142 pc = none)
  | 143, pc, _, h => (am_bn h : cd143 pc = none)
  | 144, pc, _, h => (am_bn h : cd144 pc = none)
  | 145, pc, _, h => (am_bn h : cd145 pc = none)
  | 146, pc, _, h => (am_bn h : cd146 pc = none)
  | 147, pc, _, h => (am_bn h : cd147 pc = none)
  | 148, pc, _, h => (am_bn h : cd148 pc = none)
  | 149, pc, _, h => (am_bn h : cd149 pc = none)
  | 150, pc, _, h => (am_bn h : cd150 pc = none)
  | 151, pc, _, h => (am_bn h : cd151 pc = none)
  | 152, pc, _, h => (am_bn h : cd152 pc = none)
  | 153, pc, _, h => (am_bn h : cd153 pc = none)
  | 154, pc, _, h => (am_bn h : cd154 pc = none)
  | 155, pc, _, h => (am_bn h : cd155 pc = none)
  | 156, pc, _, h => (am_bn h : cd156 pc = none)
  | 157, pc, _, h => (am_bn h : cd157 pc = none)
  | 158, pc, _, h => (am_bn h : cd158 pc = none)
  | 159, pc, _, h => (am_bn h : cd159 pc = none)
  | 160, pc, _, h => (am_bn h : cd160 pc = none)
  | 161, pc, _, h => (am_bn h : cd161 pc = none)
  | 162, pc, _, h => (am_bn h : cd162 pc = none)
  | 163, pc, _, h => (am_bn h : cd163 pc = none)
  | 164, pc, _, h => (am_bn h : cd164 pc = none)
  | 165, pc, _, h => (am_bn h : cd165 pc = none)
  | 166, pc, _, h => (am_bn h : cd166 pc = none)
  | 167, pc, _, h => (am_bn h : cd167 pc = none)
  | 168, pc, _, h => (am_bn h : cd168 pc = none)
  | 169, pc, _, h => (am_bn h : cd169 pc = none)
  | k + 170, pc, h, _ => absurd h (by omega)
theorem am_dec {k pc : Nat} {e : AI} (h : mCode k pc = some e) : decode (mB k) pc = .ok (e.1, am_len pc e.1) ∧ am_lnk (mO k) pc e = true := by
  have hk1 : k < 170 := by
    by_cases hk : k < 170
    · exact hk
    · unfold mCode at h
      have e9 : Nat.blt k 170 = false := by
        cases q : Nat.blt k 170 with
        | false => rfl
        | true => exact absurd (Nat.blt_eq.mp q) hk
      rw [e9] at h
      cases h
  have hN : k < 170 ∧ pc < mN k := ⟨hk1, by
    by_cases hp : pc < mN k
    · exact hp
    · rw [am_out k pc hk1 (by omega)] at h
      cases h⟩
  have key : ∀ lo n, am_chk k lo n = true → lo ≤ pc → pc < lo + n → decode (mB k) pc = .ok (e.1, am_len pc e.1) ∧ am_lnk (mO k) pc e = true := by
    intro lo n hc h1 h2
    have h3 := List.all_eq_true.mp hc (pc - lo) (List.mem_range.mpr (by omega))
    rw [show lo + (pc - lo) = pc by omega, h] at h3
    simp only [Bool.and_eq_true, decide_eq_true_eq] at h3
    exact h3
  obtain ⟨hk, hp⟩ := hN
  by_cases h8 : k < 8
  · have h9 := List.all_eq_true.mp ck0 (k - 0) (List.mem_range.mpr (by omega)); rw [show 0 + (k - 0) = k by omega] at h9; exact key 0 _ h9 (Nat.zero_le _) (by omega)
  by_cases h16 : k < 16
  · have h9 := List.all_eq_true.mp ck8 (k - 8) (List.mem_range.mpr (by omega)); rw [show 8 + (k - 8) = k by omega] at h9; exact key 0 _ h9 (Nat.zero_le _) (by omega)
  by_cases h24 : k < 24
  · have h9 := List.all_eq_true.mp ck16 (k - 16) (List.mem_range.mpr (by omega)); rw [show 16 + (k - 16) = k by omega] at h9; exact key 0 _ h9 (Nat.zero_le _) (by omega)
  by_cases h32 : k < 32
  · have h9 := List.all_eq_true.mp ck24 (k - 24) (List.mem_range.mpr (by omega)); rw [show 24 + (k - 24) = k by omega] at h9; exact key 0 _ h9 (Nat.zero_le _) (by omega)
  by_cases h40 : k < 40
  · have h9 := List.all_eq_true.mp ck32 (k - 32) (List.mem_range.mpr (by omega)); rw [show 32 + (k - 32) = k by omega] at h9; exact key 0 _ h9 (Nat.zero_le _) (by omega)
  by_cases h48 : k < 48
  · have h9 := List.all_eq_true.mp ck40 (k - 40) (List.mem_range.mpr (by omega)); rw [show 40 + (k - 40) = k by omega] at h9; exact key 0 _ h9 (Nat.zero_le _) (by omega)
  by_cases h56 : k < 56
  · have h9 := List.all_eq_true.mp ck48 (k - 48) (List.mem_range.mpr (by omega)); rw [show 48 + (k - 48) = k by omega] at h9; exact key 0 _ h9 (Nat.zero_le _) (by omega)
  by_cases h64 : k < 64
  · have h9 := List.all_eq_true.mp ck56 (k - 56) (List.mem_range.mpr (by omega)); rw [show 56 + (k - 56) = k by omega] at h9; exact key 0 _ h9 (Nat.zero_le _) (by omega)
  by_cases h72 : k < 72
  · have h9 := List.all_eq_true.mp ck64 (k - 64) (List.mem_range.mpr (by omega)); rw [show 64 + (k - 64) = k by omega] at h9; exact key 0 _ h9 (Nat.zero_le _) (by omega)
  by_cases h80 : k < 80
  · have h9 := List.all_eq_true.mp ck72 (k - 72) (List.mem_range.mpr (by omega)); rw [show 72 + (k - 72) = k by omega] at h9; exact key 0 _ h9 (Nat.zero_le _) (by omega)
  by_cases h88 : k < 88
  · have h9 := List.all_eq_true.mp ck80 (k - 80) (List.mem_range.mpr (by omega)); rw [show 80 + (k - 80) = k by omega] at h9; exact key 0 _ h9 (Nat.zero_le _) (by omega)
  by_cases h96 : k < 96
  · have h9 := List.all_eq_true.mp ck88 (k - 88) (List.mem_range.mpr (by omega)); rw [show 88 + (k - 88) = k by omega] at h9; exact key 0 _ h9 (Nat.zero_le _) (by omega)
  by_cases h104 : k < 104
  · have h9 := List.all_eq_true.mp ck96 (k - 96) (List.mem_range.mpr (by omega)); rw [show 96 + (k - 96) = k by omega] at h9; exact key 0 _ h9 (Nat.zero_le _) (by omega)
  by_cases h112 : k < 112
  · have h9 := List.all_eq_true.mp ck104 (k - 104) (List.mem_range.mpr (by omega)); rw [show 104 + (k - 104) = k by omega] at h9; exact key 0 _ h9 (Nat.zero_le _) (by omega)
  by_cases h120 : k < 120
  · have h9 := List.all_eq_true.mp ck112 (k - 112) (List.mem_range.mpr (by omega)); rw [show 112 + (k - 112) = k by omega] at h9; exact key 0 _ h9 (Nat.zero_le _) (by omega)
  by_cases h128 : k < 128
  · have h9 := List.all_eq_true.mp ck120 (k - 120) (List.mem_range.mpr (by omega)); rw [show 120 + (k - 120) = k by omega] at h9; exact key 0 _ h9 (Nat.zero_le _) (by omega)
  by_cases h136 : k < 136
  · have h9 := List.all_eq_true.mp ck128 (k - 128) (List.mem_range.mpr (by omega)); rw [show 128 + (k - 128) = k by omega] at h9; exact key 0 _ h9 (Nat.zero_le _) (by omega)
  by_cases h144 : k < 144
  · have h9 := List.all_eq_true.mp ck136 (k - 136) (List.mem_range.mpr (by omega)); rw [show 136 + (k - 136) = k by omega] at h9; exact key 0 _ h9 (Nat.zero_le _) (by omega)
  by_cases h152 : k < 152
  · have h9 := List.all_eq_true.mp ck144 (k - 144) (List.mem_range.mpr (by omega)); rw [show 144 + (k - 144) = k by omega] at h9; exact key 0 _ h9 (Nat.zero_le _) (by omega)
  by_cases h160 : k < 160
  · have h9 := List.all_eq_true.mp ck152 (k - 152) (List.mem_range.mpr (by omega)); rw [show 152 + (k - 152) = k by omega] at h9; exact key 0 _ h9 (Nat.zero_le _) (by omega)
  by_cases h168 : k < 168
  · have h9 := List.all_eq_true.mp ck160 (k - 160) (List.mem_range.mpr (by omega)); rw [show 160 + (k - 160) = k by omega] at h9; exact key 0 _ h9 (Nat.zero_le _) (by omega)
  by_cases h169 : k < 169
  · have h9 := List.all_eq_true.mp ck168 (k - 168) (List.mem_range.mpr (by omega)); rw [show 168 + (k - 168) = k by omega] at h9; exact key 0 _ h9 (Nat.zero_le _) (by omega)
  have hk0 : k = 169 := by omega
  subst hk0
  by_cases p150 : pc < 150
  · exact key 0 150 ckL0 (by omega) (by omega)
  by_cases p300 : pc < 300
  · exact key 150 150 ckL150 (by omega) (by omega)
  by_cases p450 : pc < 450
  · exact key 300 150 ckL300 (by omega) (by omega)
  by_cases p600 : pc < 600
  · exact key 450 150 ckL450 (by omega) (by omega)
  by_cases p750 : pc < 750
  · exact key 600 150 ckL600 (by omega) (by omega)
  by_cases p900 : pc < 900
  · exact key 750 150 ckL750 (by omega) (by omega)
  by_cases p1050 : pc < 1050
  · exact key 900 150 ckL900 (by omega) (by omega)
  by_cases p1200 : pc < 1200
  · exact key 1050 150 ckL1050 (by omega) (by omega)
  by_cases p1309 : pc < 1309
  · exact key 1200 109 ckL1200 (by omega) (by omega)
  have hz : mN 169 = 1309 := rfl
  omega
theorem am_oi : Cond.instanceMethod objectInit ∈ WG ∧ Cond.code objectInit ⟨#[0xb1]⟩ 1 none ∈ WG := ⟨WG_of 78 (by decide +kernel) rfl, WG_of 79 (by decide +kernel) rfl⟩
theorem am_mn : Cond.static Lib.Math.min.name ∈ WG ∧ Cond.initialized "java/lang/Math" ∈ WG ∧ Cond.code Lib.Math.min.name Lib.Math.min.code 2 (some .int) ∈ WG := ⟨WG_of 649 (by decide +kernel) rfl, WG_of 70 (by decide +kernel) rfl, WG_of 650 (by decide +kernel) rfl⟩
theorem am_ac : Cond.static arraycopyName ∈ WG ∧ Cond.initialized "java/lang/System" ∈ WG ∧ Cond.native arraycopyName ∈ WG := ⟨WG_of 786 (by decide +kernel) rfl, WG_of 71 (by decide +kernel) rfl, WG_of 787 (by decide +kernel) rfl⟩
theorem am_ar : Cond.arrayClass .int ∈ WG ∧ Cond.arrayClass .boolean ∈ WG ∧ Cond.arrayClass .long ∈ WG ∧ Cond.constantLong RX7 225 12 ∈ WG := ⟨WG_of 131 (by decide +kernel) rfl, WG_of 132 (by decide +kernel) rfl, WG_of 338 (by decide +kernel) rfl, WG_of 1094 (by decide +kernel) rfl⟩
