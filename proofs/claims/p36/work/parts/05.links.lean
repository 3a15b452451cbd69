/-! the words of the tables: what each link of the code is -/
/-- the private members of a builder's superclass, on a builder -/
def WGx : List Cond := [Cond.selects RJ4 yJ5_ensureCapacityInternal_d00df yJ5_ensureCapacityInternal_d00df, Cond.selects RJ4 yJ5_newCapacity_0f7a4 yJ5_newCapacity_0f7a4, Cond.selects RJ4 yJ5_putStringAt_47b60 yJ5_putStringAt_47b60, Cond.selects RJ4 yJ5_inflateIfNeededFor_a7421 yJ5_inflateIfNeededFor_a7421]
def WG : List Cond := (lw_tbl ++ WGx).filter goodWord
theorem WG_of {w : Cond} (i : Nat) (h : lw_tbl[i]? = some w) (g : goodWord w = true) : w ∈ WG := List.mem_filter.mpr ⟨List.mem_append_left _ (List.mem_of_getElem? h), g⟩
theorem WG_x {w : Cond} (i : Nat) (h : WGx[i]? = some w) (g : goodWord w = true) : w ∈ WG := List.mem_filter.mpr ⟨List.mem_append_right _ (List.mem_of_getElem? h), g⟩
theorem sel_priv {y : MethodName} {C : String} {n : Nat} {s : State} {args : Array Value} (hins : (Cond.instantiable C n).before args s = true) (hpriv : (Cond.privateMethod y).before args s = true) (hinst : (Cond.instanceMethod y).before args s = true) (hsame : (Cond.sameMethod y.cls y.cls y.name y.desc).before args s = true) : (Cond.selects C y y).before args s = true := by
  obtain ⟨c, k, hc, hk, -⟩ := Cond.instantiable_spec hins
  obtain ⟨mk, methM, hnamed, hmethM, -, -⟩ := Cond.instanceMethod_spec hinst
  obtain ⟨cn, ck, r1, hcn, hck, hni, hf, hn1⟩ := Cond.sameMethod_found hsame
  have hn2 : s.methodNamed? y = some r1 := hn1
  cases hnamed.symm.trans hn2
  have hcls : mk.cls = cn := Option.some.inj ((findClass_of_methodNamed hnamed).symm.trans hcn)
  have hsel : selectMethod {} s.vm c mk = .method mk := selectMethod_private hmethM (Cond.privateMethod_at hpriv mk methM hnamed hmethM)
  simp only [Cond.before, Cond.holds, Cond.value, hc, hf, hnamed, hsel, hcls, hck]
  simp; exact hni
theorem WG_l (ws : List Cond) (ps : List Nat) (hp : ws = ps.filterMap (fun i => lw_tbl[i]?)) (h : ws.all goodWord = true) : ∀ w ∈ ws, w ∈ WG := by
  intro w hw
  have h1 := List.all_eq_true.mp h w hw
  rw [hp] at hw
  obtain ⟨i, -, hi⟩ := List.mem_filterMap.mp hw
  exact WG_of i hi h1
theorem WG_good {w : Cond} (h : w ∈ WG) : (w.onTables && w.keeps) = true ∨ ∃ ty, w = .arrayClass ty := good_of_word (List.mem_filter.mp h).2
def mlName (kd j : Nat) : MethodName := match kd with
  | 4 => objectInit | 5 => Lib.Math.min.name | 6 => arraycopyName | 7 => yJ0_length_8abf5 | 8 => yJ0_charAt_5068e | 9 => yL_words | 10 => yL_text | _ => mY j
def dflV (ci : Nat) : List Value := match ci with
  | 0 => [.null, .null, .null, .null, .null, .null, .null, .null, .int 0]
  | 1 => [.null, .null, .null, .null, .null, .int 0, .null, .null, .null, .null]
  | 2 => [.null, .null, .null, .null, .int 0, .int 0]
  | 3 => [.null, .null, .null, .null, .int 0, .int 0]
  | 4 => [.null, .int 0, .int 0, .int 0]
  | 5 => [.null, .null, .null, .null, .int 0]
  | 6 => [.null, .null, .null, .null, .null, .null, .null, .null, .null, .null, .int 0, .int 0, .int 0]
  | 7 => [.null, .int 0, .int 0, .int 0]
  | 8 => [.null, .int 0, .int 0, .int 0]
  | _ => []
set_option maxRecDepth 20000 in
theorem uwX0 : ∀ w ∈ u_ws RX0 TX0 9, w ∈ WG := WG_l _ [369, 371, 373, 375, 377, 379, 381, 383, 385] (by decide +kernel) (by decide +kernel)
theorem dvX0 : ∀ j, j < 9 → defaultValue (tyX0 j) = vp_V (dflV 0) j := by decide +kernel
theorem inX0 : Cond.initialized RX0 ∈ WG := WG_of 31 (by decide +kernel) (by decide +kernel)
theorem isX0 : Cond.instantiable RX0 9 ∈ WG := WG_of 335 (by decide +kernel) (by decide +kernel)
set_option maxRecDepth 20000 in
theorem uwX1 : ∀ w ∈ u_ws RX1 TX1 10, w ∈ WG := WG_l _ [263, 265, 267, 269, 271, 273, 275, 277, 279, 281] (by decide +kernel) (by decide +kernel)
theorem dvX1 : ∀ j, j < 10 → defaultValue (tyX1 j) = vp_V (dflV 1) j := by decide +kernel
theorem inX1 : Cond.initialized RX1 ∈ WG := WG_of 28 (by decide +kernel) (by decide +kernel)
theorem isX1 : Cond.instantiable RX1 10 ∈ WG := WG_of 106 (by decide +kernel) (by decide +kernel)
set_option maxRecDepth 20000 in
theorem uwX2 : ∀ w ∈ u_ws RX2 TX2 6, w ∈ WG := WG_l _ [428, 430, 432, 434, 436, 438] (by decide +kernel) (by decide +kernel)
theorem dvX2 : ∀ j, j < 6 → defaultValue (tyX2 j) = vp_V (dflV 2) j := by decide +kernel
theorem inX2 : Cond.initialized RX2 ∈ WG := WG_of 33 (by decide +kernel) (by decide +kernel)
theorem isX2 : Cond.instantiable RX2 6 ∈ WG := WG_of 417 (by decide +kernel) (by decide +kernel)
set_option maxRecDepth 20000 in
theorem uwX3 : ∀ w ∈ u_ws RX3 TX3 6, w ∈ WG := WG_l _ [403, 405, 407, 409, 411, 413] (by decide +kernel) (by decide +kernel)
theorem dvX3 : ∀ j, j < 6 → defaultValue (tyX3 j) = vp_V (dflV 3) j := by decide +kernel
theorem inX3 : Cond.initialized RX3 ∈ WG := WG_of 32 (by decide +kernel) (by decide +kernel)
theorem isX3 : Cond.instantiable RX3 6 ∈ WG := WG_of 119 (by decide +kernel) (by decide +kernel)
set_option maxRecDepth 20000 in
theorem uwX4 : ∀ w ∈ u_ws RX4 TX4 4, w ∈ WG := WG_l _ [324, 326, 328, 330] (by decide +kernel) (by decide +kernel)
theorem dvX4 : ∀ j, j < 4 → defaultValue (tyX4 j) = vp_V (dflV 4) j := by decide +kernel
theorem inX4 : Cond.initialized RX4 ∈ WG := WG_of 30 (by decide +kernel) (by decide +kernel)
theorem isX4 : Cond.instantiable RX4 4 ∈ WG := WG_of 313 (by decide +kernel) (by decide +kernel)
set_option maxRecDepth 20000 in
theorem uwX5 : ∀ w ∈ u_ws RX5 TX5 5, w ∈ WG := WG_l _ [301, 303, 305, 307, 309] (by decide +kernel) (by decide +kernel)
theorem dvX5 : ∀ j, j < 5 → defaultValue (tyX5 j) = vp_V (dflV 5) j := by decide +kernel
theorem inX5 : Cond.initialized RX5 ∈ WG := WG_of 29 (by decide +kernel) (by decide +kernel)
theorem isX5 : Cond.instantiable RX5 5 ∈ WG := WG_of 287 (by decide +kernel) (by decide +kernel)
set_option maxRecDepth 20000 in
theorem uwX6 : ∀ w ∈ u_ws RX6 TX6 13, w ∈ WG := WG_l _ [454, 456, 458, 460, 462, 464, 466, 468, 470, 472, 474, 476, 478] (by decide +kernel) (by decide +kernel)
theorem dvX6 : ∀ j, j < 13 → defaultValue (tyX6 j) = vp_V (dflV 6) j := by decide +kernel
theorem inX6 : Cond.initialized RX6 ∈ WG := WG_of 27 (by decide +kernel) (by decide +kernel)
theorem isX6 : Cond.instantiable RX6 13 ∈ WG := WG_of 56 (by decide +kernel) (by decide +kernel)
set_option maxRecDepth 20000 in
theorem uwJ0 : ∀ w ∈ u_ws RJ0 TJ0 4, w ∈ WG := WG_l _ [762, 764, 766, 768] (by decide +kernel) (by decide +kernel)
theorem dvJ0 : ∀ j, j < 4 → defaultValue (tyJ0 j) = vp_V (dflV 7) j := by decide +kernel
theorem inJ0 : Cond.initialized RJ0 ∈ WG := WG_of 36 (by decide +kernel) (by decide +kernel)
theorem isJ0 : Cond.instantiable RJ0 4 ∈ WG := WG_of 716 (by decide +kernel) (by decide +kernel)
set_option maxRecDepth 20000 in
theorem uwJ4 : ∀ w ∈ u_ws RJ4 TJ4 4, w ∈ WG := WG_l _ [555, 557, 559, 561] (by decide +kernel) (by decide +kernel)
theorem dvJ4 : ∀ j, j < 4 → defaultValue (tyJ4 j) = vp_V (dflV 8) j := by decide +kernel
theorem inJ4 : Cond.initialized RJ4 ∈ WG := WG_of 35 (by decide +kernel) (by decide +kernel)
theorem isJ4 : Cond.instantiable RJ4 4 ∈ WG := WG_of 534 (by decide +kernel) (by decide +kernel)
/-- what holds of a class of objects -/
def am_C (ci : Nat) (q : vw_C) : Prop := (∀ w ∈ u_ws q.1 q.2.1 q.2.2, w ∈ WG) ∧ Cond.initialized q.1 ∈ WG ∧ Cond.instantiable q.1 q.2.2 ∈ WG ∧ q.2.2 = (dfl ci).length ∧ q.1 = am_R ci ∧
  ∃ ty0 : Nat → FieldType, (∀ k, k < q.2.2 → parseFieldDescriptor (q.2.1 k).2.2.1 = some (ty0 k)) ∧ (∀ a, a < q.2.2 → ∀ b, b < q.2.2 → a ≠ b → (q.2.1 a).2.1 ≠ (q.2.1 b).2.1) ∧ ∀ j, j < q.2.2 → defaultValue (ty0 j) = vp_V (dflV ci) j
theorem am_cls {ci : Nat} {q : vw_C} (h : vwCl[ci]? = some q) : am_C ci q := by
  match ci, h with
  | 0, h => cases h; exact ⟨uwX0, inX0, isX0, rfl, rfl, tyX0, tyX0_ok, nmX0, dvX0⟩
  | 1, h => cases h; exact ⟨uwX1, inX1, isX1, rfl, rfl, tyX1, tyX1_ok, nmX1, dvX1⟩
  | 2, h => cases h; exact ⟨uwX2, inX2, isX2, rfl, rfl, tyX2, tyX2_ok, nmX2, dvX2⟩
  | 3, h => cases h; exact ⟨uwX3, inX3, isX3, rfl, rfl, tyX3, tyX3_ok, nmX3, dvX3⟩
  | 4, h => cases h; exact ⟨uwX4, inX4, isX4, rfl, rfl, tyX4, tyX4_ok, nmX4, dvX4⟩
  | 5, h => cases h; exact ⟨uwX5, inX5, isX5, rfl, rfl, tyX5, tyX5_ok, nmX5, dvX5⟩
  | 6, h => cases h; exact ⟨uwX6, inX6, isX6, rfl, rfl, tyX6, tyX6_ok, nmX6, dvX6⟩
  | 7, h => cases h; exact ⟨uwJ0, inJ0, isJ0, rfl, rfl, tyJ0, tyJ0_ok, nmJ0, dvJ0⟩
  | 8, h => cases h; exact ⟨uwJ4, inJ4, isJ4, rfl, rfl, tyJ4, tyJ4_ok, nmJ4, dvJ4⟩
  | ci + 9, h => simp [vwCl] at h
theorem am_C7 (ci : Nat) (h : ci < 9) : ∃ q : vw_C, vwCl[ci]? = some q := ⟨vwCl[ci]'(by simpa [vwCl] using h), List.getElem?_eq_getElem _⟩
/-- a field's entry -/
def am_fk (q : Nat) (ty : Option FieldType) (fin : Bool) : Bool := match q, ty with
  | 0, some .int => !fin
  | 1, some .boolean => !fin
  | 2, some (.object _) => !fin
  | 2, some (.array _) => !fin
  | 6, some (.object _) => fin
  | 6, some (.array _) => fin
  | 4, some .int => fin
  | 5, some .boolean => fin
  | _, _ => false
def am_fOK (e : Nat × Nat × Nat × Nat × Nat × Nat) : Bool := match e with
  | (o, n, ci, j, q, pl) => match vwCl[ci]? with
    | some (C, T, N) => decide (j < N) && decide (lw_tbl[pl]? = some (Cond.fieldLink (am_R o) n (T j).1 (T j).2.1 (T j).2.2.1)) && am_fk q (parseFieldDescriptor (T j).2.2.1) (T j).2.2.2 && decide ((T j).1 = C)
    | none => false
set_option maxRecDepth 20000 in
theorem am_FLT_ok : am_FLT.all am_fOK = true := by decide +kernel
theorem am_fld {p o n ci j q pl : Nat} (h : am_FLT[p]? = some (o, n, ci, j, q, pl)) : ∃ (C : String) (T : u_T) (N : Nat), vwCl[ci]? = some (C, T, N) ∧ j < N ∧ Cond.fieldLink (am_R o) n (T j).1 (T j).2.1 (T j).2.2.1 ∈ WG ∧ am_fk q (parseFieldDescriptor (T j).2.2.1) (T j).2.2.2 = true ∧ (T j).1 = C := by
  have h1 := List.all_eq_true.mp am_FLT_ok _ (List.mem_of_getElem? h)
  unfold am_fOK at h1
  dsimp only at h1
  split at h1
  · rename_i C T N hC
    simp only [Bool.and_eq_true, decide_eq_true_eq] at h1
    exact ⟨C, T, N, hC, h1.1.1.1, WG_of _ h1.1.1.2 rfl, h1.1.2, h1.2⟩
  · cases h1
def am_cOK (e : Nat × Nat × Nat × Nat) : Bool := match e with
  | (o, n, ci, pl) => decide (ci < 9) && decide (lw_tbl[pl]? = some (Cond.classLink (am_R o) n (am_R ci)))
set_option maxRecDepth 20000 in
theorem am_CLT_ok : am_CLT.all am_cOK = true := by decide +kernel
theorem am_cl {p o n ci pl : Nat} (h : am_CLT[p]? = some (o, n, ci, pl)) : ci < 9 ∧ Cond.classLink (am_R o) n (am_R ci) ∈ WG := by
  have h1 := List.all_eq_true.mp am_CLT_ok _ (List.mem_of_getElem? h)
  simp only [am_cOK, Bool.and_eq_true, decide_eq_true_eq] at h1
  exact ⟨h1.1, WG_of _ h1.2 rfl⟩
def am_mw (kd o n j : Nat) : Cond := match kd with
  | 2 => .methodLinkNest (am_R o) n (mY j) RX6
  | _ => .methodLink (am_R o) n (mlName kd j)
def am_mOK (e : Nat × Nat × Nat × Nat × Nat) : Bool := match e with
  | (o, n, kd, j, pl) => decide (lw_tbl[pl]? = some (am_mw kd o n j))
set_option maxRecDepth 20000 in
theorem am_MLT_ok : am_MLT.all am_mOK = true := by decide +kernel
theorem am_ml {p o n kd j pl : Nat} (h : am_MLT[p]? = some (o, n, kd, j, pl)) (hk : ¬ kd = 2) : Cond.methodLink (am_R o) n (mlName kd j) ∈ WG := by
  have h1 := List.all_eq_true.mp am_MLT_ok _ (List.mem_of_getElem? h)
  simp only [am_mOK, decide_eq_true_eq] at h1
  have e : am_mw kd o n j = Cond.methodLink (am_R o) n (mlName kd j) := by unfold am_mw; split <;> first | (exact absurd rfl hk) | rfl
  rw [e] at h1
  exact WG_of _ h1 rfl
theorem am_mlN {p o n j pl : Nat} (h : am_MLT[p]? = some (o, n, 2, j, pl)) : Cond.methodLinkNest (am_R o) n (mY j) RX6 ∈ lw_tbl := by
  have h1 := List.all_eq_true.mp am_MLT_ok _ (List.mem_of_getElem? h)
  simp only [am_mOK, decide_eq_true_eq] at h1
  exact List.mem_of_getElem? h1
def am_MPL : Nat → Option (Nat × Nat × Nat × Nat) := fun x => (bif Nat.blt x 47 then (bif Nat.blt x 26 then (bif Nat.blt x 10 then (bif Nat.blt x 5 then (bif Nat.blt x 2 then (bif Nat.blt x 1 then (bif Nat.beq x 0 then (some (338, 31, 337, 0)) else none) else (bif Nat.beq x 1 then (some (91, 31, 89, 90)) else none)) else (bif Nat.blt x 3 then (bif Nat.beq x 2 then (some (909, 31, 907, 908)) else none) else (bif Nat.blt x 4 then (bif Nat.beq x 3 then (some (140, 31, 138, 139)) else none) else (bif Nat.beq x 4 then (some (237, 28, 236, 0)) else none)))) else (bif Nat.blt x 7 then (bif Nat.blt x 6 then (bif Nat.beq x 5 then (some (52, 28, 50, 51)) else none) else (bif Nat.beq x 6 then (some (497, 28, 495, 496)) else none)) else (bif Nat.blt x 8 then (bif Nat.beq x 7 then (some (502, 28, 500, 501)) else none) else (bif Nat.blt x 9 then (bif Nat.beq x 8 then (some (61, 28, 59, 60)) else none) else (bif Nat.beq x 9 then (some (513, 28, 511, 512)) else none))))) else (bif Nat.blt x 16 then (bif Nat.blt x 13 then (bif Nat.blt x 12 then (bif Nat.beq x 10 then (some (220, 28, 218, 219)) else none) else (bif Nat.beq x 12 then (some (489, 28, 487, 488)) else none)) else (bif Nat.blt x 14 then (bif Nat.beq x 13 then (some (212, 28, 210, 211)) else none) else (bif Nat.blt x 15 then (bif Nat.beq x 14 then (some (102, 28, 100, 101)) else none) else (bif Nat.beq x 15 then (some (107, 28, 105, 4)) else none)))) else (bif Nat.blt x 19 then (bif Nat.blt x 17 then (bif Nat.beq x 16 then (some (128, 28, 126, 127)) else none) else (bif Nat.blt x 18 then (bif Nat.beq x 17 then (some (132, 28, 130, 131)) else none) else (bif Nat.beq x 18 then (some (136, 28, 134, 135)) else none))) else (bif Nat.blt x 20 then (bif Nat.beq x 19 then (some (148, 28, 146, 147)) else none) else (bif Nat.blt x 25 then (bif Nat.beq x 20 then (some (420, 33, 419, 0)) else none) else (bif Nat.beq x 25 then (some (216, 33, 214, 215)) else none)))))) else (bif Nat.blt x 36 then (bif Nat.blt x 31 then (bif Nat.blt x 28 then (bif Nat.blt x 27 then (bif Nat.beq x 26 then (some (391, 32, 390, 0)) else none) else (bif Nat.beq x 27 then (some (115, 32, 113, 114)) else none)) else (bif Nat.blt x 29 then (bif Nat.beq x 28 then (some (120, 32, 118, 5)) else none) else (bif Nat.blt x 30 then (bif Nat.beq x 29 then (some (124, 32, 123, 6)) else none) else (bif Nat.beq x 30 then (some (144, 32, 143, 7)) else none)))) else (bif Nat.blt x 33 then (bif Nat.blt x 32 then (bif Nat.beq x 31 then (some (153, 32, 152, 8)) else none) else (bif Nat.beq x 32 then (some (160, 32, 159, 9)) else none)) else (bif Nat.blt x 34 then (bif Nat.beq x 33 then (some (164, 32, 162, 163)) else none) else (bif Nat.blt x 35 then (bif Nat.beq x 34 then (some (168, 32, 167, 10)) else none) else (bif Nat.beq x 35 then (some (172, 32, 171, 11)) else none))))) else (bif Nat.blt x 41 then (bif Nat.blt x 38 then (bif Nat.blt x 37 then (bif Nat.beq x 36 then (some (316, 30, 315, 0)) else none) else (bif Nat.beq x 37 then (some (833, 30, 831, 832)) else none)) else (bif Nat.blt x 39 then (bif Nat.beq x 38 then (some (841, 30, 839, 840)) else none) else (bif Nat.blt x 40 then (bif Nat.beq x 39 then (some (845, 30, 844, 14)) else none) else (bif Nat.beq x 40 then (some (853, 30, 852, 16)) else none)))) else (bif Nat.blt x 44 then (bif Nat.blt x 42 then (bif Nat.beq x 41 then (some (886, 30, 885, 22)) else none) else (bif Nat.blt x 43 then (bif Nat.beq x 42 then (some (898, 30, 897, 24)) else none) else (bif Nat.beq x 43 then (some (903, 30, 902, 25)) else none))) else (bif Nat.blt x 45 then (bif Nat.beq x 44 then (some (873, 30, 872, 20)) else none) else (bif Nat.blt x 46 then (bif Nat.beq x 45 then (some (878, 30, 877, 21)) else none) else (bif Nat.beq x 46 then (some (869, 30, 868, 19)) else none))))))) else (bif Nat.blt x 71 then (bif Nat.blt x 59 then (bif Nat.blt x 52 then (bif Nat.blt x 49 then (bif Nat.blt x 48 then (bif Nat.beq x 47 then (some (891, 30, 890, 23)) else none) else (bif Nat.beq x 48 then (some (864, 30, 863, 18)) else none)) else (bif Nat.blt x 50 then (bif Nat.beq x 49 then (some (858, 30, 857, 17)) else none) else (bif Nat.blt x 51 then (bif Nat.beq x 50 then (some (849, 30, 848, 15)) else none) else (bif Nat.beq x 51 then (some (290, 29, 289, 0)) else none)))) else (bif Nat.blt x 54 then (bif Nat.blt x 53 then (bif Nat.beq x 52 then (some (69, 29, 67, 68)) else none) else (bif Nat.beq x 53 then (some (525, 29, 523, 524)) else none)) else (bif Nat.blt x 55 then (bif Nat.beq x 54 then (some (922, 29, 920, 921)) else none) else (bif Nat.blt x 56 then (bif Nat.beq x 55 then (some (926, 29, 924, 925)) else none) else (bif Nat.beq x 56 then (some (111, 29, 109, 110)) else none))))) else (bif Nat.blt x 64 then (bif Nat.blt x 61 then (bif Nat.blt x 60 then (bif Nat.beq x 59 then (some (230, 27, 229, 0)) else none) else (bif Nat.beq x 60 then (some (493, 27, 491, 492)) else none)) else (bif Nat.blt x 62 then (bif Nat.beq x 61 then (some (48, 27, 46, 47)) else none) else (bif Nat.blt x 63 then (bif Nat.beq x 62 then (some (506, 27, 504, 505)) else none) else (bif Nat.beq x 63 then (some (517, 27, 515, 516)) else none)))) else (bif Nat.blt x 67 then (bif Nat.blt x 65 then (bif Nat.beq x 64 then (some (485, 27, 483, 484)) else none) else (bif Nat.blt x 66 then (bif Nat.beq x 65 then (some (521, 27, 519, 520)) else none) else (bif Nat.beq x 66 then (some (65, 27, 63, 64)) else none))) else (bif Nat.blt x 68 then (bif Nat.beq x 67 then (some (529, 27, 527, 528)) else none) else (bif Nat.blt x 70 then (bif Nat.beq x 68 then (some (918, 27, 916, 917)) else none) else (bif Nat.beq x 70 then (some (829, 27, 827, 828)) else none)))))) else (bif Nat.blt x 94 then (bif Nat.blt x 77 then (bif Nat.blt x 73 then (bif Nat.blt x 72 then (bif Nat.beq x 71 then (some (913, 27, 911, 912)) else none) else (bif Nat.beq x 72 then (some (837, 27, 835, 836)) else none)) else (bif Nat.blt x 74 then (bif Nat.beq x 73 then (some (79, 27, 77, 78)) else none) else (bif Nat.blt x 76 then (bif Nat.beq x 74 then (some (176, 27, 174, 175)) else none) else (bif Nat.beq x 76 then (some (180, 27, 178, 179)) else none)))) else (bif Nat.blt x 82 then (bif Nat.blt x 78 then (bif Nat.beq x 77 then (some (184, 27, 182, 183)) else none) else (bif Nat.blt x 81 then (bif Nat.beq x 78 then (some (188, 27, 186, 187)) else none) else (bif Nat.beq x 81 then (some (192, 27, 190, 191)) else none))) else (bif Nat.blt x 87 then (bif Nat.beq x 82 then (some (204, 27, 202, 203)) else none) else (bif Nat.blt x 93 then (bif Nat.beq x 87 then (some (208, 27, 206, 207)) else none) else (bif Nat.beq x 93 then (some (57, 27, 55, 0)) else none))))) else (bif Nat.blt x 99 then (bif Nat.blt x 96 then (bif Nat.blt x 95 then (bif Nat.beq x 94 then (some (509, 27, 508, 0)) else none) else (bif Nat.beq x 95 then (some (94, 27, 93, 0)) else none)) else (bif Nat.blt x 97 then (bif Nat.beq x 96 then (some (72, 27, 71, 0)) else none) else (bif Nat.blt x 98 then (bif Nat.beq x 97 then (some (75, 27, 74, 0)) else none) else (bif Nat.beq x 98 then (some (87, 27, 86, 2)) else none)))) else (bif Nat.blt x 102 then (bif Nat.blt x 100 then (bif Nat.beq x 99 then (some (83, 27, 82, 1)) else none) else (bif Nat.blt x 101 then (bif Nat.beq x 100 then (some (98, 27, 97, 3)) else none) else (bif Nat.beq x 101 then (some (196, 27, 195, 12)) else none))) else (bif Nat.blt x 170 then (bif Nat.beq x 102 then (some (200, 27, 199, 13)) else none) else (bif Nat.blt x 171 then (bif Nat.beq x 170 then (some (223, 26, 222, 0)) else none) else (bif Nat.beq x 171 then (some (226, 26, 225, 0)) else none))))))))
def mSt : Nat → Bool := fun x => (bif Nat.blt x 48 then (bif Nat.blt x 26 then (bif Nat.blt x 10 then (bif Nat.blt x 5 then (bif Nat.blt x 2 then (bif Nat.blt x 1 then (bif Nat.beq x 0 then false else false) else (bif Nat.beq x 1 then false else false)) else (bif Nat.blt x 3 then (bif Nat.beq x 2 then false else false) else (bif Nat.blt x 4 then (bif Nat.beq x 3 then false else false) else (bif Nat.beq x 4 then false else false)))) else (bif Nat.blt x 7 then (bif Nat.blt x 6 then (bif Nat.beq x 5 then false else false) else (bif Nat.beq x 6 then false else false)) else (bif Nat.blt x 8 then (bif Nat.beq x 7 then false else false) else (bif Nat.blt x 9 then (bif Nat.beq x 8 then false else false) else (bif Nat.beq x 9 then false else false))))) else (bif Nat.blt x 16 then (bif Nat.blt x 13 then (bif Nat.blt x 12 then (bif Nat.beq x 10 then false else false) else (bif Nat.beq x 12 then false else false)) else (bif Nat.blt x 14 then (bif Nat.beq x 13 then false else false) else (bif Nat.blt x 15 then (bif Nat.beq x 14 then false else false) else (bif Nat.beq x 15 then false else false)))) else (bif Nat.blt x 19 then (bif Nat.blt x 17 then (bif Nat.beq x 16 then false else false) else (bif Nat.blt x 18 then (bif Nat.beq x 17 then false else false) else (bif Nat.beq x 18 then false else false))) else (bif Nat.blt x 20 then (bif Nat.beq x 19 then false else false) else (bif Nat.blt x 25 then (bif Nat.beq x 20 then false else false) else (bif Nat.beq x 25 then false else false)))))) else (bif Nat.blt x 37 then (bif Nat.blt x 31 then (bif Nat.blt x 28 then (bif Nat.blt x 27 then (bif Nat.beq x 26 then false else false) else (bif Nat.beq x 27 then false else false)) else (bif Nat.blt x 29 then (bif Nat.beq x 28 then false else false) else (bif Nat.blt x 30 then (bif Nat.beq x 29 then false else false) else (bif Nat.beq x 30 then false else false)))) else (bif Nat.blt x 34 then (bif Nat.blt x 32 then (bif Nat.beq x 31 then false else false) else (bif Nat.blt x 33 then (bif Nat.beq x 32 then false else false) else (bif Nat.beq x 33 then false else false))) else (bif Nat.blt x 35 then (bif Nat.beq x 34 then false else false) else (bif Nat.blt x 36 then (bif Nat.beq x 35 then false else false) else (bif Nat.beq x 36 then false else false))))) else (bif Nat.blt x 42 then (bif Nat.blt x 39 then (bif Nat.blt x 38 then (bif Nat.beq x 37 then false else false) else (bif Nat.beq x 38 then false else false)) else (bif Nat.blt x 40 then (bif Nat.beq x 39 then false else false) else (bif Nat.blt x 41 then (bif Nat.beq x 40 then false else false) else (bif Nat.beq x 41 then false else false)))) else (bif Nat.blt x 45 then (bif Nat.blt x 43 then (bif Nat.beq x 42 then false else false) else (bif Nat.blt x 44 then (bif Nat.beq x 43 then false else false) else (bif Nat.beq x 44 then false else false))) else (bif Nat.blt x 46 then (bif Nat.beq x 45 then false else false) else (bif Nat.blt x 47 then (bif Nat.beq x 46 then false else false) else (bif Nat.beq x 47 then false else false))))))) else (bif Nat.blt x 72 then (bif Nat.blt x 60 then (bif Nat.blt x 53 then (bif Nat.blt x 50 then (bif Nat.blt x 49 then (bif Nat.beq x 48 then false else false) else (bif Nat.beq x 49 then false else false)) else (bif Nat.blt x 51 then (bif Nat.beq x 50 then false else false) else (bif Nat.blt x 52 then (bif Nat.beq x 51 then false else false) else (bif Nat.beq x 52 then false else false)))) else (bif Nat.blt x 55 then (bif Nat.blt x 54 then (bif Nat.beq x 53 then false else false) else (bif Nat.beq x 54 then false else false)) else (bif Nat.blt x 56 then (bif Nat.beq x 55 then false else false) else (bif Nat.blt x 59 then (bif Nat.beq x 56 then false else false) else (bif Nat.beq x 59 then false else false))))) else (bif Nat.blt x 65 then (bif Nat.blt x 62 then (bif Nat.blt x 61 then (bif Nat.beq x 60 then false else false) else (bif Nat.beq x 61 then false else false)) else (bif Nat.blt x 63 then (bif Nat.beq x 62 then false else false) else (bif Nat.blt x 64 then (bif Nat.beq x 63 then false else false) else (bif Nat.beq x 64 then false else false)))) else (bif Nat.blt x 68 then (bif Nat.blt x 66 then (bif Nat.beq x 65 then false else false) else (bif Nat.blt x 67 then (bif Nat.beq x 66 then false else false) else (bif Nat.beq x 67 then false else false))) else (bif Nat.blt x 70 then (bif Nat.beq x 68 then false else false) else (bif Nat.blt x 71 then (bif Nat.beq x 70 then false else false) else (bif Nat.beq x 71 then false else false)))))) else (bif Nat.blt x 95 then (bif Nat.blt x 78 then (bif Nat.blt x 74 then (bif Nat.blt x 73 then (bif Nat.beq x 72 then false else false) else (bif Nat.beq x 73 then false else false)) else (bif Nat.blt x 76 then (bif Nat.beq x 74 then false else false) else (bif Nat.blt x 77 then (bif Nat.beq x 76 then false else false) else (bif Nat.beq x 77 then false else false)))) else (bif Nat.blt x 87 then (bif Nat.blt x 81 then (bif Nat.beq x 78 then false else false) else (bif Nat.blt x 82 then (bif Nat.beq x 81 then false else false) else (bif Nat.beq x 82 then false else false))) else (bif Nat.blt x 93 then (bif Nat.beq x 87 then false else false) else (bif Nat.blt x 94 then (bif Nat.beq x 93 then false else false) else (bif Nat.beq x 94 then true else false))))) else (bif Nat.blt x 100 then (bif Nat.blt x 97 then (bif Nat.blt x 96 then (bif Nat.beq x 95 then true else false) else (bif Nat.beq x 96 then true else false)) else (bif Nat.blt x 98 then (bif Nat.beq x 97 then true else false) else (bif Nat.blt x 99 then (bif Nat.beq x 98 then false else false) else (bif Nat.beq x 99 then false else false)))) else (bif Nat.blt x 169 then (bif Nat.blt x 101 then (bif Nat.beq x 100 then false else false) else (bif Nat.blt x 102 then (bif Nat.beq x 101 then false else false) else (bif Nat.beq x 102 then false else false))) else (bif Nat.blt x 170 then (bif Nat.beq x 169 then true else false) else (bif Nat.blt x 171 then (bif Nat.beq x 170 then true else false) else (bif Nat.beq x 171 then true else false))))))))
def am_wOK (k : Nat) : Bool := match am_MPL k with
  | some (pc, pi, pk, ps) => decide (lw_tbl[pi]? = some (Cond.initialized (mY k).cls)) && decide ((mY k).cls = am_R (mO k)) && plainName (mY k).cls &&
    decide ((mY k).cls ≠ "java/lang/invoke/MethodHandle") && decide ((mY k).cls ≠ "java/lang/invoke/VarHandle") && decide ((parseMethodDescriptor (mY k).desc).map (fun d => d.parameters.length + 1) = some (bif mSt k then mNA k + 1 else mNA k)) &&
    (bif mSt k then decide (lw_tbl[pk]? = some (Cond.static (mY k))) else decide (lw_tbl[pk]? = some (Cond.instanceMethod (mY k))) && (bif mIn k then decide ((mY k).name = "<init>") && decide (mR k = none) else decide (lw_tbl[ps]? = some (Cond.selects (mY k).cls (mY k) (mY k)))))
  | none => false
def mL2 : List Nat := [0, 1, 2, 3, 4, 5, 6, 7, 8, 9, 10, 12, 13, 14, 15, 16, 17, 18, 19, 20, 25, 26, 27, 28, 29, 30, 31, 32, 33, 34, 35, 36, 37, 38, 39, 40, 41, 42, 43, 44, 45, 46, 47, 48, 49, 50, 51, 52, 53, 54, 55, 56, 59, 60, 61, 62, 63, 64, 65, 66, 67, 68, 70, 71, 72, 73, 74, 76, 77, 78, 81, 82, 87, 93, 94, 95, 96, 97, 98, 99, 100, 101, 102, 170, 171]
theorem am_mem : ∀ k : Nat, mP k = true → k ∈ mL2 := by
  intro k h
  have h0 : k < 172 := by
    by_cases q : k < 172
    · exact q
    · exfalso
      have e : ∀ x : Nat, 172 ≤ x → mP x = false := by
        intro x hx
        unfold mP
        simp only [show ∀ n : Nat, n < 172 → Nat.blt x n = false from fun n hn => by
          cases z : Nat.blt x n with
          | false => rfl
          | true => exact absurd (Nat.blt_eq.mp z) (by omega), show ∀ n : Nat, n < 172 → Nat.beq x n = false from fun n hn => by
          cases z : Nat.beq x n with
          | false => rfl
          | true => exact absurd (Nat.eq_of_beq_eq_true z) (by omega), Nat.reduceLT, cond_false, cond_true]
      rw [e k (by omega)] at h
      cases h
  have h1 : (List.range 172).all (fun x => !(mP x) || mL2.contains x) = true := by decide +kernel
  have h2 := List.all_eq_true.mp h1 k (List.mem_range.mpr h0)
  rw [h] at h2
  simpa using h2
theorem am_memL {P : Nat → Prop} (h : ∀ k ∈ mL2, P k) {k : Nat} (hk : mP k = true) : P k := h k (am_mem k hk)
set_option maxRecDepth 20000 in
theorem mc0 : Cond.code (mY 0) (mB 0) (mL 0) (mR 0) ∈ WG := WG_of 338 rfl rfl
set_option maxRecDepth 20000 in
theorem mc1 : Cond.code (mY 1) (mB 1) (mL 1) (mR 1) ∈ WG := WG_of 91 rfl rfl
set_option maxRecDepth 20000 in
theorem mc2 : Cond.code (mY 2) (mB 2) (mL 2) (mR 2) ∈ WG := WG_of 909 rfl rfl
set_option maxRecDepth 20000 in
theorem mc3 : Cond.code (mY 3) (mB 3) (mL 3) (mR 3) ∈ WG := WG_of 140 rfl rfl
set_option maxRecDepth 20000 in
theorem mc4 : Cond.code (mY 4) (mB 4) (mL 4) (mR 4) ∈ WG := WG_of 237 rfl rfl
set_option maxRecDepth 20000 in
theorem mc5 : Cond.code (mY 5) (mB 5) (mL 5) (mR 5) ∈ WG := WG_of 52 rfl rfl
set_option maxRecDepth 20000 in
theorem mc6 : Cond.code (mY 6) (mB 6) (mL 6) (mR 6) ∈ WG := WG_of 497 rfl rfl
set_option maxRecDepth 20000 in
theorem mc7 : Cond.code (mY 7) (mB 7) (mL 7) (mR 7) ∈ WG := WG_of 502 rfl rfl
set_option maxRecDepth 20000 in
theorem mc8 : Cond.code (mY 8) (mB 8) (mL 8) (mR 8) ∈ WG := WG_of 61 rfl rfl
set_option maxRecDepth 20000 in
theorem mc9 : Cond.code (mY 9) (mB 9) (mL 9) (mR 9) ∈ WG := WG_of 513 rfl rfl
set_option maxRecDepth 20000 in
theorem mc10 : Cond.code (mY 10) (mB 10) (mL 10) (mR 10) ∈ WG := WG_of 220 rfl rfl
set_option maxRecDepth 20000 in
theorem mc12 : Cond.code (mY 12) (mB 12) (mL 12) (mR 12) ∈ WG := WG_of 489 rfl rfl
set_option maxRecDepth 20000 in
theorem mc13 : Cond.code (mY 13) (mB 13) (mL 13) (mR 13) ∈ WG := WG_of 212 rfl rfl
set_option maxRecDepth 20000 in
theorem mc14 : Cond.code (mY 14) (mB 14) (mL 14) (mR 14) ∈ WG := WG_of 102 rfl rfl
set_option maxRecDepth 20000 in
theorem mc15 : Cond.code (mY 15) (mB 15) (mL 15) (mR 15) ∈ WG := WG_of 107 rfl rfl
set_option maxRecDepth 20000 in
theorem mc16 : Cond.code (mY 16) (mB 16) (mL 16) (mR 16) ∈ WG := WG_of 128 rfl rfl
set_option maxRecDepth 20000 in
theorem mc17 : Cond.code (mY 17) (mB 17) (mL 17) (mR 17) ∈ WG := WG_of 132 rfl rfl
set_option maxRecDepth 20000 in
theorem mc18 : Cond.code (mY 18) (mB 18) (mL 18) (mR 18) ∈ WG := WG_of 136 rfl rfl
set_option maxRecDepth 20000 in
theorem mc19 : Cond.code (mY 19) (mB 19) (mL 19) (mR 19) ∈ WG := WG_of 148 rfl rfl
set_option maxRecDepth 20000 in
theorem mc20 : Cond.code (mY 20) (mB 20) (mL 20) (mR 20) ∈ WG := WG_of 420 rfl rfl
set_option maxRecDepth 20000 in
theorem mc25 : Cond.code (mY 25) (mB 25) (mL 25) (mR 25) ∈ WG := WG_of 216 rfl rfl
set_option maxRecDepth 20000 in
theorem mc26 : Cond.code (mY 26) (mB 26) (mL 26) (mR 26) ∈ WG := WG_of 391 rfl rfl
set_option maxRecDepth 20000 in
theorem mc27 : Cond.code (mY 27) (mB 27) (mL 27) (mR 27) ∈ WG := WG_of 115 rfl rfl
set_option maxRecDepth 20000 in
theorem mc28 : Cond.code (mY 28) (mB 28) (mL 28) (mR 28) ∈ WG := WG_of 120 rfl rfl
set_option maxRecDepth 20000 in
theorem mc29 : Cond.code (mY 29) (mB 29) (mL 29) (mR 29) ∈ WG := WG_of 124 rfl rfl
set_option maxRecDepth 20000 in
theorem mc30 : Cond.code (mY 30) (mB 30) (mL 30) (mR 30) ∈ WG := WG_of 144 rfl rfl
set_option maxRecDepth 20000 in
theorem mc31 : Cond.code (mY 31) (mB 31) (mL 31) (mR 31) ∈ WG := WG_of 153 rfl rfl
set_option maxRecDepth 20000 in
theorem mc32 : Cond.code (mY 32) (mB 32) (mL 32) (mR 32) ∈ WG := WG_of 160 rfl rfl
set_option maxRecDepth 20000 in
theorem mc33 : Cond.code (mY 33) (mB 33) (mL 33) (mR 33) ∈ WG := WG_of 164 rfl rfl
set_option maxRecDepth 20000 in
theorem mc34 : Cond.code (mY 34) (mB 34) (mL 34) (mR 34) ∈ WG := WG_of 168 rfl rfl
set_option maxRecDepth 20000 in
theorem mc35 : Cond.code (mY 35) (mB 35) (mL 35) (mR 35) ∈ WG := WG_of 172 rfl rfl
set_option maxRecDepth 20000 in
theorem mc36 : Cond.code (mY 36) (mB 36) (mL 36) (mR 36) ∈ WG := WG_of 316 rfl rfl
set_option maxRecDepth 20000 in
theorem mc37 : Cond.code (mY 37) (mB 37) (mL 37) (mR 37) ∈ WG := WG_of 833 rfl rfl
set_option maxRecDepth 20000 in
theorem mc38 : Cond.code (mY 38) (mB 38) (mL 38) (mR 38) ∈ WG := WG_of 841 rfl rfl
set_option maxRecDepth 20000 in
theorem mc39 : Cond.code (mY 39) (mB 39) (mL 39) (mR 39) ∈ WG := WG_of 845 rfl rfl
set_option maxRecDepth 20000 in
theorem mc40 : Cond.code (mY 40) (mB 40) (mL 40) (mR 40) ∈ WG := WG_of 853 rfl rfl
set_option maxRecDepth 20000 in
theorem mc41 : Cond.code (mY 41) (mB 41) (mL 41) (mR 41) ∈ WG := WG_of 886 rfl rfl
set_option maxRecDepth 20000 in
theorem mc42 : Cond.code (mY 42) (mB 42) (mL 42) (mR 42) ∈ WG := WG_of 898 rfl rfl
set_option maxRecDepth 20000 in
theorem mc43 : Cond.code (mY 43) (mB 43) (mL 43) (mR 43) ∈ WG := WG_of 903 rfl rfl
set_option maxRecDepth 20000 in
theorem mc44 : Cond.code (mY 44) (mB 44) (mL 44) (mR 44) ∈ WG := WG_of 873 rfl rfl
set_option maxRecDepth 20000 in
theorem mc45 : Cond.code (mY 45) (mB 45) (mL 45) (mR 45) ∈ WG := WG_of 878 rfl rfl
set_option maxRecDepth 20000 in
theorem mc46 : Cond.code (mY 46) (mB 46) (mL 46) (mR 46) ∈ WG := WG_of 869 rfl rfl
set_option maxRecDepth 20000 in
theorem mc47 : Cond.code (mY 47) (mB 47) (mL 47) (mR 47) ∈ WG := WG_of 891 rfl rfl
set_option maxRecDepth 20000 in
theorem mc48 : Cond.code (mY 48) (mB 48) (mL 48) (mR 48) ∈ WG := WG_of 864 rfl rfl
set_option maxRecDepth 20000 in
theorem mc49 : Cond.code (mY 49) (mB 49) (mL 49) (mR 49) ∈ WG := WG_of 858 rfl rfl
set_option maxRecDepth 20000 in
theorem mc50 : Cond.code (mY 50) (mB 50) (mL 50) (mR 50) ∈ WG := WG_of 849 rfl rfl
set_option maxRecDepth 20000 in
theorem mc51 : Cond.code (mY 51) (mB 51) (mL 51) (mR 51) ∈ WG := WG_of 290 rfl rfl
set_option maxRecDepth 20000 in
theorem mc52 : Cond.code (mY 52) (mB 52) (mL 52) (mR 52) ∈ WG := WG_of 69 rfl rfl
set_option maxRecDepth 20000 in
theorem mc53 : Cond.code (mY 53) (mB 53) (mL 53) (mR 53) ∈ WG := WG_of 525 rfl rfl
set_option maxRecDepth 20000 in
theorem mc54 : Cond.code (mY 54) (mB 54) (mL 54) (mR 54) ∈ WG := WG_of 922 rfl rfl
set_option maxRecDepth 20000 in
theorem mc55 : Cond.code (mY 55) (mB 55) (mL 55) (mR 55) ∈ WG := WG_of 926 rfl rfl
set_option maxRecDepth 20000 in
theorem mc56 : Cond.code (mY 56) (mB 56) (mL 56) (mR 56) ∈ WG := WG_of 111 rfl rfl
set_option maxRecDepth 20000 in
theorem mc59 : Cond.code (mY 59) (mB 59) (mL 59) (mR 59) ∈ WG := WG_of 230 rfl rfl
set_option maxRecDepth 20000 in
theorem mc60 : Cond.code (mY 60) (mB 60) (mL 60) (mR 60) ∈ WG := WG_of 493 rfl rfl
set_option maxRecDepth 20000 in
theorem mc61 : Cond.code (mY 61) (mB 61) (mL 61) (mR 61) ∈ WG := WG_of 48 rfl rfl
set_option maxRecDepth 20000 in
theorem mc62 : Cond.code (mY 62) (mB 62) (mL 62) (mR 62) ∈ WG := WG_of 506 rfl rfl
set_option maxRecDepth 20000 in
theorem mc63 : Cond.code (mY 63) (mB 63) (mL 63) (mR 63) ∈ WG := WG_of 517 rfl rfl
set_option maxRecDepth 20000 in
theorem mc64 : Cond.code (mY 64) (mB 64) (mL 64) (mR 64) ∈ WG := WG_of 485 rfl rfl
set_option maxRecDepth 20000 in
theorem mc65 : Cond.code (mY 65) (mB 65) (mL 65) (mR 65) ∈ WG := WG_of 521 rfl rfl
set_option maxRecDepth 20000 in
theorem mc66 : Cond.code (mY 66) (mB 66) (mL 66) (mR 66) ∈ WG := WG_of 65 rfl rfl
set_option maxRecDepth 20000 in
theorem mc67 : Cond.code (mY 67) (mB 67) (mL 67) (mR 67) ∈ WG := WG_of 529 rfl rfl
set_option maxRecDepth 20000 in
theorem mc68 : Cond.code (mY 68) (mB 68) (mL 68) (mR 68) ∈ WG := WG_of 918 rfl rfl
set_option maxRecDepth 20000 in
theorem mc70 : Cond.code (mY 70) (mB 70) (mL 70) (mR 70) ∈ WG := WG_of 829 rfl rfl
set_option maxRecDepth 20000 in
theorem mc71 : Cond.code (mY 71) (mB 71) (mL 71) (mR 71) ∈ WG := WG_of 913 rfl rfl
set_option maxRecDepth 20000 in
theorem mc72 : Cond.code (mY 72) (mB 72) (mL 72) (mR 72) ∈ WG := WG_of 837 rfl rfl
set_option maxRecDepth 20000 in
theorem mc73 : Cond.code (mY 73) (mB 73) (mL 73) (mR 73) ∈ WG := WG_of 79 rfl rfl
set_option maxRecDepth 20000 in
theorem mc74 : Cond.code (mY 74) (mB 74) (mL 74) (mR 74) ∈ WG := WG_of 176 rfl rfl
set_option maxRecDepth 20000 in
theorem mc76 : Cond.code (mY 76) (mB 76) (mL 76) (mR 76) ∈ WG := WG_of 180 rfl rfl
set_option maxRecDepth 20000 in
theorem mc77 : Cond.code (mY 77) (mB 77) (mL 77) (mR 77) ∈ WG := WG_of 184 rfl rfl
set_option maxRecDepth 20000 in
theorem mc78 : Cond.code (mY 78) (mB 78) (mL 78) (mR 78) ∈ WG := WG_of 188 rfl rfl
set_option maxRecDepth 20000 in
theorem mc81 : Cond.code (mY 81) (mB 81) (mL 81) (mR 81) ∈ WG := WG_of 192 rfl rfl
set_option maxRecDepth 20000 in
theorem mc82 : Cond.code (mY 82) (mB 82) (mL 82) (mR 82) ∈ WG := WG_of 204 rfl rfl
set_option maxRecDepth 20000 in
theorem mc87 : Cond.code (mY 87) (mB 87) (mL 87) (mR 87) ∈ WG := WG_of 208 rfl rfl
set_option maxRecDepth 20000 in
theorem mc93 : Cond.code (mY 93) (mB 93) (mL 93) (mR 93) ∈ WG := WG_of 57 rfl rfl
set_option maxRecDepth 20000 in
theorem mc94 : Cond.code (mY 94) (mB 94) (mL 94) (mR 94) ∈ WG := WG_of 509 rfl rfl
set_option maxRecDepth 20000 in
theorem mc95 : Cond.code (mY 95) (mB 95) (mL 95) (mR 95) ∈ WG := WG_of 94 rfl rfl
set_option maxRecDepth 20000 in
theorem mc96 : Cond.code (mY 96) (mB 96) (mL 96) (mR 96) ∈ WG := WG_of 72 rfl rfl
set_option maxRecDepth 20000 in
theorem mc97 : Cond.code (mY 97) (mB 97) (mL 97) (mR 97) ∈ WG := WG_of 75 rfl rfl
set_option maxRecDepth 20000 in
theorem mc98 : Cond.code (mY 98) (mB 98) (mL 98) (mR 98) ∈ WG := WG_of 87 rfl rfl
set_option maxRecDepth 20000 in
theorem mc99 : Cond.code (mY 99) (mB 99) (mL 99) (mR 99) ∈ WG := WG_of 83 rfl rfl
set_option maxRecDepth 20000 in
theorem mc100 : Cond.code (mY 100) (mB 100) (mL 100) (mR 100) ∈ WG := WG_of 98 rfl rfl
set_option maxRecDepth 20000 in
theorem mc101 : Cond.code (mY 101) (mB 101) (mL 101) (mR 101) ∈ WG := WG_of 196 rfl rfl
set_option maxRecDepth 20000 in
theorem mc102 : Cond.code (mY 102) (mB 102) (mL 102) (mR 102) ∈ WG := WG_of 200 rfl rfl
set_option maxRecDepth 20000 in
theorem mc170 : Cond.code (mY 170) (mB 170) (mL 170) (mR 170) ∈ WG := WG_of 223 rfl rfl
set_option maxRecDepth 20000 in
theorem mc171 : Cond.code (mY 171) (mB 171) (mL 171) (mR 171) ∈ WG := WG_of 226 rfl rfl
theorem am_code {k : Nat} (hk : mP k = true) : Cond.code (mY k) (mB k) (mL k) (mR k) ∈ WG := am_memL (P := fun k => Cond.code (mY k) (mB k) (mL k) (mR k) ∈ WG) (List.forall_mem_cons.mpr ⟨mc0, List.forall_mem_cons.mpr ⟨mc1, List.forall_mem_cons.mpr ⟨mc2, List.forall_mem_cons.mpr ⟨mc3, List.forall_mem_cons.mpr ⟨mc4, List.forall_mem_cons.mpr ⟨mc5, List.forall_mem_cons.mpr ⟨mc6, List.forall_mem_cons.mpr ⟨mc7, List.forall_mem_cons.mpr ⟨mc8, List.forall_mem_cons.mpr ⟨mc9, List.forall_mem_cons.mpr ⟨mc10, List.forall_mem_cons.mpr ⟨mc12, List.forall_mem_cons.mpr ⟨mc13, List.forall_mem_cons.mpr ⟨mc14, List.forall_mem_cons.mpr ⟨mc15, List.forall_mem_cons.mpr ⟨mc16, List.forall_mem_cons.mpr ⟨mc17, List.forall_mem_cons.mpr ⟨mc18, List.forall_mem_cons.mpr ⟨mc19, List.forall_mem_cons.mpr ⟨mc20, List.forall_mem_cons.mpr ⟨mc25, List.forall_mem_cons.mpr ⟨mc26, List.forall_mem_cons.mpr ⟨mc27, List.forall_mem_cons.mpr ⟨mc28, List.forall_mem_cons.mpr ⟨mc29, List.forall_mem_cons.mpr ⟨mc30, List.forall_mem_cons.mpr ⟨mc31, List.forall_mem_cons.mpr ⟨mc32, List.forall_mem_cons.mpr ⟨mc33, List.forall_mem_cons.mpr ⟨mc34, List.forall_mem_cons.mpr ⟨mc35, List.forall_mem_cons.mpr ⟨mc36, List.forall_mem_cons.mpr ⟨mc37, List.forall_mem_cons.mpr ⟨mc38, List.forall_mem_cons.mpr ⟨mc39, List.forall_mem_cons.mpr ⟨mc40, List.forall_mem_cons.mpr ⟨mc41, List.forall_mem_cons.mpr ⟨mc42, List.forall_mem_cons.mpr ⟨mc43, List.forall_mem_cons.mpr ⟨mc44, List.forall_mem_cons.mpr ⟨mc45, List.forall_mem_cons.mpr ⟨mc46, List.forall_mem_cons.mpr ⟨mc47, List.forall_mem_cons.mpr ⟨mc48, List.forall_mem_cons.mpr ⟨mc49, List.forall_mem_cons.mpr ⟨mc50, List.forall_mem_cons.mpr ⟨mc51, List.forall_mem_cons.mpr ⟨mc52, List.forall_mem_cons.mpr ⟨mc53, List.forall_mem_cons.mpr ⟨mc54, List.forall_mem_cons.mpr ⟨mc55, List.forall_mem_cons.mpr ⟨mc56, List.forall_mem_cons.mpr ⟨mc59, List.forall_mem_cons.mpr ⟨mc60, List.forall_mem_cons.mpr ⟨mc61, List.forall_mem_cons.mpr ⟨mc62, List.forall_mem_cons.mpr ⟨mc63, List.forall_mem_cons.mpr ⟨mc64, List.forall_mem_cons.mpr ⟨mc65, List.forall_mem_cons.mpr ⟨mc66, List.forall_mem_cons.mpr ⟨mc67, List.forall_mem_cons.mpr ⟨mc68, List.forall_mem_cons.mpr ⟨mc70, List.forall_mem_cons.mpr ⟨mc71, List.forall_mem_cons.mpr ⟨mc72, List.forall_mem_cons.mpr ⟨mc73, List.forall_mem_cons.mpr ⟨mc74, List.forall_mem_cons.mpr ⟨mc76, List.forall_mem_cons.mpr ⟨mc77, List.forall_mem_cons.mpr ⟨mc78, List.forall_mem_cons.mpr ⟨mc81, List.forall_mem_cons.mpr ⟨mc82, List.forall_mem_cons.mpr ⟨mc87, List.forall_mem_cons.mpr ⟨mc93, List.forall_mem_cons.mpr ⟨mc94, List.forall_mem_cons.mpr ⟨mc95, List.forall_mem_cons.mpr ⟨mc96, List.forall_mem_cons.mpr ⟨mc97, List.forall_mem_cons.mpr ⟨mc98, List.forall_mem_cons.mpr ⟨mc99, List.forall_mem_cons.mpr ⟨mc100, List.forall_mem_cons.mpr ⟨mc101, List.forall_mem_cons.mpr ⟨mc102, List.forall_mem_cons.mpr ⟨mc170, List.forall_mem_cons.mpr ⟨mc171, fun _ h => absurd h List.not_mem_nil⟩⟩⟩⟩⟩⟩⟩⟩⟩⟩⟩⟩⟩⟩⟩⟩⟩⟩⟩⟩⟩⟩⟩⟩⟩⟩⟩⟩⟩⟩⟩⟩⟩⟩⟩⟩⟩⟩⟩⟩⟩⟩⟩⟩⟩⟩⟩⟩⟩⟩⟩⟩⟩⟩⟩⟩⟩⟩⟩⟩⟩⟩⟩⟩⟩⟩⟩⟩⟩⟩⟩⟩⟩⟩⟩⟩⟩⟩⟩⟩⟩⟩⟩⟩⟩) hk
set_option maxRecDepth 100000 in
set_option maxHeartbeats 4000000 in
theorem mw0 : ([0, 1, 2, 3, 4, 5, 6, 7, 8, 9, 10, 12, 13, 14, 15, 16, 17] : List Nat).all am_wOK = true := by decide +kernel
set_option maxRecDepth 100000 in
set_option maxHeartbeats 4000000 in
theorem mw18 : ([18, 19, 20, 25, 26, 27, 28, 29, 30, 31, 32, 33, 34, 35, 36, 37, 38] : List Nat).all am_wOK = true := by decide +kernel
set_option maxRecDepth 100000 in
set_option maxHeartbeats 4000000 in
theorem mw39 : ([39, 40, 41, 42, 43, 44, 45, 46, 47, 48, 49, 50, 51, 52, 53, 54, 55] : List Nat).all am_wOK = true := by decide +kernel
set_option maxRecDepth 100000 in
set_option maxHeartbeats 4000000 in
theorem mw56 : ([56, 59, 60, 61, 62, 63, 64, 65, 66, 67, 68, 70, 71, 72, 73, 74, 76] : List Nat).all am_wOK = true := by decide +kernel
set_option maxRecDepth 100000 in
set_option maxHeartbeats 4000000 in
theorem mw77 : ([77, 78, 81, 82, 87, 93, 94, 95, 96, 97, 98, 99, 100, 101, 102, 170, 171] : List Nat).all am_wOK = true := by decide +kernel
theorem mL2_app : mL2 = [0, 1, 2, 3, 4, 5, 6, 7, 8, 9, 10, 12, 13, 14, 15, 16, 17] ++ [18, 19, 20, 25, 26, 27, 28, 29, 30, 31, 32, 33, 34, 35, 36, 37, 38] ++ [39, 40, 41, 42, 43, 44, 45, 46, 47, 48, 49, 50, 51, 52, 53, 54, 55] ++ [56, 59, 60, 61, 62, 63, 64, 65, 66, 67, 68, 70, 71, 72, 73, 74, 76] ++ [77, 78, 81, 82, 87, 93, 94, 95, 96, 97, 98, 99, 100, 101, 102, 170, 171] := rfl
theorem am_wAll {k : Nat} (hk : mP k = true) : am_wOK k = true := by
  have h := am_mem k hk
  rw [mL2_app] at h
  simp only [List.mem_append] at h
  rcases h with (((h | h) | h) | h) | h
  · exact List.all_eq_true.mp mw0 k h
  · exact List.all_eq_true.mp mw18 k h
  · exact List.all_eq_true.mp mw39 k h
  · exact List.all_eq_true.mp mw56 k h
  · exact List.all_eq_true.mp mw77 k h
theorem am_bn {x N : Nat} {t : Option AI} (h : N ≤ x) : (bif Nat.blt x N then t else none) = none := by
  have e : Nat.blt x N = false := by
    cases q : Nat.blt x N with
    | false => rfl
    | true => exact absurd (Nat.blt_eq.mp q) (by omega)
  rw [e]; rfl
theorem mo0 : ∀ pc, mN 0 ≤ pc → mCode 0 pc = none := fun pc h => (am_bn h : cd0 pc = none)
theorem mo1 : ∀ pc, mN 1 ≤ pc → mCode 1 pc = none := fun pc h => (am_bn h : cd1 pc = none)
theorem mo2 : ∀ pc, mN 2 ≤ pc → mCode 2 pc = none := fun pc h => (am_bn h : cd2 pc = none)
theorem mo3 : ∀ pc, mN 3 ≤ pc → mCode 3 pc = none := fun pc h => (am_bn h : cd3 pc = none)
theorem mo4 : ∀ pc, mN 4 ≤ pc → mCode 4 pc = none := fun pc h => (am_bn h : cd4 pc = none)
theorem mo5 : ∀ pc, mN 5 ≤ pc → mCode 5 pc = none := fun pc h => (am_bn h : cd5 pc = none)
theorem mo6 : ∀ pc, mN 6 ≤ pc → mCode 6 pc = none := fun pc h => (am_bn h : cd6 pc = none)
theorem mo7 : ∀ pc, mN 7 ≤ pc → mCode 7 pc = none := fun pc h => (am_bn h : cd7 pc = none)
theorem mo8 : ∀ pc, mN 8 ≤ pc → mCode 8 pc = none := fun pc h => (am_bn h : cd8 pc = none)
theorem mo9 : ∀ pc, mN 9 ≤ pc → mCode 9 pc = none := fun pc h => (am_bn h : cd9 pc = none)
theorem mo10 : ∀ pc, mN 10 ≤ pc → mCode 10 pc = none := fun pc h => (am_bn h : cd10 pc = none)
theorem mo12 : ∀ pc, mN 12 ≤ pc → mCode 12 pc = none := fun pc h => (am_bn h : cd12 pc = none)
theorem mo13 : ∀ pc, mN 13 ≤ pc → mCode 13 pc = none := fun pc h => (am_bn h : cd13 pc = none)
theorem mo14 : ∀ pc, mN 14 ≤ pc → mCode 14 pc = none := fun pc h => (am_bn h : cd14 pc = none)
theorem mo15 : ∀ pc, mN 15 ≤ pc → mCode 15 pc = none := fun pc h => (am_bn h : cd15 pc = none)
theorem mo16 : ∀ pc, mN 16 ≤ pc → mCode 16 pc = none := fun pc h => (am_bn h : cd16 pc = none)
theorem mo17 : ∀ pc, mN 17 ≤ pc → mCode 17 pc = none := fun pc h => (am_bn h : cd17 pc = none)
theorem mo18 : ∀ pc, mN 18 ≤ pc → mCode 18 pc = none := fun pc h => (am_bn h : cd18 pc = none)
theorem mo19 : ∀ pc, mN 19 ≤ pc → mCode 19 pc = none := fun pc h => (am_bn h : cd19 pc = none)
theorem mo20 : ∀ pc, mN 20 ≤ pc → mCode 20 pc = none := fun pc h => (am_bn h : cd20 pc = none)
theorem mo25 : ∀ pc, mN 25 ≤ pc → mCode 25 pc = none := fun pc h => (am_bn h : cd25 pc = none)
theorem mo26 : ∀ pc, mN 26 ≤ pc → mCode 26 pc = none := fun pc h => (am_bn h : cd26 pc = none)
theorem mo27 : ∀ pc, mN 27 ≤ pc → mCode 27 pc = none := fun pc h => (am_bn h : cd27 pc = none)
theorem mo28 : ∀ pc, mN 28 ≤ pc → mCode 28 pc = none := fun pc h => (am_bn h : cd28 pc = none)
theorem mo29 : ∀ pc, mN 29 ≤ pc → mCode 29 pc = none := fun pc h => (am_bn h : cd29 pc = none)
theorem mo30 : ∀ pc, mN 30 ≤ pc → mCode 30 pc = none := fun pc h => (am_bn h : cd30 pc = none)
theorem mo31 : ∀ pc, mN 31 ≤ pc → mCode 31 pc = none := fun pc h => (am_bn h : cd31 pc = none)
theorem mo32 : ∀ pc, mN 32 ≤ pc → mCode 32 pc = none := fun pc h => (am_bn h : cd32 pc = none)
theorem mo33 : ∀ pc, mN 33 ≤ pc → mCode 33 pc = none := fun pc h => (am_bn h : cd33 pc = none)
theorem mo34 : ∀ pc, mN 34 ≤ pc → mCode 34 pc = none := fun pc h => (am_bn h : cd34 pc = none)
theorem mo35 : ∀ pc, mN 35 ≤ pc → mCode 35 pc = none := fun pc h => (am_bn h : cd35 pc = none)
theorem mo36 : ∀ pc, mN 36 ≤ pc → mCode 36 pc = none := fun pc h => (am_bn h : cd36 pc = none)
theorem mo37 : ∀ pc, mN 37 ≤ pc → mCode 37 pc = none := fun pc h => (am_bn h : cd37 pc = none)
theorem mo38 : ∀ pc, mN 38 ≤ pc → mCode 38 pc = none := fun pc h => (am_bn h : cd38 pc = none)
theorem mo39 : ∀ pc, mN 39 ≤ pc → mCode 39 pc = none := fun pc h => (am_bn h : cd39 pc = none)
theorem mo40 : ∀ pc, mN 40 ≤ pc → mCode 40 pc = none := fun pc h => (am_bn h : cd40 pc = none)
theorem mo41 : ∀ pc, mN 41 ≤ pc → mCode 41 pc = none := fun pc h => (am_bn h : cd41 pc = none)
theorem mo42 : ∀ pc, mN 42 ≤ pc → mCode 42 pc = none := fun pc h => (am_bn h : cd42 pc = none)
theorem mo43 : ∀ pc, mN 43 ≤ pc → mCode 43 pc = none := fun pc h => (am_bn h : cd43 pc = none)
theorem mo44 : ∀ pc, mN 44 ≤ pc → mCode 44 pc = none := fun pc h => (am_bn h : cd44 pc = none)
theorem mo45 : ∀ pc, mN 45 ≤ pc → mCode 45 pc = none := fun pc h => (am_bn h : cd45 pc = none)
theorem mo46 : ∀ pc, mN 46 ≤ pc → mCode 46 pc = none := fun pc h => (am_bn h : cd46 pc = none)
theorem mo47 : ∀ pc, mN 47 ≤ pc → mCode 47 pc = none := fun pc h => (am_bn h : cd47 pc = none)
theorem mo48 : ∀ pc, mN 48 ≤ pc → mCode 48 pc = none := fun pc h => (am_bn h : cd48 pc = none)
theorem mo49 : ∀ pc, mN 49 ≤ pc → mCode 49 pc = none := fun pc h => (am_bn h : cd49 pc = none)
theorem mo50 : ∀ pc, mN 50 ≤ pc → mCode 50 pc = none := fun pc h => (am_bn h : cd50 pc = none)
theorem mo51 : ∀ pc, mN 51 ≤ pc → mCode 51 pc = none := fun pc h => (am_bn h : cd51 pc = none)
theorem mo52 : ∀ pc, mN 52 ≤ pc → mCode 52 pc = none := fun pc h => (am_bn h : cd52 pc = none)
theorem mo53 : ∀ pc, mN 53 ≤ pc → mCode 53 pc = none := fun pc h => (am_bn h : cd53 pc = none)
theorem mo54 : ∀ pc, mN 54 ≤ pc → mCode 54 pc = none := fun pc h => (am_bn h : cd54 pc = none)
theorem mo55 : ∀ pc, mN 55 ≤ pc → mCode 55 pc = none := fun pc h => (am_bn h : cd55 pc = none)
theorem mo56 : ∀ pc, mN 56 ≤ pc → mCode 56 pc = none := fun pc h => (am_bn h : cd56 pc = none)
theorem mo59 : ∀ pc, mN 59 ≤ pc → mCode 59 pc = none := fun pc h => (am_bn h : cd59 pc = none)
theorem mo60 : ∀ pc, mN 60 ≤ pc → mCode 60 pc = none := fun pc h => (am_bn h : cd60 pc = none)
theorem mo61 : ∀ pc, mN 61 ≤ pc → mCode 61 pc = none := fun pc h => (am_bn h : cd61 pc = none)
theorem mo62 : ∀ pc, mN 62 ≤ pc → mCode 62 pc = none := fun pc h => (am_bn h : cd62 pc = none)
theorem mo63 : ∀ pc, mN 63 ≤ pc → mCode 63 pc = none := fun pc h => (am_bn h : cd63 pc = none)
theorem mo64 : ∀ pc, mN 64 ≤ pc → mCode 64 pc = none := fun pc h => (am_bn h : cd64 pc = none)
theorem mo65 : ∀ pc, mN 65 ≤ pc → mCode 65 pc = none := fun pc h => (am_bn h : cd65 pc = none)
theorem mo66 : ∀ pc, mN 66 ≤ pc → mCode 66 pc = none := fun pc h => (am_bn h : cd66 pc = none)
theorem mo67 : ∀ pc, mN 67 ≤ pc → mCode 67 pc = none := fun pc h => (am_bn h : cd67 pc = none)
theorem mo68 : ∀ pc, mN 68 ≤ pc → mCode 68 pc = none := fun pc h => (am_bn h : cd68 pc = none)
theorem mo70 : ∀ pc, mN 70 ≤ pc → mCode 70 pc = none := fun pc h => (am_bn h : cd70 pc = none)
theorem mo71 : ∀ pc, mN 71 ≤ pc → mCode 71 pc = none := fun pc h => (am_bn h : cd71 pc = none)
theorem mo72 : ∀ pc, mN 72 ≤ pc → mCode 72 pc = none := fun pc h => (am_bn h : cd72 pc = none)
theorem mo73 : ∀ pc, mN 73 ≤ pc → mCode 73 pc = none := fun pc h => (am_bn h : cd73 pc = none)
theorem mo74 : ∀ pc, mN 74 ≤ pc → mCode 74 pc = none := fun pc h => (am_bn h : cd74 pc = none)
theorem mo76 : ∀ pc, mN 76 ≤ pc → mCode 76 pc = none := fun pc h => (am_bn h : cd76 pc = none)
theorem mo77 : ∀ pc, mN 77 ≤ pc → mCode 77 pc = none := fun pc h => (am_bn h : cd77 pc = none)
theorem mo78 : ∀ pc, mN 78 ≤ pc → mCode 78 pc = none := fun pc h => (am_bn h : cd78 pc = none)
theorem mo81 : ∀ pc, mN 81 ≤ pc → mCode 81 pc = none := fun pc h => (am_bn h : cd81 pc = none)
theorem mo82 : ∀ pc, mN 82 ≤ pc → mCode 82 pc = none := fun pc h => (am_bn h : cd82 pc = none)
theorem mo87 : ∀ pc, mN 87 ≤ pc → mCode 87 pc = none := fun pc h => (am_bn h : cd87 pc = none)
theorem mo93 : ∀ pc, mN 93 ≤ pc → mCode 93 pc = none := fun pc h => (am_bn h : cd93 pc = none)
theorem mo94 : ∀ pc, mN 94 ≤ pc → mCode 94 pc = none := fun pc h => (am_bn h : cd94 pc = none)
theorem mo95 : ∀ pc, mN 95 ≤ pc → mCode 95 pc = none := fun pc h => (am_bn h : cd95 pc = none)
theorem mo96 : ∀ pc, mN 96 ≤ pc → mCode 96 pc = none := fun pc h => (am_bn h : cd96 pc = none)
theorem mo97 : ∀ pc, mN 97 ≤ pc → mCode 97 pc = none := fun pc h => (am_bn h : cd97 pc = none)
theorem mo98 : ∀ pc, mN 98 ≤ pc → mCode 98 pc = none := fun pc h => (am_bn h : cd98 pc = none)
theorem mo99 : ∀ pc, mN 99 ≤ pc → mCode 99 pc = none := fun pc h => (am_bn h : cd99 pc = none)
theorem mo100 : ∀ pc, mN 100 ≤ pc → mCode 100 pc = none := fun pc h => (am_bn h : cd100 pc = none)
theorem mo101 : ∀ pc, mN 101 ≤ pc → mCode 101 pc = none := fun pc h => (am_bn h : cd101 pc = none)
theorem mo102 : ∀ pc, mN 102 ≤ pc → mCode 102 pc = none := fun pc h => (am_bn h : cd102 pc = none)
theorem mo169 : ∀ pc, mN 169 ≤ pc → mCode 169 pc = none := fun pc h => (am_bn h : cd169 pc = none)
theorem mo170 : ∀ pc, mN 170 ≤ pc → mCode 170 pc = none := fun pc h => (am_bn h : cd170 pc = none)
theorem mo171 : ∀ pc, mN 171 ≤ pc → mCode 171 pc = none := fun pc h => (am_bn h : cd171 pc = none)
theorem am_out {k : Nat} (hk : mP k = true) : ∀ pc, mN k ≤ pc → mCode k pc = none := am_memL (P := fun k => ∀ pc, mN k ≤ pc → mCode k pc = none) (List.forall_mem_cons.mpr ⟨mo0, List.forall_mem_cons.mpr ⟨mo1, List.forall_mem_cons.mpr ⟨mo2, List.forall_mem_cons.mpr ⟨mo3, List.forall_mem_cons.mpr ⟨mo4, List.forall_mem_cons.mpr ⟨mo5, List.forall_mem_cons.mpr ⟨mo6, List.forall_mem_cons.mpr ⟨mo7, List.forall_mem_cons.mpr ⟨mo8, List.forall_mem_cons.mpr ⟨mo9, List.forall_mem_cons.mpr ⟨mo10, List.forall_mem_cons.mpr ⟨mo12, List.forall_mem_cons.mpr ⟨mo13, List.forall_mem_cons.mpr ⟨mo14, List.forall_mem_cons.mpr ⟨mo15, List.forall_mem_cons.mpr ⟨mo16, List.forall_mem_cons.mpr ⟨mo17, List.forall_mem_cons.mpr ⟨mo18, List.forall_mem_cons.mpr ⟨mo19, List.forall_mem_cons.mpr ⟨mo20, List.forall_mem_cons.mpr ⟨mo25, List.forall_mem_cons.mpr ⟨mo26, List.forall_mem_cons.mpr ⟨mo27, List.forall_mem_cons.mpr ⟨mo28, List.forall_mem_cons.mpr ⟨mo29, List.forall_mem_cons.mpr ⟨mo30, List.forall_mem_cons.mpr ⟨mo31, List.forall_mem_cons.mpr ⟨mo32, List.forall_mem_cons.mpr ⟨mo33, List.forall_mem_cons.mpr ⟨mo34, List.forall_mem_cons.mpr ⟨mo35, List.forall_mem_cons.mpr ⟨mo36, List.forall_mem_cons.mpr ⟨mo37, List.forall_mem_cons.mpr ⟨mo38, List.forall_mem_cons.mpr ⟨mo39, List.forall_mem_cons.mpr ⟨mo40, List.forall_mem_cons.mpr ⟨mo41, List.forall_mem_cons.mpr ⟨mo42, List.forall_mem_cons.mpr ⟨mo43, List.forall_mem_cons.mpr ⟨mo44, List.forall_mem_cons.mpr ⟨mo45, List.forall_mem_cons.mpr ⟨mo46, List.forall_mem_cons.mpr ⟨mo47, List.forall_mem_cons.mpr ⟨mo48, List.forall_mem_cons.mpr ⟨mo49, List.forall_mem_cons.mpr ⟨mo50, List.forall_mem_cons.mpr ⟨mo51, List.forall_mem_cons.mpr ⟨mo52, List.forall_mem_cons.mpr ⟨mo53, List.forall_mem_cons.mpr ⟨mo54, List.forall_mem_cons.mpr ⟨mo55, List.forall_mem_cons.mpr ⟨mo56, List.forall_mem_cons.mpr ⟨mo59, List.forall_mem_cons.mpr ⟨mo60, List.forall_mem_cons.mpr ⟨mo61, List.forall_mem_cons.mpr ⟨mo62, List.forall_mem_cons.mpr ⟨mo63, List.forall_mem_cons.mpr ⟨mo64, List.forall_mem_cons.mpr ⟨mo65, List.forall_mem_cons.mpr ⟨mo66, List.forall_mem_cons.mpr ⟨mo67, List.forall_mem_cons.mpr ⟨mo68, List.forall_mem_cons.mpr ⟨mo70, List.forall_mem_cons.mpr ⟨mo71, List.forall_mem_cons.mpr ⟨mo72, List.forall_mem_cons.mpr ⟨mo73, List.forall_mem_cons.mpr ⟨mo74, List.forall_mem_cons.mpr ⟨mo76, List.forall_mem_cons.mpr ⟨mo77, List.forall_mem_cons.mpr ⟨mo78, List.forall_mem_cons.mpr ⟨mo81, List.forall_mem_cons.mpr ⟨mo82, List.forall_mem_cons.mpr ⟨mo87, List.forall_mem_cons.mpr ⟨mo93, List.forall_mem_cons.mpr ⟨mo94, List.forall_mem_cons.mpr ⟨mo95, List.forall_mem_cons.mpr ⟨mo96, List.forall_mem_cons.mpr ⟨mo97, List.forall_mem_cons.mpr ⟨mo98, List.forall_mem_cons.mpr ⟨mo99, List.forall_mem_cons.mpr ⟨mo100, List.forall_mem_cons.mpr ⟨mo101, List.forall_mem_cons.mpr ⟨mo102, List.forall_mem_cons.mpr ⟨mo170, List.forall_mem_cons.mpr ⟨mo171, fun _ h => absurd h List.not_mem_nil⟩⟩⟩⟩⟩⟩⟩⟩⟩⟩⟩⟩⟩⟩⟩⟩⟩⟩⟩⟩⟩⟩⟩⟩⟩⟩⟩⟩⟩⟩⟩⟩⟩⟩⟩⟩⟩⟩⟩⟩⟩⟩⟩⟩⟩⟩⟩⟩⟩⟩⟩⟩⟩⟩⟩⟩⟩⟩⟩⟩⟩⟩⟩⟩⟩⟩⟩⟩⟩⟩⟩⟩⟩⟩⟩⟩⟩⟩⟩⟩⟩⟩⟩⟩⟩) hk
theorem am_none : ∀ k : Nat, k < 172 → ¬ (mP k = true ∨ k = 169) → mCode k = fun _ => none
  | 0, _, h => absurd (Or.inl rfl) h
  | 1, _, h => absurd (Or.inl rfl) h
  | 2, _, h => absurd (Or.inl rfl) h
  | 3, _, h => absurd (Or.inl rfl) h
  | 4, _, h => absurd (Or.inl rfl) h
  | 5, _, h => absurd (Or.inl rfl) h
  | 6, _, h => absurd (Or.inl rfl) h
  | 7, _, h => absurd (Or.inl rfl) h
  | 8, _, h => absurd (Or.inl rfl) h
  | 9, _, h => absurd (Or.inl rfl) h
  | 10, _, h => absurd (Or.inl rfl) h
  | 11, _, h => rfl
  | 12, _, h => absurd (Or.inl rfl) h
  | 13, _, h => absurd (Or.inl rfl) h
  | 14, _, h => absurd (Or.inl rfl) h
  | 15, _, h => absurd (Or.inl rfl) h
  | 16, _, h => absurd (Or.inl rfl) h
  | 17, _, h => absurd (Or.inl rfl) h
  | 18, _, h => absurd (Or.inl rfl) h
  | 19, _, h => absurd (Or.inl rfl) h
  | 20, _, h => absurd (Or.inl rfl) h
  | 21, _, h => rfl
  | 22, _, h => rfl
  | 23, _, h => rfl
  | 24, _, h => rfl
  | 25, _, h => absurd (Or.inl rfl) h
  | 26, _, h => absurd (Or.inl rfl) h
  | 27, _, h => absurd (Or.inl rfl) h
  | 28, _, h => absurd (Or.inl rfl) h
  | 29, _, h => absurd (Or.inl rfl) h
  | 30, _, h => absurd (Or.inl rfl) h
  | 31, _, h => absurd (Or.inl rfl) h
  | 32, _, h => absurd (Or.inl rfl) h
  | 33, _, h => absurd (Or.inl rfl) h
  | 34, _, h => absurd (Or.inl rfl) h
  | 35, _, h => absurd (Or.inl rfl) h
  | 36, _, h => absurd (Or.inl rfl) h
  | 37, _, h => absurd (Or.inl rfl) h
  | 38, _, h => absurd (Or.inl rfl) h
  | 39, _, h => absurd (Or.inl rfl) h
  | 40, _, h => absurd (Or.inl rfl) h
  | 41, _, h => absurd (Or.inl rfl) h
  | 42, _, h => absurd (Or.inl rfl) h
  | 43, _, h => absurd (Or.inl rfl) h
  | 44, _, h => absurd (Or.inl rfl) h
  | 45, _, h => absurd (Or.inl rfl) h
  | 46, _, h => absurd (Or.inl rfl) h
  | 47, _, h => absurd (Or.inl rfl) h
  | 48, _, h => absurd (Or.inl rfl) h
  | 49, _, h => absurd (Or.inl rfl) h
  | 50, _, h => absurd (Or.inl rfl) h
  | 51, _, h => absurd (Or.inl rfl) h
  | 52, _, h => absurd (Or.inl rfl) h
  | 53, _, h => absurd (Or.inl rfl) h
  | 54, _, h => absurd (Or.inl rfl) h
  | 55, _, h => absurd (Or.inl rfl) h
  | 56, _, h => absurd (Or.inl rfl) h
  | 57, _, h => rfl
  | 58, _, h => rfl
  | 59, _, h => absurd (Or.inl rfl) h
  | 60, _, h => absurd (Or.inl rfl) h
  | 61, _, h => absurd (Or.inl rfl) h
  | 62, _, h => absurd (Or.inl rfl) h
  | 63, _, h => absurd (Or.inl rfl) h
  | 64, _, h => absurd (Or.inl rfl) h
  | 65, _, h => absurd (Or.inl rfl) h
  | 66, _, h => absurd (Or.inl rfl) h
  | 67, _, h => absurd (Or.inl rfl) h
  | 68, _, h => absurd (Or.inl rfl) h
  | 69, _, h => rfl
  | 70, _, h => absurd (Or.inl rfl) h
  | 71, _, h => absurd (Or.inl rfl) h
  | 72, _, h => absurd (Or.inl rfl) h
  | 73, _, h => absurd (Or.inl rfl) h
  | 74, _, h => absurd (Or.inl rfl) h
  | 75, _, h => rfl
  | 76, _, h => absurd (Or.inl rfl) h
  | 77, _, h => absurd (Or.inl rfl) h
  | 78, _, h => absurd (Or.inl rfl) h
  | 79, _, h => rfl
  | 80, _, h => rfl
  | 81, _, h => absurd (Or.inl rfl) h
  | 82, _, h => absurd (Or.inl rfl) h
  | 83, _, h => rfl
  | 84, _, h => rfl
  | 85, _, h => rfl
  | 86, _, h => rfl
  | 87, _, h => absurd (Or.inl rfl) h
  | 88, _, h => rfl
  | 89, _, h => rfl
  | 90, _, h => rfl
  | 91, _, h => rfl
  | 92, _, h => rfl
  | 93, _, h => absurd (Or.inl rfl) h
  | 94, _, h => absurd (Or.inl rfl) h
  | 95, _, h => absurd (Or.inl rfl) h
  | 96, _, h => absurd (Or.inl rfl) h
  | 97, _, h => absurd (Or.inl rfl) h
  | 98, _, h => absurd (Or.inl rfl) h
  | 99, _, h => absurd (Or.inl rfl) h
  | 100, _, h => absurd (Or.inl rfl) h
  | 101, _, h => absurd (Or.inl rfl) h
  | 102, _, h => absurd (Or.inl rfl) h
  | 103, _, h => rfl
  | 104, _, h => rfl
  | 105, _, h => rfl
  | 106, _, h => rfl
  | 107, _, h => rfl
  | 108, _, h => rfl
  | 109, _, h => rfl
  | 110, _, h => rfl
  | 111, _, h => rfl
  | 112, _, h => rfl
  | 113, _, h => rfl
  | 114, _, h => rfl
  | 115, _, h => rfl
  | 116, _, h => rfl
  | 117, _, h => rfl
  | 118, _, h => rfl
  | 119, _, h => rfl
  | 120, _, h => rfl
  | 121, _, h => rfl
  | 122, _, h => rfl
  | 123, _, h => rfl
  | 124, _, h => rfl
  | 125, _, h => rfl
  | 126, _, h => rfl
  | 127, _, h => rfl
  | 128, _, h => rfl
  | 129, _, h => rfl
  | 130, _, h => rfl
  | 131, _, h => rfl
  | 132, _, h => rfl
  | 133, _, h => rfl
  | 134, _, h => rfl
  | 135, _, h => rfl
  | 136, _, h => rfl
  | 137, _, h => rfl
  | 138, _, h => rfl
  | 139, _, h => rfl
  | 140, _, h => rfl
  | 141, _, h => rfl
  | 142, _, h => rfl
  | 143, _, h => rfl
  | 144, _, h => rfl
  | 145, _, h => rfl
  | 146, _, h => rfl
  | 147, _, h => rfl
  | 148, _, h => rfl
  | 149, _, h => rfl
  | 150, _, h => rfl
  | 151, _, h => rfl
  | 152, _, h => rfl
  | 153, _, h => rfl
  | 154, _, h => rfl
  | 155, _, h => rfl
  | 156, _, h => rfl
  | 157, _, h => rfl
  | 158, _, h => rfl
  | 159, _, h => rfl
  | 160, _, h => rfl
  | 161, _, h => rfl
  | 162, _, h => rfl
  | 163, _, h => rfl
  | 164, _, h => rfl
  | 165, _, h => rfl
  | 166, _, h => rfl
  | 167, _, h => rfl
  | 168, _, h => rfl
  | 169, _, h => absurd (Or.inr rfl) h
  | 170, _, h => absurd (Or.inl rfl) h
  | 171, _, h => absurd (Or.inl rfl) h
  | k + 172, h, _ => absurd h (by omega)
theorem am_some {k pc : Nat} {e : AI} (h : mCode k pc = some e) : mP k = true ∨ k = 169 := by
  have h0 : k < 172 := by
    by_cases q : k < 172
    · exact q
    · exfalso
      have e9 : ∀ x : Nat, 172 ≤ x → mCode x = fun _ => none := by
        intro x hx
        unfold mCode
        simp only [show ∀ n : Nat, n < 172 → Nat.blt x n = false from fun n hn => by
          cases z : Nat.blt x n with
          | false => rfl
          | true => exact absurd (Nat.blt_eq.mp z) (by omega), show ∀ n : Nat, n < 172 → Nat.beq x n = false from fun n hn => by
          cases z : Nat.beq x n with
          | false => rfl
          | true => exact absurd (Nat.eq_of_beq_eq_true z) (by omega), Nat.reduceLT, cond_false, cond_true]
      rw [e9 k (by omega)] at h
      cases h
  by_cases q : mP k = true ∨ k = 169
  · exact q
  · exfalso
    have h2 : mCode k = fun _ => none := am_none k h0 q
    rw [h2] at h
    cases h
theorem mL2_app2 : mL2 = [0, 1, 2, 3, 4, 5, 6, 7] ++ [8, 9, 10, 12, 13, 14, 15, 16] ++ [17, 18, 19, 20, 25, 26, 27, 28] ++ [29, 30, 31, 32, 33, 34, 35, 36] ++ [37, 38, 39, 40, 41, 42, 43, 44] ++ [45, 46, 47, 48, 49, 50, 51, 52] ++ [53, 54, 55, 56, 59, 60, 61, 62] ++ [63, 64, 65, 66, 67, 68, 70, 71] ++ [72, 73, 74, 76, 77, 78, 81, 82] ++ [87, 93, 94, 95, 96, 97, 98, 99] ++ [100, 101, 102, 170, 171] := rfl
theorem am_ckAll (k : Nat) (h : k ∈ mL2) : am_chk k 0 (mN k) = true := by
  rw [mL2_app2] at h
  simp only [List.mem_append] at h
  rcases h with (((((((((h | h) | h) | h) | h) | h) | h) | h) | h) | h) | h
  · exact List.all_eq_true.mp ck0 k h
  · exact List.all_eq_true.mp ck8 k h
  · exact List.all_eq_true.mp ck16 k h
  · exact List.all_eq_true.mp ck24 k h
  · exact List.all_eq_true.mp ck32 k h
  · exact List.all_eq_true.mp ck40 k h
  · exact List.all_eq_true.mp ck48 k h
  · exact List.all_eq_true.mp ck56 k h
  · exact List.all_eq_true.mp ck64 k h
  · exact List.all_eq_true.mp ck72 k h
  · exact List.all_eq_true.mp ck80 k h
theorem am_dec {k pc : Nat} {e : AI} (h : mCode k pc = some e) : decode (mB k) pc = .ok (e.1, am_len pc e.1) ∧ am_lnk (mO k) pc e = true := by
  have key : ∀ lo n, am_chk k lo n = true → lo ≤ pc → pc < lo + n → decode (mB k) pc = .ok (e.1, am_len pc e.1) ∧ am_lnk (mO k) pc e = true := by
    intro lo n hc h1 h2
    have h3 := List.all_eq_true.mp hc (pc - lo) (List.mem_range.mpr (by omega))
    rw [show lo + (pc - lo) = pc by omega, h] at h3
    simp only [Bool.and_eq_true, decide_eq_true_eq] at h3
    exact h3
  rcases am_some h with hk | rfl
  · have hp : pc < mN k := by
      by_cases hp : pc < mN k
      · exact hp
      · rw [am_out hk pc (by omega)] at h
        cases h
    have hc := am_mem k hk
    have hz : am_chk k 0 (mN k) = true := am_ckAll k hc
    exact key 0 _ hz (Nat.zero_le _) (by omega)
  · have hp : pc < mN 169 := by
      by_cases hp : pc < mN 169
      · exact hp
      · rw [mo169 pc (by omega)] at h
        cases h
    by_cases p150 : pc < 150
    · exact key 0 150 ckL0 (by omega) (by omega)
    by_cases p300 : pc < 300
    · exact key 150 150 ckL150 (by omega) (by omega)
    by_cases p450 : pc < 450
    · exact key 300 150 ckL300 (by omega) (by omega)
    by_cases p548 : pc < 548
    · exact key 450 98 ckL450 (by omega) (by omega)
    have hz : mN 169 = 548 := rfl
    omega
theorem am_oi : Cond.instanceMethod objectInit ∈ WG ∧ Cond.code objectInit ⟨#[0xb1]⟩ 1 none ∈ WG := ⟨WG_of 232 (by decide +kernel) rfl, WG_of 233 (by decide +kernel) rfl⟩
theorem am_mn : Cond.static Lib.Math.min.name ∈ WG ∧ Cond.initialized "java/lang/Math" ∈ WG ∧ Cond.code Lib.Math.min.name Lib.Math.min.code 2 (some .int) ∈ WG := ⟨WG_of 155 (by decide +kernel) rfl, WG_of 39 (by decide +kernel) rfl, WG_of 156 (by decide +kernel) rfl⟩
theorem am_ac : Cond.static arraycopyName ∈ WG ∧ Cond.initialized "java/lang/System" ∈ WG ∧ Cond.native arraycopyName ∈ WG := ⟨WG_of 608 (by decide +kernel) rfl, WG_of 41 (by decide +kernel) rfl, WG_of 609 (by decide +kernel) rfl⟩
theorem am_ar : Cond.arrayClass .int ∈ WG ∧ Cond.arrayClass .boolean ∈ WG ∧ Cond.arrayClass .long ∈ WG ∧ Cond.arrayClass .byte ∈ WG := ⟨WG_of 284 (by decide +kernel) rfl, WG_of 285 (by decide +kernel) rfl, WG_of 481 (by decide +kernel) rfl, WG_of 564 (by decide +kernel) rfl⟩
