def N_al (A : Nat → List Int) (F : Nat → Int) : Nat → Int := LV (F 2) (A 4) (A 6) (A 5) (fun p => rd (A 7) p)
def N_Q (A : Nat → List Int) (b : Nat) : Nat → List Int := fun j => bif Nat.blt j 8 then A (b + j) else []
def N_Y (A : Nat → List Int) (F : Nat → Int) (d : Int) : Int := sm (fun i => if rd (A 15) i = 0 then rd (A 14) i * rd (A 16) (i * 6 + d) / 12 else 0) (F 4).toNat
/-- what a deed's year comes to -/
def SPL (A : Nat → List Int) (F : Nat → Int) (al : Nat → Int) (Q : Nat → List Int) (e : Nat) (Y : Int) (so te tp : Nat → Int) (mg pm lo : Int) : Prop :=
  so = T_so (F 3).toNat (F 2) Y (A 3) al Q e ∧ mg = S_mg (F 3).toNat (A 3) (A 4) al Q so ∧ pm = S_pm Y Q mg ∧ lo = S_fx Q so (Y - pm) e ∧
  te = S_te (F 3).toNat (A 3) al Q so pm (Y - pm) lo e ∧ tp = fun (p : Nat) => (if mg = (p : Int) then pm else 0) + S_ls (F 3).toNat (A 3) al Q so lo e p
theorem SPL_ex (A : Nat → List Int) (F : Nat → Int) (al : Nat → Int) (Q : Nat → List Int) (e : Nat) (Y : Int) : ∃ so te tp mg pm lo, SPL A F al Q e Y so te tp mg pm lo := ⟨_, _, _, _, _, _, rfl, rfl, rfl, rfl, rfl, rfl⟩
theorem R_n {c : Int} {A : Nat → List Int} {F : Nat → Int} (hR : REL c A F) : (((F 3).toNat : Nat) : Int) = F 3 := by
  have := hR.2.1.1
  omega
theorem R_n30 {c : Int} {A : Nat → List Int} {F : Nat → Int} (hR : REL c A F) : (F 3).toNat ≤ 30 := by
  have := hR.2.1.2.1
  omega
theorem R_TR {c : Int} {A : Nat → List Int} {F : Nat → Int} (hR : REL c A F) : TR (A 3) (F 3).toNat := fun k hk => by
  have z := hR.2.1.2.2.1 k (by omega) (by omega)
  exact ⟨z.1, z.2.1⟩
theorem R_U {c : Int} {A : Nat → List Int} {F : Nat → Int} (hR : REL c A F) (p : Nat) (hp : p < (F 3).toNat) : rd (A 6) p = 0 ∨ rd (A 6) p = 1 := (hR.2.1.2.2.2.1 p (by omega) (by have := R_n30 hR; omega)).1
theorem R_T {c : Int} {A : Nat → List Int} {F : Nat → Int} (hR : REL c A F) (p : Nat) (hp : p < (F 3).toNat) : rd (A 7) p = 0 ∨ rd (A 7) p = 1 := (hR.2.1.2.2.2.1 p (by omega) (by have := R_n30 hR; omega)).2.1
theorem R_mT {c : Int} {A : Nat → List Int} {F : Nat → Int} (hR : REL c A F) (p : Nat) (hp : p < (F 3).toNat) : (rd (A 94) p = 0 ∨ rd (A 94) p = 1) ∧ (rd (A 6) p = 1 → rd (A 94) p = rd (A 7) p) := (hR.2.1.2.2.2.1 p (by omega) (by have := R_n30 hR; omega)).2.2
theorem N_al_01 {c : Int} {A : Nat → List Int} {F : Nat → Int} (hR : REL c A F) (p : Nat) (hp : p < (F 3).toNat) : N_al A F p = 0 ∨ N_al A F p = 1 := LV_01 (R_T (A := A) hR p hp)
/-- who lives, as the model has it -/
theorem N_al_m {c : Int} {A : Nat → List Int} {F : Nat → Int} (hR : REL c A F) (p : Nat) (hp : p < (F 3).toNat) : N_al A F p = LV (F 2) (A 4) (A 6) (A 5) (fun p => rd (A 94) p) p := by
  have h1 := (R_mT (A := A) hR p hp).2
  have h2 := R_U (A := A) hR p hp
  unfold N_al LV
  (try dsimp only)
  by_cases e : rd (A 6) p = 0
  · rw [if_pos e, if_pos e]
  · rw [if_neg e, if_neg e, h1 (by omega)]
theorem R_prod {c : Int} {A : Nat → List Int} {F : Nat → Int} (hR : REL c A F) {d : Int} (hd : 0 ≤ d ∧ d < 6) (i : Nat) (hi : (i : Int) < F 4) : 0 ≤ rd (A 14) i * rd (A 16) (i * 6 + d) ∧ rd (A 14) i * rd (A 16) (i * 6 + d) ≤ 119988 := by
  have hTH := hR.2.2.1
  have z1 := hTH.2.2.1 i (by omega) hi
  have z2 := hTH.2.2.2.2.1 (i * 6 + d) (by omega) (by have := hTH.2.1; omega)
  exact ⟨Int.mul_nonneg z1.2.2.1 z2.1, by have := Int.mul_le_mul z1.2.2.2 z2.2 z2.1 (by decide); omega⟩
theorem N_Y_bd {c : Int} {A : Nat → List Int} {F : Nat → Int} (hR : REL c A F) {d : Int} (hd : 0 ≤ d ∧ d < 6) : 0 ≤ N_Y A F d ∧ N_Y A F d ≤ 99990 := by
  have hTH := hR.2.2.1
  have z := sm_bd (g := fun i : Nat => if rd (A 15) i = 0 then rd (A 14) i * rd (A 16) (i * 6 + d) / 12 else 0) (b := 9999) (F 4).toNat (fun i hi => by
    have q := R_prod hR hd i (by omega)
    (try dsimp only)
    split <;> omega)
  unfold N_Y
  have := hTH.1
  have := hTH.2.1
  omega
theorem N_Y_m {A : Nat → List Int} {F : Nat → Int} {d : Int} : sm (fun i => if rd (A 15) i = 0 then rd (A 14) i * rd (A 16) (6 * i + d) / 12 else 0) (F 4).toNat = N_Y A F d := by
  unfold N_Y
  exact sm_congr _ (fun i _ => by rw [show (6 : Int) * i + d = i * 6 + d by omega])
theorem D_ok {n' e' d : Int} {Q : Nat → List Int} {mE mEnd : List Int} (h : DEED n' e' (Q 0) (Q 1) (Q 2) (Q 3) (Q 4) (Q 5) (Q 6) (Q 7) mE mEnd d) (hl : ∀ j, j < 8 → (Q j).length = 6) (l1 : mE.length = 6) (l2 : mEnd.length = 288) (hd : 0 ≤ d ∧ d < 6) {n : Nat} (hn : (n : Int) = n') : QOK n Q e'.toNat ∧ MD mE mEnd Q e'.toNat d := by
  obtain ⟨h1, h2, h3, h4, h5⟩ := h
  refine ⟨⟨by omega, by omega, hl, fun i hi => ?_⟩, ⟨l1, l2, hd, by omega, fun i hi => ?_⟩⟩
  · obtain ⟨a1, a2, a3, a4, a5, a6, a7, a8, a9, a10⟩ := h5 i (by omega) (by omega)
    exact ⟨a2, ⟨fun q => by have := a3 q; omega, fun q => by rw [show (i : Int) = e' - 1 by omega]; exact h4⟩, fun q => ⟨by have := (a4 q).1; omega, (a4 q).2⟩, a5.imp id (fun q => q.2), fun q => by have := a6 q; omega, fun q => (a7 q).2, fun q => ⟨(a8 q).2.1, (a8 q).2.2⟩, a9.1, a9.2.1⟩
  · obtain ⟨a1, a2, a3, a4, a5, a6, a7, a8, a9, a10⟩ := h5 i (by omega) (by omega)
    exact ⟨a1, a5.imp id (fun q => q.1), fun q => (a6 q).1, fun q => (a7 q).1, fun q => (a8 q).1, a9.2.2, a10⟩
theorem LENS_sh {A : Nat → List Int} (h : LENS A) : LENS (shA A) := by
  unfold shA
  exact (LENS_u (LENS_u (LENS_u (LENS_u (LENS_u (LENS_u (LENS_u (LENS_u (LENS_u (LENS_u (LENS_u (LENS_u h (by show (A 3).length = (A 90).length; rw [h 3 (by decide), h 90 (by decide)]; rfl)) (by show (A 4).length = (A 91).length; rw [h 4 (by decide), h 91 (by decide)]; rfl)) (by show (A 5).length = (A 92).length; rw [h 5 (by decide), h 92 (by decide)]; rfl)) (by show (A 6).length = (A 93).length; rw [h 6 (by decide), h 93 (by decide)]; rfl)) (by show (A 13).length = (A 95).length; rw [h 13 (by decide), h 95 (by decide)]; rfl)) (by show (A 14).length = (A 96).length; rw [h 14 (by decide), h 96 (by decide)]; rfl)) (by show (A 15).length = (A 97).length; rw [h 15 (by decide), h 97 (by decide)]; rfl)) (by show (A 16).length = (A 98).length; rw [h 16 (by decide), h 98 (by decide)]; rfl)) (by show (A 18).length = (A 106).length; rw [h 18 (by decide), h 106 (by decide)]; rfl)) (by show (A 83).length = (A 103).length; rw [h 83 (by decide), h 103 (by decide)]; rfl)) (by show (A 86).length = (A 112).length; rw [h 86 (by decide), h 112 (by decide)]; rfl)) (by show (A 87).length = (A 89).length; rw [h 87 (by decide), h 89 (by decide)]; rfl))
theorem REL_now {c : Int} {A : Nat → List Int} {F : Nat → Int} (h : REL c A F) {l8 l9 l10 l11 l75 l76 l77 l78 l109 l104 l105 l110 l111 l108 l107 : List Int} (k8 : l8.length = 30) (k9 : l9.length = 30) (k10 : l10.length = 30) (k11 : l11.length = 30) (k75 : l75.length = 6) (k76 : l76.length = 6) (k77 : l77.length = 30) (k78 : l78.length = 30) (k109 : l109.length = 30) (k104 : l104.length = 30) (k105 : l105.length = 30) (k110 : l110.length = 30) (k111 : l111.length = 30) (k108 : l108.length = 30) (k107 : l107.length = 6) {v14 v15 v28 v29 v30 v31 : Int} : REL (c + 1) (u (u (u (u (u (u (u (u (u (u (u (u (u (u (u A 8 l8) 9 l9) 10 l10) 11 l11) 75 l75) 76 l76) 77 l77) 78 l78) 109 l109) 104 l104) 105 l105) 110 l110) 111 l111) 108 l108) 107 l107) (u (u (u (u (u (u F 14 v14) 15 v15) 28 v28) 29 v29) 30 v30) 31 v31) := by
  obtain ⟨hL, hPE, hTH, hTP, hDE, hLE, hNO, hAC, hRO, hRE⟩ := REL_c h
  exact ⟨(LENS_u (LENS_u (LENS_u (LENS_u (LENS_u (LENS_u (LENS_u (LENS_u (LENS_u (LENS_u (LENS_u (LENS_u (LENS_u (LENS_u (LENS_u hL (by show l8.length = (A 8).length; rw [k8, hL 8 (by decide)]; rfl)) (by show l9.length = (A 9).length; rw [k9, hL 9 (by decide)]; rfl)) (by show l10.length = (A 10).length; rw [k10, hL 10 (by decide)]; rfl)) (by show l11.length = (A 11).length; rw [k11, hL 11 (by decide)]; rfl)) (by show l75.length = (A 75).length; rw [k75, hL 75 (by decide)]; rfl)) (by show l76.length = (A 76).length; rw [k76, hL 76 (by decide)]; rfl)) (by show l77.length = (A 77).length; rw [k77, hL 77 (by decide)]; rfl)) (by show l78.length = (A 78).length; rw [k78, hL 78 (by decide)]; rfl)) (by show l109.length = (A 109).length; rw [k109, hL 109 (by decide)]; rfl)) (by show l104.length = (A 104).length; rw [k104, hL 104 (by decide)]; rfl)) (by show l105.length = (A 105).length; rw [k105, hL 105 (by decide)]; rfl)) (by show l110.length = (A 110).length; rw [k110, hL 110 (by decide)]; rfl)) (by show l111.length = (A 111).length; rw [k111, hL 111 (by decide)]; rfl)) (by show l108.length = (A 108).length; rw [k108, hL 108 (by decide)]; rfl)) (by show l107.length = (A 107).length; rw [k107, hL 107 (by decide)]; rfl)), hPE, hTH, hTP, hDE, hLE, hNO, hAC, hRO, hRE⟩
theorem REL_nowC {c : Int} {A : Nat → List Int} {F : Nat → Int} (h : REL c A F) {l8 l9 l10 l11 l75 l76 l77 l78 : List Int} (k8 : l8.length = 30) (k9 : l9.length = 30) (k10 : l10.length = 30) (k11 : l11.length = 30) (k75 : l75.length = 6) (k76 : l76.length = 6) (k77 : l77.length = 30) (k78 : l78.length = 30) {v14 v15 : Int} : REL (c + 1) (u (u (u (u (u (u (u (u A 8 l8) 9 l9) 10 l10) 11 l11) 75 l75) 76 l76) 77 l77) 78 l78) (u (u F 14 v14) 15 v15) := by
  obtain ⟨hL, hPE, hTH, hTP, hDE, hLE, hNO, hAC, hRO, hRE⟩ := REL_c h
  exact ⟨(LENS_u (LENS_u (LENS_u (LENS_u (LENS_u (LENS_u (LENS_u (LENS_u hL (by show l8.length = (A 8).length; rw [k8, hL 8 (by decide)]; rfl)) (by show l9.length = (A 9).length; rw [k9, hL 9 (by decide)]; rfl)) (by show l10.length = (A 10).length; rw [k10, hL 10 (by decide)]; rfl)) (by show l11.length = (A 11).length; rw [k11, hL 11 (by decide)]; rfl)) (by show l75.length = (A 75).length; rw [k75, hL 75 (by decide)]; rfl)) (by show l76.length = (A 76).length; rw [k76, hL 76 (by decide)]; rfl)) (by show l77.length = (A 77).length; rw [k77, hL 77 (by decide)]; rfl)) (by show l78.length = (A 78).length; rw [k78, hL 78 (by decide)]; rfl)), hPE, hTH, hTP, hDE, hLE, hNO, hAC, hRO, hRE⟩
theorem D_at0 {c : Int} {A : Nat → List Int} {F : Nat → Int} (hR : REL c A F) (hd : (0 : Int) < F 0) : QOK (F 3).toNat (N_Q A 21) (F 8).toNat ∧ MD (A 99) (A 100) (N_Q A 21) (F 8).toNat 0 :=
  D_ok (Q := N_Q A 21) (hR.2.2.2.2.1.2.1 hd) (fun j hj => match j, hj with
    | 0, _ => hR.1 21 (by decide)
    | 1, _ => hR.1 22 (by decide)
    | 2, _ => hR.1 23 (by decide)
    | 3, _ => hR.1 24 (by decide)
    | 4, _ => hR.1 25 (by decide)
    | 5, _ => hR.1 26 (by decide)
    | 6, _ => hR.1 27 (by decide)
    | 7, _ => hR.1 28 (by decide)
    | j + 8, h => absurd h (by omega)) (hR.1 99 (by decide)) (hR.1 100 (by decide)) (by decide) (R_n hR)
theorem D_at1 {c : Int} {A : Nat → List Int} {F : Nat → Int} (hR : REL c A F) (hd : (1 : Int) < F 0) : QOK (F 3).toNat (N_Q A 30) (F 9).toNat ∧ MD (A 99) (A 100) (N_Q A 30) (F 9).toNat 1 :=
  D_ok (Q := N_Q A 30) (hR.2.2.2.2.1.2.2.1 hd) (fun j hj => match j, hj with
    | 0, _ => hR.1 30 (by decide)
    | 1, _ => hR.1 31 (by decide)
    | 2, _ => hR.1 32 (by decide)
    | 3, _ => hR.1 33 (by decide)
    | 4, _ => hR.1 34 (by decide)
    | 5, _ => hR.1 35 (by decide)
    | 6, _ => hR.1 36 (by decide)
    | 7, _ => hR.1 37 (by decide)
    | j + 8, h => absurd h (by omega)) (hR.1 99 (by decide)) (hR.1 100 (by decide)) (by decide) (R_n hR)
theorem D_at2 {c : Int} {A : Nat → List Int} {F : Nat → Int} (hR : REL c A F) (hd : (2 : Int) < F 0) : QOK (F 3).toNat (N_Q A 39) (F 10).toNat ∧ MD (A 99) (A 100) (N_Q A 39) (F 10).toNat 2 :=
  D_ok (Q := N_Q A 39) (hR.2.2.2.2.1.2.2.2.1 hd) (fun j hj => match j, hj with
    | 0, _ => hR.1 39 (by decide)
    | 1, _ => hR.1 40 (by decide)
    | 2, _ => hR.1 41 (by decide)
    | 3, _ => hR.1 42 (by decide)
    | 4, _ => hR.1 43 (by decide)
    | 5, _ => hR.1 44 (by decide)
    | 6, _ => hR.1 45 (by decide)
    | 7, _ => hR.1 46 (by decide)
    | j + 8, h => absurd h (by omega)) (hR.1 99 (by decide)) (hR.1 100 (by decide)) (by decide) (R_n hR)
theorem D_at3 {c : Int} {A : Nat → List Int} {F : Nat → Int} (hR : REL c A F) (hd : (3 : Int) < F 0) : QOK (F 3).toNat (N_Q A 48) (F 11).toNat ∧ MD (A 99) (A 100) (N_Q A 48) (F 11).toNat 3 :=
  D_ok (Q := N_Q A 48) (hR.2.2.2.2.1.2.2.2.2.1 hd) (fun j hj => match j, hj with
    | 0, _ => hR.1 48 (by decide)
    | 1, _ => hR.1 49 (by decide)
    | 2, _ => hR.1 50 (by decide)
    | 3, _ => hR.1 51 (by decide)
    | 4, _ => hR.1 52 (by decide)
    | 5, _ => hR.1 53 (by decide)
    | 6, _ => hR.1 54 (by decide)
    | 7, _ => hR.1 55 (by decide)
    | j + 8, h => absurd h (by omega)) (hR.1 99 (by decide)) (hR.1 100 (by decide)) (by decide) (R_n hR)
theorem D_at4 {c : Int} {A : Nat → List Int} {F : Nat → Int} (hR : REL c A F) (hd : (4 : Int) < F 0) : QOK (F 3).toNat (N_Q A 57) (F 12).toNat ∧ MD (A 99) (A 100) (N_Q A 57) (F 12).toNat 4 :=
  D_ok (Q := N_Q A 57) (hR.2.2.2.2.1.2.2.2.2.2.1 hd) (fun j hj => match j, hj with
    | 0, _ => hR.1 57 (by decide)
    | 1, _ => hR.1 58 (by decide)
    | 2, _ => hR.1 59 (by decide)
    | 3, _ => hR.1 60 (by decide)
    | 4, _ => hR.1 61 (by decide)
    | 5, _ => hR.1 62 (by decide)
    | 6, _ => hR.1 63 (by decide)
    | 7, _ => hR.1 64 (by decide)
    | j + 8, h => absurd h (by omega)) (hR.1 99 (by decide)) (hR.1 100 (by decide)) (by decide) (R_n hR)
theorem D_at5 {c : Int} {A : Nat → List Int} {F : Nat → Int} (hR : REL c A F) (hd : (5 : Int) < F 0) : QOK (F 3).toNat (N_Q A 66) (F 13).toNat ∧ MD (A 99) (A 100) (N_Q A 66) (F 13).toNat 5 :=
  D_ok (Q := N_Q A 66) (hR.2.2.2.2.1.2.2.2.2.2.2 hd) (fun j hj => match j, hj with
    | 0, _ => hR.1 66 (by decide)
    | 1, _ => hR.1 67 (by decide)
    | 2, _ => hR.1 68 (by decide)
    | 3, _ => hR.1 69 (by decide)
    | 4, _ => hR.1 70 (by decide)
    | 5, _ => hR.1 71 (by decide)
    | 6, _ => hR.1 72 (by decide)
    | 7, _ => hR.1 73 (by decide)
    | j + 8, h => absurd h (by omega)) (hR.1 99 (by decide)) (hR.1 100 (by decide)) (by decide) (R_n hR)
theorem l_now0 {c : Int} {A : Nat → List Int} {F : Nat → Int} (hR : REL c A F) (hd : (0 : Int) < F 0) {so te tp : Nat → Int} {mg pm lo : Int} (hS : SPL A F (N_al A F) (N_Q A 21) (F 8).toNat (N_Y A F 0) so te tp mg pm lo) : R 100 (0, L0 100 [vR 1, vR 20, vI 0], [], LAY (shA A) (shF F), 0, 0) (fun r G => r = none ∧ ∃ l8 l9 l10 l11 l75 l76 l77 l78, G = LAY (u (u (u (u (u (u (u (u (shA A) 8 l8) 9 l9) 10 l10) 11 l11) 75 l75) 76 l76) 77 l77) 78 l78) (u (u (shF F) 14 mg) 15 lo) ∧ l8.length = 30 ∧ l9.length = 30 ∧ l10.length = 30 ∧ l11.length = 30 ∧ l75.length = 6 ∧ l76.length = 6 ∧ l77.length = 30 ∧ l78.length = 30 ∧ (∀ i : Nat, i < (F 8).toNat → rd l75 i = so i) ∧ (∀ j : Nat, j < (F 8).toNat → rd l76 j = te j) ∧ ∀ p : Nat, p < (F 3).toNat → rd l77 p = tp p) := by
  have hL := hR.1
  have hLs := LENS_sh hL
  obtain ⟨s1, s2, s3, s4, s5, s6⟩ := hS
  have hn := R_n hR
  have hn30 := R_n30 hR
  have hTH := hR.2.2.1
  have hF := (D_at0 hR hd).1.1
  have h8 : (A 8).length = 30 := hL 8 (by decide)
  have h9 : (A 9).length = 30 := hL 9 (by decide)
  have h10 : (A 10).length = 30 := hL 10 (by decide)
  refine R_s (P := True) (f' := (9, [some (vR 1), some (vR 20), some (vI 0)], [vI (-1), vI (F 2), vR 2], LAY (shA A) (shF F), 0, 0)) hc100 5 rfl trivial ?_
  refine R_cv hc100 rfl rfl (l_wakeT (A := shA A) (F := shF F) (al := N_al A F) hLs hn hn30 (R_TR (A := A) hR) (R_U (A := A) hR) (R_T (A := A) hR) (fun p _ => rfl)) (fun r G9 hp9 => ?_)
  obtain ⟨rfl, l8, l9, l10, rfl, hl8, hl9, hl10, hw⟩ := hp9
  refine R_s (f' := (12, [some (vR 1), some (vR 20), some (vI 0)], [], LAY (u (u (u (shA A) 8 l8) 9 l9) 10 l10) (shF F), 0, 0)) hc100 0 rfl trivial ?_
  refine R_s (P := True) (f' := (26, [some (vR 1), some (vR 20), some (vI 0)], [vI 0, vR 12, vR 20, vR 2, vR 74], LAY (u (u (u (shA A) 8 l8) 9 l9) 10 l10) (shF F), 0, 0)) hc100 8 rfl trivial ?_
  refine R_cv hc100 rfl rfl (l_yieldC (A := (u (u (u (shA A) 8 l8) 9 l9) 10 l10)) (F := (shF F)) (LENS_u (LENS_u (LENS_u hLs (by show l8.length = (A 8).length; rw [hl8, h8])) (by show l9.length = (A 9).length; rw [hl9, h9])) (by show l10.length = (A 10).length; rw [hl10, h10])) ⟨hTH.1, hTH.2.1⟩ 0 (by decide) (fun i hi => R_prod hR (d := 0) (by decide) i hi)) (fun r G9 hp9 => ?_)
  obtain ⟨e1, rfl⟩ := hp9
  have e2 : r = some (vI (N_Y A F 0)) := e1
  clear e1
  subst e2
  refine R_s (f' := (29, [some (vR 1), some (vR 20), some (vI 0)], [vI (N_Y A F 0), vR 20, vR 2, vR 74], LAY (u (u (u (shA A) 8 l8) 9 l9) 10 l10) (shF F), 0, 0)) hc100 0 rfl trivial ?_
  refine R_s (P := True) (f' := (33, [some (vR 1), some (vR 20), some (vI 0)], [vI (F 2), vI (N_Y A F 0), vR 20, vR 2, vR 74], LAY (u (u (u (shA A) 8 l8) 9 l9) 10 l10) (shF F), 0, 0)) hc100 2 rfl trivial ?_
  refine R_cv hc100 rfl rfl (l_reckon0 (A := (u (u (u (shA A) 8 l8) 9 l9) 10 l10)) (F := (shF F)) (n := (F 3).toNat) (LENS_u (LENS_u (LENS_u hLs (by show l8.length = (A 8).length; rw [hl8, h8])) (by show l9.length = (A 9).length; rw [hl9, h9])) (by show l10.length = (A 10).length; rw [hl10, h10])) hn hn30 (R_TR (A := A) hR) (al := N_al A F) (fun p hp => (hw p hp).1) (N_al_01 (A := A) hR) (Q := N_Q A 21) (e := (F 8).toNat) (D_at0 hR hd).1 (by show F 8 = (((F 8).toNat : Nat) : Int); omega) rfl rfl rfl rfl rfl rfl rfl rfl (fun p hp => (hw p hp).2) (Y := N_Y A F 0) (yr := F 2) (N_Y_bd hR (by decide)) (so := so) s1 (mg := mg) (pm := pm) (lo := lo) s2 s3 s4) (fun r G9 hp9 => ?_)
  obtain ⟨rfl, l11, l75, l76, l77, l78, rfl, hl11, hl75, hl76, hl77, hl78, z1, z2, z3⟩ := hp9
  refine R_s (f' := (36, [some (vR 1), some (vR 20), some (vI 0)], [], LAY (u (u (u (u (u (u (u (u (shA A) 8 l8) 9 l9) 10 l10) 75 l75) 11 l11) 78 l78) 77 l77) 76 l76) (u (u (shF F) 14 mg) 15 lo), 0, 0)) hc100 0 rfl trivial ?_
  exact R_retv hc100 rfl rfl ⟨rfl, l8, l9, l10, l11, l75, l76, l77, l78, rfl, hl8, hl9, hl10, hl11, hl75, hl76, hl77, hl78, z1, fun j hj => by rw [s5]; exact z2 j hj, fun p hp => by rw [s6]; exact z3 p hp⟩
theorem l_now1 {c : Int} {A : Nat → List Int} {F : Nat → Int} (hR : REL c A F) (hd : (1 : Int) < F 0) {so te tp : Nat → Int} {mg pm lo : Int} (hS : SPL A F (N_al A F) (N_Q A 30) (F 9).toNat (N_Y A F 1) so te tp mg pm lo) : R 100 (0, L0 100 [vR 1, vR 29, vI 1], [], LAY (shA A) (shF F), 0, 0) (fun r G => r = none ∧ ∃ l8 l9 l10 l11 l75 l76 l77 l78, G = LAY (u (u (u (u (u (u (u (u (shA A) 8 l8) 9 l9) 10 l10) 11 l11) 75 l75) 76 l76) 77 l77) 78 l78) (u (u (shF F) 14 mg) 15 lo) ∧ l8.length = 30 ∧ l9.length = 30 ∧ l10.length = 30 ∧ l11.length = 30 ∧ l75.length = 6 ∧ l76.length = 6 ∧ l77.length = 30 ∧ l78.length = 30 ∧ (∀ i : Nat, i < (F 9).toNat → rd l75 i = so i) ∧ (∀ j : Nat, j < (F 9).toNat → rd l76 j = te j) ∧ ∀ p : Nat, p < (F 3).toNat → rd l77 p = tp p) := by
  have hL := hR.1
  have hLs := LENS_sh hL
  obtain ⟨s1, s2, s3, s4, s5, s6⟩ := hS
  have hn := R_n hR
  have hn30 := R_n30 hR
  have hTH := hR.2.2.1
  have hF := (D_at1 hR hd).1.1
  have h8 : (A 8).length = 30 := hL 8 (by decide)
  have h9 : (A 9).length = 30 := hL 9 (by decide)
  have h10 : (A 10).length = 30 := hL 10 (by decide)
  refine R_s (P := True) (f' := (9, [some (vR 1), some (vR 29), some (vI 1)], [vI (-1), vI (F 2), vR 2], LAY (shA A) (shF F), 0, 0)) hc100 5 rfl trivial ?_
  refine R_cv hc100 rfl rfl (l_wakeT (A := shA A) (F := shF F) (al := N_al A F) hLs hn hn30 (R_TR (A := A) hR) (R_U (A := A) hR) (R_T (A := A) hR) (fun p _ => rfl)) (fun r G9 hp9 => ?_)
  obtain ⟨rfl, l8, l9, l10, rfl, hl8, hl9, hl10, hw⟩ := hp9
  refine R_s (f' := (12, [some (vR 1), some (vR 29), some (vI 1)], [], LAY (u (u (u (shA A) 8 l8) 9 l9) 10 l10) (shF F), 0, 0)) hc100 0 rfl trivial ?_
  refine R_s (P := True) (f' := (26, [some (vR 1), some (vR 29), some (vI 1)], [vI 1, vR 12, vR 29, vR 2, vR 74], LAY (u (u (u (shA A) 8 l8) 9 l9) 10 l10) (shF F), 0, 0)) hc100 8 rfl trivial ?_
  refine R_cv hc100 rfl rfl (l_yieldC (A := (u (u (u (shA A) 8 l8) 9 l9) 10 l10)) (F := (shF F)) (LENS_u (LENS_u (LENS_u hLs (by show l8.length = (A 8).length; rw [hl8, h8])) (by show l9.length = (A 9).length; rw [hl9, h9])) (by show l10.length = (A 10).length; rw [hl10, h10])) ⟨hTH.1, hTH.2.1⟩ 1 (by decide) (fun i hi => R_prod hR (d := 1) (by decide) i hi)) (fun r G9 hp9 => ?_)
  obtain ⟨e1, rfl⟩ := hp9
  have e2 : r = some (vI (N_Y A F 1)) := e1
  clear e1
  subst e2
  refine R_s (f' := (29, [some (vR 1), some (vR 29), some (vI 1)], [vI (N_Y A F 1), vR 29, vR 2, vR 74], LAY (u (u (u (shA A) 8 l8) 9 l9) 10 l10) (shF F), 0, 0)) hc100 0 rfl trivial ?_
  refine R_s (P := True) (f' := (33, [some (vR 1), some (vR 29), some (vI 1)], [vI (F 2), vI (N_Y A F 1), vR 29, vR 2, vR 74], LAY (u (u (u (shA A) 8 l8) 9 l9) 10 l10) (shF F), 0, 0)) hc100 2 rfl trivial ?_
  refine R_cv hc100 rfl rfl (l_reckon1 (A := (u (u (u (shA A) 8 l8) 9 l9) 10 l10)) (F := (shF F)) (n := (F 3).toNat) (LENS_u (LENS_u (LENS_u hLs (by show l8.length = (A 8).length; rw [hl8, h8])) (by show l9.length = (A 9).length; rw [hl9, h9])) (by show l10.length = (A 10).length; rw [hl10, h10])) hn hn30 (R_TR (A := A) hR) (al := N_al A F) (fun p hp => (hw p hp).1) (N_al_01 (A := A) hR) (Q := N_Q A 30) (e := (F 9).toNat) (D_at1 hR hd).1 (by show F 9 = (((F 9).toNat : Nat) : Int); omega) rfl rfl rfl rfl rfl rfl rfl rfl (fun p hp => (hw p hp).2) (Y := N_Y A F 1) (yr := F 2) (N_Y_bd hR (by decide)) (so := so) s1 (mg := mg) (pm := pm) (lo := lo) s2 s3 s4) (fun r G9 hp9 => ?_)
  obtain ⟨rfl, l11, l75, l76, l77, l78, rfl, hl11, hl75, hl76, hl77, hl78, z1, z2, z3⟩ := hp9
  refine R_s (f' := (36, [some (vR 1), some (vR 29), some (vI 1)], [], LAY (u (u (u (u (u (u (u (u (shA A) 8 l8) 9 l9) 10 l10) 75 l75) 11 l11) 78 l78) 77 l77) 76 l76) (u (u (shF F) 14 mg) 15 lo), 0, 0)) hc100 0 rfl trivial ?_
  exact R_retv hc100 rfl rfl ⟨rfl, l8, l9, l10, l11, l75, l76, l77, l78, rfl, hl8, hl9, hl10, hl11, hl75, hl76, hl77, hl78, z1, fun j hj => by rw [s5]; exact z2 j hj, fun p hp => by rw [s6]; exact z3 p hp⟩
