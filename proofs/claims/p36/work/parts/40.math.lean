theorem T_pl {n : Nat} {yr Y : Int} {P B : List Int} {al : Nat → Int} {Q : Nat → List Int} {e : Nat} (hY : 0 ≤ Y ∧ Y ≤ 99990) (hQ : QOK n Q e) : (0 ≤ T_pm n yr Y P B al Q e ∧ T_pm n yr Y P B al Q e ≤ Y) ∧ (0 ≤ T_lo n yr Y P B al Q e ∧ T_lo n yr Y P B al Q e ≤ 99990) ∧ ∀ j : Nat, j ≤ e → 0 ≤ T_fx n yr Y P B al Q e j ∧ T_fx n yr Y P B al Q e j ≤ 99990 := by
  have hNf : ∀ j : Nat, j < e → rd (Q 0) j = 0 → 0 ≤ rd (Q 1) j := fun j hj hj2 => by
    have z := (hQ.2.2.2 j hj).2.2.2.1
    omega
  have hpb : 0 ≤ T_pm n yr Y P B al Q e ∧ T_pm n yr Y P B al Q e ≤ Y := by
    have he1 := hQ.1
    refine S_pm_bd hY.1 (fun q => ?_)
    have z := hQ.2.2.2 0 (by omega)
    have z2 : rd (Q 0) 0 = 2 := by
      refine Classical.byContradiction (fun q2 => q ?_)
      unfold T_mg S_mg
      rw [if_neg (fun q3 => q2 q3.1)]
    have z4 := z.2.2.2.1
    have z3 : rd (Q 0) ((0 : Nat) : Int) = 2 := z2
    have z5 : 0 ≤ rd (Q 1) ((0 : Nat) : Int) := by omega
    exact ⟨z5, (z.2.2.1 z2).2⟩
  have hfx : ∀ j : Nat, j ≤ e → 0 ≤ T_fx n yr Y P B al Q e j ∧ T_fx n yr Y P B al Q e j ≤ 99990 := fun j hj => by
    have z := S_fx_bd (Q := Q) (so := T_so n yr Y P al Q e) (r := Y - T_pm n yr Y P B al Q e) (by omega) j (fun q hq => hNf q (by omega))
    unfold T_fx
    omega
  exact ⟨hpb, hfx e (Nat.le_refl e), hfx⟩
theorem Q_ln {n : Nat} {Q : Nat → List Int} {e : Nat} (hQ : QOK n Q e) (j : Nat) (hj : j < e) (h : rd (Q 0) j = 1) : 0 ≤ rd (Q 1) j ∧ rd (Q 1) j ≤ 12 := by
  have z := hQ.2.2.2 j hj
  exact ⟨by have := z.2.2.2.1; omega, (z.2.2.2.2.2.2.1 h).2⟩
theorem T_tp_bd {n : Nat} {yr Y : Int} {P B : List Int} {al : Nat → Int} {Q : Nat → List Int} {e : Nat} (hY : 0 ≤ Y ∧ Y ≤ 99990) (ha : ∀ p, p < n → al p = 0 ∨ al p = 1) (hT : TR P n) (hn : n ≤ 30) (hQ : QOK n Q e) (p : Nat) (hp : p < n) : 0 ≤ T_tp n yr Y P B al Q e p ∧ T_tp n yr Y P B al Q e p ≤ 1000000 := by
  obtain ⟨h1, h2, -⟩ := T_pl (yr := yr) (P := P) (B := B) (al := al) hY hQ
  have z := S_ls_bd (so := T_so n yr Y P al Q e) (Q := Q) ha hT hn hp h2.1 e hQ.2.1 (Q_ln hQ)
  have he : (e : Int) * T_lo n yr Y P B al Q e ≤ 6 * T_lo n yr Y P B al Q e := Int.mul_le_mul_of_nonneg_right (by have := hQ.2.1; omega) h2.1
  unfold T_tp
  split <;> omega
theorem T_te_bd {n : Nat} {yr Y : Int} {P B : List Int} {al : Nat → Int} {Q : Nat → List Int} {e : Nat} (hY : 0 ≤ Y ∧ Y ≤ 99990) (ha : ∀ p, p < n → al p = 0 ∨ al p = 1) (hT : TR P n) (hn : n ≤ 30) (hQ : QOK n Q e) (i : Nat) (hi : i < e) : -20000000 ≤ T_te n yr Y P B al Q e i ∧ T_te n yr Y P B al Q e i ≤ 20000000 := by
  obtain ⟨h1, h2, h3⟩ := T_pl (yr := yr) (P := P) (B := B) (al := al) hY hQ
  have z := hQ.2.2.2 i hi
  unfold T_te
  split
  · have r := S_rs_bd (so := T_so n yr Y P al Q e) (Q := Q) ha hT hn h2.1 e hQ.2.1 (Q_ln hQ)
    have he : (e : Int) * (30 * T_lo n yr Y P B al Q e) ≤ 6 * (30 * T_lo n yr Y P B al Q e) := Int.mul_le_mul_of_nonneg_right (by have := hQ.2.1; omega) (by omega)
    unfold T_rs
    omega
  · unfold T_ge
    split
    · omega
    · split
      · rename_i q
        have r := S_le_bd (Q := Q) (i := i) ha hT hn h2.1 (Q_ln hQ i hi q)
        split <;> omega
      · have r0 := h3 i (by omega)
        have r := S_fe_bd (Q := Q) (so := T_so n yr Y P al Q e) (i := i) r0.1 (fun q => by have := z.2.2.2.1; omega)
        omega
theorem sm_bd2 {g : Nat → Int} {b : Int} : ∀ n : Nat, (∀ i, i < n → -b ≤ g i ∧ g i ≤ b) → -(n * b) ≤ sm g n ∧ sm g n ≤ n * b
  | 0, _ => by simp [sm]
  | n + 1, h => by
    have h1 := sm_bd2 n (fun i hi => h i (by omega))
    have h2 := h n (by omega)
    simp only [sm]
    have e : ((n + 1 : Nat) : Int) * b = n * b + b := by push_cast; rw [Int.add_mul, Int.one_mul]
    rw [e]
    omega
/-- what a deed's year gives to a person, to an end, to a house -/
def gP (A : Nat → List Int) (F : Nat → Int) (d p : Nat) : Int := T_tp (F 3).toNat (F 2) (N_Y A F d) (A 3) (A 4) (N_al A F) (N_Q A (21 + 9 * d)) (F (d + 8)).toNat p
def gE (A : Nat → List Int) (F : Nat → Int) (d i : Nat) : Int := T_te (F 3).toNat (F 2) (N_Y A F d) (A 3) (A 4) (N_al A F) (N_Q A (21 + 9 * d)) (F (d + 8)).toNat i
def gHi (A : Nat → List Int) (F : Nat → Int) (d : Nat) (h : Int) (i : Nat) : Int := if (rd (N_Q A (21 + 9 * d) 0) i = 0 ∨ rd (N_Q A (21 + 9 * d) 0) i = 3) ∧ rd (N_Q A (21 + 9 * d) 3) i = h then gE A F d i else 0
def gH (A : Nat → List Int) (F : Nat → Int) (d : Nat) (h : Int) : Int := sm (gHi A F d h) (F (d + 8)).toNat
theorem D_any {c : Int} {A : Nat → List Int} {F : Nat → Int} (hR : REL c A F) (d : Nat) (hd : (d : Int) < F 0) : QOK (F 3).toNat (N_Q A (21 + 9 * d)) (F (d + 8)).toNat ∧ MD (A 99) (A 100) (N_Q A (21 + 9 * d)) (F (d + 8)).toNat d := by
  have h6 := hR.2.2.2.2.1.1.2
  match d, hd with
  | 0, hd => exact D_at0 hR hd
  | 1, hd => exact D_at1 hR hd
  | 2, hd => exact D_at2 hR hd
  | 3, hd => exact D_at3 hR hd
  | 4, hd => exact D_at4 hR hd
  | 5, hd => exact D_at5 hR hd
  | d + 6, hd => exact absurd hd (by omega)
theorem gP_bd {c : Int} {A : Nat → List Int} {F : Nat → Int} (hR : REL c A F) (d : Nat) (hd : (d : Int) < F 0) (p : Nat) (hp : p < (F 3).toNat) : 0 ≤ gP A F d p ∧ gP A F d p ≤ 1000000 :=
  T_tp_bd (N_Y_bd hR ⟨by omega, by have := hR.2.2.2.2.1.1.2; omega⟩) (N_al_01 hR) (R_TR hR) (R_n30 hR) (D_any hR d hd).1 p hp
theorem gE_bd {c : Int} {A : Nat → List Int} {F : Nat → Int} (hR : REL c A F) (d : Nat) (hd : (d : Int) < F 0) (i : Nat) (hi : i < (F (d + 8)).toNat) : -20000000 ≤ gE A F d i ∧ gE A F d i ≤ 20000000 :=
  T_te_bd (N_Y_bd hR ⟨by omega, by have := hR.2.2.2.2.1.1.2; omega⟩) (N_al_01 hR) (R_TR hR) (R_n30 hR) (D_any hR d hd).1 i hi
theorem gH_bd {c : Int} {A : Nat → List Int} {F : Nat → Int} (hR : REL c A F) (d : Nat) (hd : (d : Int) < F 0) (h : Int) : -120000000 ≤ gH A F d h ∧ gH A F d h ≤ 120000000 := by
  have he := (D_any hR d hd).1.2.1
  have z := sm_bd2 (g := gHi A F d h) (b := 20000000) (F (d + 8)).toNat (fun i hi => by
    have q := gE_bd hR d hd i hi
    unfold gHi
    split <;> omega)
  unfold gH
  omega
theorem REL_y {c : Int} {A : Nat → List Int} {F : Nat → Int} (hR : REL c A F) {y : Int} (h0 : F 2 ≤ y) (h1 : y ≤ 600) : REL c A (u F 2 y) := by
  obtain ⟨hL, hPE, hTH, hTP, hDE, hLE, hNO, hAC, hRO, hRE⟩ := hR
  have hm : F 2 * 1000000000 ≤ y * 1000000000 := Int.mul_le_mul_of_nonneg_right h0 (by decide)
  refine ⟨hL, hPE, hTH, hTP, hDE, hLE, ⟨(show 0 ≤ y by omega), h1⟩, ⟨fun i hi hi2 => ?_, fun i hi hi2 => ?_⟩, hRO, hRE⟩
  · have z := hAC.1 i hi hi2
    show rd (A 101) i = rd (A 84) i ∧ -(y * 1000000000) ≤ rd (A 84) i ∧ rd (A 84) i ≤ y * 1000000000
    omega
  · have z := hAC.2 i hi hi2
    show rd (A 101) (30 + i) = rd (A 85) i ∧ -(y * 1000000000) ≤ rd (A 85) i ∧ rd (A 85) i ≤ y * 1000000000
    omega
/-- all a year gives -/
def yP (A : Nat → List Int) (F : Nat → Int) (y : Int) (D p : Nat) : Int := sm (fun d => gP A (u F 2 y) d p) D
def yH (A : Nat → List Int) (F : Nat → Int) (y : Int) (D : Nat) (h : Int) : Int := sm (fun d => gH A (u F 2 y) d h) D
theorem yP_bd {c : Int} {A : Nat → List Int} {F : Nat → Int} (hR : REL c A F) {y : Int} (h0 : F 2 ≤ y) (h1 : y ≤ 600) {D : Nat} (hD : (D : Int) ≤ F 0) (p : Nat) (hp : p < (F 3).toNat) : 0 ≤ yP A F y D p ∧ yP A F y D p ≤ 6000000 := by
  have h6 := hR.2.2.2.2.1.1.2
  have z := sm_bd (g := fun d => gP A (u F 2 y) d p) (b := 1000000) D (fun d hd => gP_bd (REL_y hR h0 h1) d (show (d : Int) < F 0 by omega) p hp)
  unfold yP
  omega
theorem yH_bd {c : Int} {A : Nat → List Int} {F : Nat → Int} (hR : REL c A F) {y : Int} (h0 : F 2 ≤ y) (h1 : y ≤ 600) {D : Nat} (hD : (D : Int) ≤ F 0) (h : Int) : -720000000 ≤ yH A F y D h ∧ yH A F y D h ≤ 720000000 := by
  have h6 := hR.2.2.2.2.1.1.2
  have z := sm_bd2 (g := fun d => gH A (u F 2 y) d h) (b := 120000000) D (fun d hd => gH_bd (REL_y hR h0 h1) d (show (d : Int) < F 0 by omega) h)
  unfold yH
  omega
/-- accounts after k years and d deeds of the next -/
def aP (A : Nat → List Int) (F : Nat → Int) (k : Nat) (p : Nat) : Int := rd (A 84) p + (if p < (F 3).toNat then sm (fun j => yP A F (F 2 + j) (F 0).toNat p) k else 0)
def aH (A : Nat → List Int) (F : Nat → Int) (k : Nat) (h : Int) : Int := rd (A 85) h + sm (fun j => yH A F (F 2 + j) (F 0).toNat h) k
theorem aP_bd {c : Int} {A : Nat → List Int} {F : Nat → Int} (hR : REL c A F) (k : Nat) (hk : F 2 + k ≤ 601) (p : Nat) (hp : p < 30) : -((F 2 + k) * 1000000000) ≤ aP A F k p ∧ aP A F k p ≤ (F 2 + k) * 1000000000 := by
  have z := hR.2.2.2.2.2.2.2.1.1 p (by omega) (by omega)
  have h0 := hR.2.2.2.2.1.1.1
  unfold aP
  rw [Int.add_mul]
  split
  · rename_i q
    have z2 := sm_bd2 (g := fun j => yP A F (F 2 + j) (F 0).toNat p) (b := 1000000000) k (fun j hj => by
      have := yP_bd hR (y := F 2 + j) (by omega) (by omega) (D := (F 0).toNat) (by omega) p q
      (try dsimp only)
      omega)
    omega
  · omega
theorem aH_bd {c : Int} {A : Nat → List Int} {F : Nat → Int} (hR : REL c A F) (k : Nat) (hk : F 2 + k ≤ 601) (h : Nat) (hh : h < 8) : -((F 2 + k) * 1000000000) ≤ aH A F k h ∧ aH A F k h ≤ (F 2 + k) * 1000000000 := by
  have z := hR.2.2.2.2.2.2.2.1.2 h (by omega) (by omega)
  have h0 := hR.2.2.2.2.1.1.1
  unfold aH
  rw [Int.add_mul]
  have z2 := sm_bd2 (g := fun j => yH A F (F 2 + j) (F 0).toNat h) (b := 1000000000) k (fun j hj => by
    have := yH_bd hR (y := F 2 + j) (by omega) (by omega) (D := (F 0).toNat) (by omega) h
    (try dsimp only)
    omega)
  omega
