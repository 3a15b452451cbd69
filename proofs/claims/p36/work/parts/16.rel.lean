/-- what the model holds as the class does -/
def shA (A : Nat → List Int) : Nat → List Int := (u (u (u (u (u (u (u (u (u (u (u (u A 90 (A 3)) 91 (A 4)) 92 (A 5)) 93 (A 6)) 95 (A 13)) 96 (A 14)) 97 (A 15)) 98 (A 16)) 106 (A 18)) 103 (A 83)) 112 (A 86)) 89 (A 87))
def shF (F : Nat → Int) : Nat → Int := (u (u (u (u (u (u (u (u F 19 (F 3)) 20 (F 4)) 24 (F 5)) 21 (F 0)) 22 (F 16)) 23 (F 17)) 18 (F 2)) 32 (F 1))
def PERS (n : Int) (P B D U T mT : List Int) : Prop := 0 ≤ n ∧ n ≤ 30 ∧ (∀ i, 0 ≤ i → i < n → -1 ≤ rd P i ∧ rd P i < i ∧ 0 ≤ rd B i ∧ rd B i ≤ 700 ∧ -1 ≤ rd D i ∧ rd D i ≤ 700) ∧ (∀ i, 0 ≤ i → i < 30 → (rd U i = 0 ∨ rd U i = 1) ∧ (rd T i = 0 ∨ rd T i = 1) ∧ (rd mT i = 0 ∨ rd mT i = 1) ∧ (rd U i = 1 → rd mT i = rd T i)) ∧ (∀ i, n ≤ i → i < 30 → rd U i = 0) ∧ cb U n.toNat ≤ 5
def sum6 (l : List Int) (t : Int) : Int := rd l (t * 6) + rd l (t * 6 + 1) + rd l (t * 6 + 2) + rd l (t * 6 + 3) + rd l (t * 6 + 4) + rd l (t * 6 + 5)
def THG (n : Int) (W Y Ru Gv : List Int) : Prop := 0 ≤ n ∧ n ≤ 10 ∧ (∀ i, 0 ≤ i → i < n → 1 ≤ rd W i ∧ rd W i ≤ 9999 ∧ 0 ≤ rd Y i ∧ rd Y i ≤ 9999) ∧ (∀ i, 0 ≤ i → i < 10 → rd Ru i = 0 ∨ rd Ru i = 1) ∧ (∀ i, 0 ≤ i → i < 60 → 0 ≤ rd Gv i ∧ rd Gv i ≤ 12) ∧ ∀ t, 0 ≤ t → t < 10 → sum6 Gv t ≤ 12
/-- a deed: the class's rows of ends, and the model's -/
def DEED (n e : Int) (K N Ro Ho He Fi Si Th mE mEnd : List Int) (d : Int) : Prop := 1 ≤ e ∧ e ≤ 6 ∧ rd mE d = e ∧ rd K (e - 1) = 3 ∧ (∀ i, 0 ≤ i → i < e →
    rd mEnd (48 * d + 8 * i) = rd K i ∧ (rd K i = 0 ∨ rd K i = 1 ∨ rd K i = 2 ∨ rd K i = 3) ∧ (rd K i = 3 → i = e - 1) ∧ (rd K i = 2 → i = 0 ∧ rd N i ≤ 100) ∧
    (rd K i = 3 ∨ (rd mEnd (48 * d + 8 * i + 1) = rd N i ∧ 0 ≤ rd N i ∧ rd N i ≤ 9999)) ∧
    (rd K i = 1 ∨ rd K i = 2 → rd mEnd (48 * d + 8 * i + 2) = rd Ro i ∧ 0 ≤ rd Ro i ∧ rd Ro i < n) ∧
    (rd K i = 0 ∨ rd K i = 3 → rd mEnd (48 * d + 8 * i + 3) = rd Ho i ∧ 0 ≤ rd Ho i ∧ rd Ho i < 8) ∧
    (rd K i = 1 → rd mEnd (48 * d + 8 * i + 4) = rd He i ∧ (rd He i = 0 ∨ rd He i = 1) ∧ rd N i ≤ 12) ∧
    (0 ≤ rd Fi i ∧ rd Fi i ≤ 3 ∧ rd mEnd (48 * d + 8 * i + 5) = rd Fi i - 1) ∧
    (rd Fi i = 0 ∨ (rd mEnd (48 * d + 8 * i + 6) = rd Si i ∧ rd mEnd (48 * d + 8 * i + 7) = rd Th i ∧ (rd Si i = 61 ∨ rd Si i = 60 ∨ rd Si i = 62))))
def LEAS (n : Int) (T Fr Y H mL : List Int) : Prop := 0 ≤ n ∧ n ≤ 30 ∧ (∀ i, 0 ≤ i → i < n → rd mL (3 * i) = rd T i ∧ rd mL (3 * i + 1) = rd Fr i ∧ rd mL (3 * i + 2) = rd Y i ∧ 0 ≤ rd Fr i ∧ rd Fr i ≤ 700 ∧ 1 ≤ rd Y i ∧ rd Y i ≤ 99) ∧ (∀ i, 0 ≤ i → i < 30 → rd H i = 0 ∨ rd H i = 1)
def ACCT (now : Int) (P H mA : List Int) : Prop := (∀ i, 0 ≤ i → i < 30 → rd mA i = rd P i ∧ -(now * 1000000000) ≤ rd P i ∧ rd P i ≤ now * 1000000000) ∧ (∀ i, 0 ≤ i → i < 8 → rd mA (30 + i) = rd H i ∧ -(now * 1000000000) ≤ rd H i ∧ rd H i ≤ now * 1000000000)
def REFU (c : Int) (Rf : List Int) : Prop := 0 ≤ c ∧ ∀ i, 0 ≤ i → i < 9 → 0 ≤ rd Rf i ∧ rd Rf i ≤ c
def DEEDS (A : Nat → List Int) (F : Nat → Int) : Prop := (0 < F 0 → DEED (F 3) (F 8) (A 21) (A 22) (A 23) (A 24) (A 25) (A 26) (A 27) (A 28) (A 99) (A 100) 0) ∧ (1 < F 0 → DEED (F 3) (F 9) (A 30) (A 31) (A 32) (A 33) (A 34) (A 35) (A 36) (A 37) (A 99) (A 100) 1) ∧ (2 < F 0 → DEED (F 3) (F 10) (A 39) (A 40) (A 41) (A 42) (A 43) (A 44) (A 45) (A 46) (A 99) (A 100) 2) ∧ (3 < F 0 → DEED (F 3) (F 11) (A 48) (A 49) (A 50) (A 51) (A 52) (A 53) (A 54) (A 55) (A 99) (A 100) 3) ∧ (4 < F 0 → DEED (F 3) (F 12) (A 57) (A 58) (A 59) (A 60) (A 61) (A 62) (A 63) (A 64) (A 99) (A 100) 4) ∧ (5 < F 0 → DEED (F 3) (F 13) (A 66) (A 67) (A 68) (A 69) (A 70) (A 71) (A 72) (A 73) (A 99) (A 100) 5)
/-- the class and the model, between two calls -/
def REL (c : Int) (A : Nat → List Int) (F : Nat → Int) : Prop :=
  LENS A ∧ PERS (F 3) (A 3) (A 4) (A 5) (A 6) (A 7) (A 94) ∧ THG (F 4) (A 13) (A 14) (A 15) (A 16) ∧ (0 ≤ F 5 ∧ F 5 ≤ 120) ∧ ((0 ≤ F 0 ∧ F 0 ≤ 6) ∧ DEEDS A F) ∧ (LEAS (F 16) (A 80) (A 81) (A 82) (A 83) (A 102) ∧ 1 ≤ F 17 ∧ F 17 ≤ 99) ∧ (0 ≤ F 2 ∧ F 2 ≤ 600) ∧ ACCT (F 2) (A 84) (A 85) (A 101) ∧ (-1 ≤ F 1 ∧ F 1 ≤ 30) ∧ REFU c (A 87)
theorem REFU_up {c : Int} {l : List Int} (h : REFU c l) (hl : l.length = 9) {k : Int} (h0 : 0 ≤ k) (h1 : k < 9) : REFU (c + 1) (wr l k (rd l k + 1)) := by
  obtain ⟨hc, h⟩ := h
  refine ⟨by omega, fun i hi hi2 => ?_⟩
  rw [rd_wr h0 (by omega) hi]
  have := h i hi hi2
  split
  · subst_vars; omega
  · omega
theorem REFU_c {c : Int} {l : List Int} (h : REFU c l) : REFU (c + 1) l := ⟨by have := h.1; omega, fun i hi hi2 => by have := h.2 i hi hi2; omega⟩
theorem REFU_at {c : Int} {l : List Int} (h : REFU c l) {k : Int} (h0 : 0 ≤ k) (h1 : k < 9) (hc : c < 1000000) : 0 ≤ rd l k ∧ rd l k < 1000000 := by have := h.2 k h0 h1; omega
theorem REL_c {c : Int} {A : Nat → List Int} {F : Nat → Int} (h : REL c A F) : REL (c + 1) A F := by
  obtain ⟨hL, hPE, hTH, hTP, hDE, hLE, hNO, hAC, hRO, hRE⟩ := h
  exact ⟨hL, hPE, hTH, hTP, hDE, hLE, hNO, hAC, hRO, REFU_c hRE⟩
theorem REL_ref {c : Int} {A : Nat → List Int} {F : Nat → Int} (h : REL c A F) {k : Int} (h0 : 0 ≤ k) (h1 : k < 9) : REL (c + 1) (u A 87 (wr (A 87) k (rd (A 87) k + 1))) F := by
  obtain ⟨hL, hPE, hTH, hTP, hDE, hLE, hNO, hAC, hRO, hRE⟩ := h
  exact ⟨LENS_wr hL 87 _ _, hPE, hTH, hTP, hDE, hLE, hNO, hAC, hRO, REFU_up hRE (hL 87 (by decide)) h0 h1⟩
theorem REL_F {c : Int} {A : Nat → List Int} {F : Nat → Int} (h : REL c A F) (hh : (0 : Int) ≤ 0) : REL (c + 1) A (u F 5 0) := by
  obtain ⟨hL, hPE, hTH, hTP, hDE, hLE, hNO, hAC, hRO, hRE⟩ := REL_c h
  exact ⟨hL, hPE, hTH, ⟨(show (0 : Int) ≤ 0 by decide), (show (0 : Int) ≤ 120 by decide)⟩, hDE, hLE, hNO, hAC, hRO, hRE⟩
theorem REL_law {c : Int} {A : Nat → List Int} {F : Nat → Int} (h : REL c A F) {n : Int} (hn : 1 ≤ n ∧ n ≤ 99) : REL (c + 1) A (u F 17 n) := by
  obtain ⟨hL, hPE, hTH, hTP, hDE, hLE, hNO, hAC, hRO, hRE⟩ := REL_c h
  exact ⟨hL, hPE, hTH, hTP, hDE, ⟨hLE.1, hn⟩, hNO, hAC, hRO, hRE⟩
theorem REL_tear {c : Int} {A : Nat → List Int} {F : Nat → Int} (h : REL c A F) : REL (c + 1) A (u F 1 (-1)) := by
  obtain ⟨hL, hPE, hTH, hTP, hDE, hLE, hNO, hAC, hRO, hRE⟩ := REL_c h
  exact ⟨hL, hPE, hTH, hTP, hDE, hLE, hNO, hAC, ⟨(show (-1 : Int) ≤ -1 by decide), (show (-1 : Int) ≤ 30 by decide)⟩, hRE⟩
/-- what most calls leave as it was -/
def KP (A : Nat → List Int) (F : Nat → Int) (A' : Nat → List Int) (F' : Nat → Int) : Prop := F' 2 = F 2 ∧ A' 84 = A 84 ∧ A' 85 = A 85 ∧ F' 0 = F 0 ∧ F 3 ≤ F' 3 ∧ A' 21 = A 21 ∧ A' 22 = A 22 ∧ A' 30 = A 30 ∧ A' 31 = A 31 ∧ F' 8 = F 8 ∧ F' 9 = F 9
def kA (j : Nat) : Bool := Nat.ble 3 j && Nat.ble j 7 || Nat.ble 13 j && Nat.ble j 16 || Nat.ble 21 j && Nat.ble j 73 || Nat.ble 84 j && Nat.ble j 85
def kF (j : Nat) : Bool := Nat.beq j 0 || Nat.ble 2 j && Nat.ble j 4 || Nat.ble 8 j && Nat.ble j 13
/-- what a question leaves as it was -/
def PST (A : Nat → List Int) (F : Nat → Int) (A' : Nat → List Int) (F' : Nat → Int) : Prop := (∀ j, kA j = true → A' j = A j) ∧ ∀ j, kF j = true → F' j = F j
theorem PST_0 {A : Nat → List Int} {F : Nat → Int} : PST A F A F := ⟨fun _ _ => rfl, fun _ _ => rfl⟩
theorem PST_A {A A' : Nat → List Int} {F F' : Nat → Int} {k : Nat} {l : List Int} (hk : kA k = false) (h : PST A F A' F') : PST A F (u A' k l) F' :=
  ⟨fun j hj => by rw [u_n (fun e => by rw [e, hk] at hj; cases hj)]; exact h.1 j hj, h.2⟩
theorem PST_F {A A' : Nat → List Int} {F F' : Nat → Int} {k : Nat} {v : Int} (hk : kF k = false) (h : PST A F A' F') : PST A F A' (u F' k v) :=
  ⟨h.1, fun j hj => by rw [u_n (fun e => by rw [e, hk] at hj; cases hj)]; exact h.2 j hj⟩
theorem PST_KP {A A' : Nat → List Int} {F F' : Nat → Int} (h : PST A F A' F') : KP A F A' F' := ⟨h.2 2 rfl, h.1 84 rfl, h.1 85 rfl, h.2 0 rfl, by rw [h.2 3 rfl]; exact Int.le_refl _, h.1 21 rfl, h.1 22 rfl, h.1 30 rfl, h.1 31 rfl, h.2 8 rfl, h.2 9 rfl⟩
theorem op_wipe {c : Int} {A : Nat → List Int} {F : Nat → Int} (hR : REL c A F) (hc : c < 1000000) : R 71 (0, L0 71 [vR 1], [], LAY (shA A) (shF F), 0, 0) (fun r G => ∃ (x : Int) (A' : Nat → List Int) (F' : Nat → Int), REL (c + 1) A' F' ∧ r = some (vI x) ∧ G = LAY (shA A') (shF F') ∧ A' 0 = A 0 ∧ KP A F A' F' ∧ F' 5 = 0) := by
  have hR0 := hR
  obtain ⟨hL, hPE, hTH, hTP, hDE, hLE, hNO, hAC, hRO, hRE⟩ := hR
  have h87 : (A 87).length = 9 := hL 87 (by decide)
  have r2 := REFU_at hRE (k := 2) (by decide) (by decide) hc
  have r3 := REFU_at hRE (k := 3) (by decide) (by decide) hc
  have r4 := REFU_at hRE (k := 4) (by decide) (by decide) hc
  have r5 := REFU_at hRE (k := 5) (by decide) (by decide) hc
  have r6 := REFU_at hRE (k := 6) (by decide) (by decide) hc
  have r7 := REFU_at hRE (k := 7) (by decide) (by decide) hc
  have r8 := REFU_at hRE (k := 8) (by decide) (by decide) hc
  refine R_s (P := True) (f' := (17, [some (vR 1), some (vI (F 5))], [vI (F 5)], LAY (shA A) (u (shF F) 5 0), 0, 0)) hc71 9 rfl trivial ?_
  refine R_reti hc71 rfl rfl ?_
  first
    | (exfalso; omega; done)
    | exact ⟨F 5, A, (u F 5 0), (REL_F hR0 (by decide)), rfl, rfl, rfl, ⟨⟨rfl, rfl, rfl, rfl, by first | exact Int.le_refl _ | (show F 3 ≤ F 3 + 1; omega), rfl, rfl, rfl, rfl, rfl, rfl⟩, rfl⟩⟩

