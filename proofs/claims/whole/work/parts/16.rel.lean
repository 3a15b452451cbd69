/-- what the model holds as the class does -/
def shA (A : Nat → List Int) : Nat → List Int := (u (u (u (u (u (u (u (u (u (u (u (u A 90 (A 3)) 91 (A 4)) 92 (A 5)) 93 (A 6)) 95 (A 13)) 96 (A 14)) 97 (A 15)) 98 (A 16)) 106 (A 18)) 103 (A 83)) 112 (A 86)) 89 (A 87))
def shF (F : Nat → Int) : Nat → Int := (u (u (u (u (u (u (u (u F 19 (F 3)) 20 (F 4)) 24 (F 5)) 21 (F 0)) 22 (F 16)) 23 (F 17)) 18 (F 2)) 32 (F 1))
def PERS (n : Int) (P B D U T mT : List Int) : Prop := 0 ≤ n ∧ n ≤ 30 ∧ (∀ i, 0 ≤ i → i < n → -1 ≤ rd P i ∧ rd P i < i ∧ 0 ≤ rd B i ∧ rd B i ≤ 700 ∧ -1 ≤ rd D i ∧ rd D i ≤ 700) ∧ (∀ i, 0 ≤ i → i < 30 → (rd U i = 0 ∨ rd U i = 1) ∧ (rd T i = 0 ∨ rd T i = 1) ∧ (rd mT i = 0 ∨ rd mT i = 1) ∧ (rd U i = 1 → rd mT i = rd T i)) ∧ (∀ i, n ≤ i → i < 30 → rd U i = 0) ∧ cb U n.toNat ≤ 5
def sum6 (l : List Int) (t : Int) : Int := rd l (t * 6) + rd l (t * 6 + 1) + rd l (t * 6 + 2) + rd l (t * 6 + 3) + rd l (t * 6 + 4) + rd l (t * 6 + 5)
def THG (n : Int) (W Y Ru Gv : List Int) : Prop := 0 ≤ n ∧ n ≤ 10 ∧ (∀ i, 0 ≤ i → i < n → 1 ≤ rd W i ∧ rd W i ≤ 9999 ∧ 0 ≤ rd Y i ∧ rd Y i ≤ 9999) ∧ (∀ i, 0 ≤ i → i < 10 → rd Ru i = 0 ∨ rd Ru i = 1) ∧ (∀ i, 0 ≤ i → i < 60 → 0 ≤ rd Gv i ∧ rd Gv i ≤ 12) ∧ ∀ t, 0 ≤ t → t < 10 → sum6 Gv t ≤ 12
/-- a deed: the class's rows of ends, and the model's -/
def DEED (n e : Int) (K N Ro Ho He Fi Si Th mE mEnd : List Int) (d : Int) : Prop := 1 ≤ e ∧ e ≤ 6 ∧ rd mE d = e ∧ rd K (e - 1) = 3 ∧ (∀ i, 0 ≤ i → i < e →
    rd mEnd (48 * d + 8 * i) = rd K i ∧ (rd K i = 0 ∨ rd K i = 1 ∨ rd K i = 2 ∨ rd K i = 3) ∧ (rd K i = 3 → i = e - 1) ∧ (rd K i = 2 → i = 0 ∧ rd N i ≤ 100) ∧
    (rd K i = 3 ∨ (rd mEnd (48 * d + 8 * i + 1) = rd N i ∧ 0 ≤ rd N i ∧ rd N i ≤ 9999)) ∧
    (rd K i = 1 ∨ rd K i = 2 → rd mEnd (48 * d + 8 * i + 2) = rd Ro i ∧ 0 ≤ rd Ro i ∧ rd Ro i < n) ∧
    (rd K i = 0 ∨ rd K i = 3 → rd mEnd (48 * d + 8 * i + 3) = rd Ho i ∧ 0 ≤ rd Ho i ∧ rd Ho i < 8) ∧
    (rd K i = 1 → rd mEnd (48 * d + 8 * i + 4) = rd He i ∧ (rd He i = 0 ∨ rd He i = 1) ∧ rd N i ≤ 12) ∧
    (0 ≤ rd Fi i ∧ rd Fi i ≤ 3 ∧ rd mEnd (48 * d + 8 * i + 5) = rd Fi i - 1) ∧
    (rd Fi i = 0 ∨ (rd mEnd (48 * d + 8 * i + 6) = rd Si i ∧ rd mEnd (48 * d + 8 * i + 7) = rd Th i ∧ (rd Si i = 61 ∨ rd Si i = 60 ∨ rd Si i = 62))))
def LEAS (n : Int) (T Fr Y H mL : List Int) : Prop := 0 ≤ n ∧ n ≤ 30 ∧ (∀ i, 0 ≤ i → i < n → rd mL (3 * i) = rd T i ∧ rd mL (3 * i + 1) = rd Fr i ∧ rd mL (3 * i + 2) = rd Y i ∧ 0 ≤ rd Fr i ∧ rd Fr i ≤ 700 ∧ 1 ≤ rd Y i ∧ rd Y i ≤ 99) ∧ (∀ i, 0 ≤ i → i < 30 → rd H i = 0 ∨ rd H i = 1)
def ACCT (now : Int) (P H mA : List Int) : Prop := (∀ i, 0 ≤ i → i < 30 → rd mA i = rd P i ∧ -(now * 1000000000) ≤ rd P i ∧ rd P i ≤ now * 1000000000) ∧ (∀ i, 0 ≤ i → i < 8 → rd mA (30 + i) = rd H i ∧ -(now * 1000000000) ≤ rd H i ∧ rd H i ≤ now * 1000000000)
def REFU (c : Int) (Rf : List Int) : Prop := 0 ≤ c ∧ ∀ i, 0 ≤ i → i < 9 → 0 ≤ rd Rf i ∧ rd Rf i ≤ c
def DEEDS (A : Nat → List Int) (F : Nat → Int) : Prop := (0 < F 0 → DEED (F 3) (F 8) (A 21) (A 22) (A 23) (A 24) (A 25) (A 26) (A 27) (A 28) (A 99) (A 100) 0) ∧ (1 < F 0 → DEED (F 3) (F 9) (A 30) (A 31) (A 32) (A 33) (A 34) (A 35) (A 36) (A 37) (A 99) (A 100) 1) ∧ (2 < F 0 → DEED (F 3) (F 10) (A 39) (A 40) (A 41) (A 42) (A 43) (A 44) (A 45) (A 46) (A 99) (A 100) 2) ∧ (3 < F 0 → DEED (F 3) (F 11) (A 48) (A 49) (A 50) (A 51) (A 52) (A 53) (A 54) (A 55) (A 99) (A 100) 3) ∧ (4 < F 0 → DEED (F 3) (F 12) (A 57) (A 58) (A 59) (A 60) (A 61) (A 62) (A 63) (A 64) (A 99) (A 100) 4) ∧ (5 < F 0 → DEED (F 3) (F 13) (A 66) (A 67) (A 68) (A 69) (A 70) (A 71) (A 72) (A 73) (A 99) (A 100) 5)
/-- the class and the model, between two calls -/
def REL (c : Int) (A : Nat → List Int) (F : Nat → Int) : Prop :=
  LENS A ∧ PERS (F 3) (A 3) (A 4) (A 5) (A 6) (A 7) (A 94) ∧ THG (F 4) (A 13) (A 14) (A 15) (A 16) ∧ (0 ≤ F 5 ∧ F 5 ≤ 120) ∧ ((0 ≤ F 0 ∧ F 0 ≤ 6) ∧ DEEDS A F) ∧ (LEAS (F 16) (A 80) (A 81) (A 82) (A 83) (A 102) ∧ 1 ≤ F 17 ∧ F 17 ≤ 99) ∧ (0 ≤ F 2 ∧ F 2 ≤ 600) ∧ ACCT (F 2) (A 84) (A 85) (A 101) ∧ (-1 ≤ F 1 ∧ F 1 ≤ 30) ∧ REFU c (A 87)
theorem REFU_up {c : Int} {l : List Int} (h : REFU c l) (hl : l.length = 9) {k : Int} (h0 : 0 ≤ k) (h1 : k < 9) : REFU (c + 1) (wr l k (rd l k + 1)) := by
  obtain ⟨hc, h⟩ := h
  refine ⟨by omega, fun i hi hi2 => ?_⟩
  rw [rd_wr h0 (by omega) hi]
  have := h i hi hi2
  split
  · subst_vars; omega
  · omega
theorem REFU_c {c : Int} {l : List Int} (h : REFU c l) : REFU (c + 1) l := ⟨by have := h.1; omega, fun i hi hi2 => by have := h.2 i hi hi2; omega⟩
theorem REFU_at {c : Int} {l : List Int} (h : REFU c l) {k : Int} (h0 : 0 ≤ k) (h1 : k < 9) (hc : c < 512) : 0 ≤ rd l k ∧ rd l k < 512 := by have := h.2 k h0 h1; omega
theorem REL_c {c : Int} {A : Nat → List Int} {F : Nat → Int} (h : REL c A F) : REL (c + 1) A F := by
  obtain ⟨hL, hPE, hTH, hTP, hDE, hLE, hNO, hAC, hRO, hRE⟩ := h
  exact ⟨hL, hPE, hTH, hTP, hDE, hLE, hNO, hAC, hRO, REFU_c hRE⟩
theorem REL_ref {c : Int} {A : Nat → List Int} {F : Nat → Int} (h : REL c A F) {k : Int} (h0 : 0 ≤ k) (h1 : k < 9) : REL (c + 1) (u A 87 (wr (A 87) k (rd (A 87) k + 1))) F := by
  obtain ⟨hL, hPE, hTH, hTP, hDE, hLE, hNO, hAC, hRO, hRE⟩ := h
  exact ⟨LENS_wr hL 87 _ _, hPE, hTH, hTP, hDE, hLE, hNO, hAC, hRO, REFU_up hRE (hL 87 (by decide)) h0 h1⟩
theorem REL_F {c : Int} {A : Nat → List Int} {F : Nat → Int} (h : REL c A F) (hh : (0 : Int) ≤ 0) : REL (c + 1) A (u F 5 0) := by
  obtain ⟨hL, hPE, hTH, hTP, hDE, hLE, hNO, hAC, hRO, hRE⟩ := REL_c h
  exact ⟨hL, hPE, hTH, ⟨(show (0 : Int) ≤ 0 by decide), (show (0 : Int) ≤ 120 by decide)⟩, hDE, hLE, hNO, hAC, hRO, hRE⟩
theorem REL_law {c : Int} {A : Nat → List Int} {F : Nat → Int} (h : REL c A F) {n : Int} (hn : 1 ≤ n ∧ n ≤ 99) : REL (c + 1) A (u F 17 n) := by
  obtain ⟨hL, hPE, hTH, hTP, hDE, hLE, hNO, hAC, hRO, hRE⟩ := REL_c h
  exact ⟨hL, hPE, hTH, hTP, hDE, ⟨hLE.1, hn⟩, hNO, hAC, hRO, hRE⟩
theorem REL_tear {c : Int} {A : Nat → List Int} {F : Nat → Int} (h : REL c A F) : REL (c + 1) A (u F 1 (-1)) := by
  obtain ⟨hL, hPE, hTH, hTP, hDE, hLE, hNO, hAC, hRO, hRE⟩ := REL_c h
  exact ⟨hL, hPE, hTH, hTP, hDE, hLE, hNO, hAC, ⟨(show (-1 : Int) ≤ -1 by decide), (show (-1 : Int) ≤ 30 by decide)⟩, hRE⟩
theorem op_wipe {c : Int} {A : Nat → List Int} {F : Nat → Int} (hR : REL c A F) (hc : c < 512) : R 71 (0, L0 71 [vR 1], [], LAY (shA A) (shF F), 0, 0) (fun r G => (∃ x, r = some (vI x)) ∧ (∃ (A1 : Nat → List Int) (F1 : Nat → Int), G = LAY A1 F1 ∧ A1 0 = A 0) ∧ R 126 (0, L0 126 [vR 88], [], G, 0, 0) (fun r2 G2 => r2 = r ∧ ∃ (A' : Nat → List Int) (F' : Nat → Int), G2 = LAY (shA A') (shF F') ∧ A' 0 = A 0 ∧ REL (c + 1) A' F')) := by
  have hR0 := hR
  obtain ⟨hL, hPE, hTH, hTP, hDE, hLE, hNO, hAC, hRO, hRE⟩ := hR
  have h87 : (A 87).length = 9 := hL 87 (by decide)
  have r2 := REFU_at hRE (k := 2) (by decide) (by decide) hc
  have r3 := REFU_at hRE (k := 3) (by decide) (by decide) hc
  have r4 := REFU_at hRE (k := 4) (by decide) (by decide) hc
  have r5 := REFU_at hRE (k := 5) (by decide) (by decide) hc
  have r6 := REFU_at hRE (k := 6) (by decide) (by decide) hc
  have r7 := REFU_at hRE (k := 7) (by decide) (by decide) hc
  have r8 := REFU_at hRE (k := 8) (by decide) (by decide) hc
  refine R_s (P := True) (f' := (17, [some (vR 1), some (vI (F 5))], [vI (F 5)], LAY (shA A) (u (shF F) 5 0), 0, 0)) hc71 9 rfl trivial ?_
  refine R_reti hc71 rfl rfl ⟨⟨_, rfl⟩, ⟨_, _, rfl, rfl⟩, ?_⟩
  refine R_s (P := True) (f' := (11, [some (vR 88), some (vI (F 5))], [vI (F 5)], LAY (shA A) (u (u (shF F) 5 0) 24 0), 0, 0)) hc126 7 rfl trivial ?_
  refine R_reti hc126 rfl rfl ?_
  first
    | (exfalso; omega; done)
    | exact ⟨rfl, A, (u F 5 0), rfl, rfl, (REL_F hR0 (by decide))⟩

theorem op_law {c : Int} {A : Nat → List Int} {F : Nat → Int} (hR : REL c A F) (hc : c < 512) (n : Int) (i_n : inI n) : R 85 (0, L0 85 [vR 1, vI n], [], LAY (shA A) (shF F), 0, 0) (fun r G => (∃ x, r = some (vI x)) ∧ (∃ (A1 : Nat → List Int) (F1 : Nat → Int), G = LAY A1 F1 ∧ A1 0 = A 0) ∧ R 160 (0, L0 160 [vR 88, vI n], [], G, 0, 0) (fun r2 G2 => r2 = r ∧ ∃ (A' : Nat → List Int) (F' : Nat → Int), G2 = LAY (shA A') (shF F') ∧ A' 0 = A 0 ∧ REL (c + 1) A' F')) := by
  have hR0 := hR
  obtain ⟨hL, hPE, hTH, hTP, hDE, hLE, hNO, hAC, hRO, hRE⟩ := hR
  have j_n := i_n
  unfold inI at j_n
  have h87 : (A 87).length = 9 := hL 87 (by decide)
  have r2 := REFU_at hRE (k := 2) (by decide) (by decide) hc
  have r3 := REFU_at hRE (k := 3) (by decide) (by decide) hc
  have r4 := REFU_at hRE (k := 4) (by decide) (by decide) hc
  have r5 := REFU_at hRE (k := 5) (by decide) (by decide) hc
  have r6 := REFU_at hRE (k := 6) (by decide) (by decide) hc
  have r7 := REFU_at hRE (k := 7) (by decide) (by decide) hc
  have r8 := REFU_at hRE (k := 8) (by decide) (by decide) hc
  refine R_s (P := True) (f' := (2, [some (vR 1), some (vI n), none], [vI 1, vI n], LAY (shA A) (shF F), 0, 0)) hc85 2 rfl trivial ?_
  refine R_ic (t := 11) hc85 rfl rfl (fun (c1 : n < 1) => ?_) (fun (c1 : ¬ (n < 1)) => ?_)
  · refine R_s (P := True) (f' := (14, [some (vR 1), some (vI n), none], [vI (-7), vR 1], LAY (shA A) (shF F), 0, 0)) hc85 2 rfl trivial ?_
    refine R_cv hc85 rfl rfl ?_ (fun r G h => h)
    refine R_s (P := True) (f' := (3, [some (vR 1), some (vI (-7))], [vI (-2), vI (-7)], LAY (shA A) (shF F), 0, 0)) hc93 2 rfl trivial ?_
    refine R_ic (t := 23) hc93 rfl rfl (fun (z : (-2) < (-7)) => absurd z (by decide)) (fun (_ : ¬ ((-2) < (-7))) => ?_)
    refine R_s (P := True) (f' := (9, [some (vR 1), some (vI (-7))], [vI (-8), vI (-7)], LAY (shA A) (shF F), 0, 0)) hc93 2 rfl trivial ?_
    refine R_ic (t := 23) hc93 rfl rfl (fun (z : (-7) < (-8)) => absurd z (by decide)) (fun (_ : ¬ ((-7) < (-8))) => ?_)
    refine R_s (P := inI 7 ∧ (0 ≤ 7 ∧ 7 < ((A 87).length : Int)) ∧ inI ((rd (A 87) 7) + 1) ∧ (0 ≤ 7 ∧ 7 < ((A 87).length : Int)) ∧ True) (f' := (24, [some (vR 1), some (vI (-7))], [vI (-7)], LAY (u (shA A) 87 (wr (A 87) 7 ((rd (A 87) 7) + 1))) (shF F), 0, 0)) hc93 10 rfl ⟨⟨by omega, by omega⟩, ⟨by omega, by omega⟩, ⟨by omega, by omega⟩, ⟨by omega, by omega⟩, trivial⟩ ?_
    refine R_reti hc93 rfl rfl ?_
    refine R_s (f' := (17, [some (vR 1), some (vI n), none], [vI (-7)], LAY (u (shA A) 87 (wr (A 87) 7 ((rd (A 87) 7) + 1))) (shF F), 0, 0)) hc85 0 rfl trivial ?_
    refine R_reti hc85 rfl rfl ⟨⟨_, rfl⟩, ⟨_, _, rfl, rfl⟩, ?_⟩
    refine R_s (P := True) (f' := (4, [some (vR 88), some (vI n), none], [vI 99, vI 1, vI n], LAY (u (shA A) 87 (wr (A 87) 7 ((rd (A 87) 7) + 1))) (shF F), 0, 0)) hc160 3 rfl trivial ?_
    refine R_cs hc160 rfl rfl ?_ (fun r G h => h)
    refine R_s (P := True) (f' := (2, [some (vI n), some (vI 1), some (vI 99)], [vI 1, vI n], LAY (u (shA A) 87 (wr (A 87) 7 ((rd (A 87) 7) + 1))) (shF F), 0, 0)) hc104 2 rfl trivial ?_
    refine R_ic (t := 14) hc104 rfl rfl (fun (_ : n < 1) => ?_) (fun (z : ¬ (n < 1)) => absurd (show n < 1 by omega) z)
    refine R_s (P := True) (f' := (15, [some (vI n), some (vI 1), some (vI 99)], [vI 0], LAY (u (shA A) 87 (wr (A 87) 7 ((rd (A 87) 7) + 1))) (shF F), 0, 0)) hc104 1 rfl trivial ?_
    refine R_retz hc104 rfl rfl (Or.inl rfl) ?_
    refine R_s (f' := (7, [some (vR 88), some (vI n), none], [vI 0], LAY (u (shA A) 87 (wr (A 87) 7 ((rd (A 87) 7) + 1))) (shF F), 0, 0)) hc160 0 rfl trivial ?_
    refine R_if (t := 17) hc160 rfl rfl (fun (z : ¬ 0 = 0) => absurd z (by decide)) (fun (_ : ¬ (¬ 0 = 0)) => ?_)
    refine R_s (P := True) (f' := (13, [some (vR 88), some (vI n), none], [vI (-7), vR 88], LAY (u (shA A) 87 (wr (A 87) 7 ((rd (A 87) 7) + 1))) (shF F), 0, 0)) hc160 2 rfl trivial ?_
    refine R_cv hc160 rfl rfl ?_ (fun r G h => h)
    refine R_s (P := inI 7 ∧ (0 ≤ 7 ∧ 7 < ((A 87).length : Int)) ∧ inI ((rd (A 87) 7) + 1) ∧ (0 ≤ 7 ∧ 7 < ((A 87).length : Int)) ∧ True) (f' := (12, [some (vR 88), some (vI (-7))], [vI (-7)], LAY (u (u (shA A) 87 (wr (A 87) 7 ((rd (A 87) 7) + 1))) 89 (wr (A 87) 7 ((rd (A 87) 7) + 1))) (shF F), 0, 0)) hc105 10 rfl ⟨⟨by omega, by omega⟩, ⟨by omega, by omega⟩, ⟨by omega, by omega⟩, ⟨by omega, by omega⟩, trivial⟩ ?_
    refine R_reti hc105 rfl rfl ?_
    refine R_s (f' := (16, [some (vR 88), some (vI n), none], [vI (-7)], LAY (u (u (shA A) 87 (wr (A 87) 7 ((rd (A 87) 7) + 1))) 89 (wr (A 87) 7 ((rd (A 87) 7) + 1))) (shF F), 0, 0)) hc160 0 rfl trivial ?_
    refine R_reti hc160 rfl rfl ?_
    first
      | (exfalso; omega; done)
      | exact ⟨rfl, (u A 87 (wr (A 87) 7 ((rd (A 87) 7) + 1))), F, rfl, rfl, REL_ref hR0 (by decide) (by decide)⟩
  · refine R_s (P := True) (f' := (8, [some (vR 1), some (vI n), none], [vI 99, vI n], LAY (shA A) (shF F), 0, 0)) hc85 2 rfl trivial ?_
    refine R_ic (t := 18) hc85 rfl rfl (fun (c4 : n ≤ 99) => ?_) (fun (c4 : ¬ (n ≤ 99)) => ?_)
    · refine R_s (P := True) (f' := (35, [some (vR 1), some (vI n), some (vI (F 17))], [vI (F 17)], LAY (shA A) (u (shF F) 17 n), 0, 0)) hc85 9 rfl trivial ?_
      refine R_reti hc85 rfl rfl ⟨⟨_, rfl⟩, ⟨_, _, rfl, rfl⟩, ?_⟩
      refine R_s (P := True) (f' := (4, [some (vR 88), some (vI n), none], [vI 99, vI 1, vI n], LAY (shA A) (u (shF F) 17 n), 0, 0)) hc160 3 rfl trivial ?_
      refine R_cs hc160 rfl rfl ?_ (fun r G h => h)
      refine R_s (P := True) (f' := (2, [some (vI n), some (vI 1), some (vI 99)], [vI 1, vI n], LAY (shA A) (u (shF F) 17 n), 0, 0)) hc104 2 rfl trivial ?_
      refine R_ic (t := 14) hc104 rfl rfl (fun (z : n < 1) => absurd z (by omega)) (fun (_ : ¬ (n < 1)) => ?_)
      refine R_s (P := True) (f' := (7, [some (vI n), some (vI 1), some (vI 99)], [vI 99, vI n], LAY (shA A) (u (shF F) 17 n), 0, 0)) hc104 2 rfl trivial ?_
      refine R_ic (t := 14) hc104 rfl rfl (fun (z : 99 < n) => absurd z (by omega)) (fun (_ : ¬ (99 < n)) => ?_)
      refine R_s (P := True) (f' := (15, [some (vI n), some (vI 1), some (vI 99)], [vI 1], LAY (shA A) (u (shF F) 17 n), 0, 0)) hc104 2 rfl trivial ?_
      refine R_retz hc104 rfl rfl (Or.inr rfl) ?_
      refine R_s (f' := (7, [some (vR 88), some (vI n), none], [vI 1], LAY (shA A) (u (shF F) 17 n), 0, 0)) hc160 0 rfl trivial ?_
      refine R_if (t := 17) hc160 rfl rfl (fun (_ : ¬ 1 = 0) => ?_) (fun (z : ¬ (¬ 1 = 0)) => absurd (by decide) z)
      refine R_s (P := True) (f' := (28, [some (vR 88), some (vI n), some (vI (F 17))], [vI (F 17)], LAY (shA A) (u (u (shF F) 17 n) 23 n), 0, 0)) hc160 7 rfl trivial ?_
      refine R_reti hc160 rfl rfl ?_
      first
        | (exfalso; omega; done)
        | exact ⟨rfl, A, (u F 17 n), rfl, rfl, (REL_law hR0 (by omega))⟩
    · refine R_s (P := True) (f' := (14, [some (vR 1), some (vI n), none], [vI (-7), vR 1], LAY (shA A) (shF F), 0, 0)) hc85 2 rfl trivial ?_
      refine R_cv hc85 rfl rfl ?_ (fun r G h => h)
      refine R_s (P := True) (f' := (3, [some (vR 1), some (vI (-7))], [vI (-2), vI (-7)], LAY (shA A) (shF F), 0, 0)) hc93 2 rfl trivial ?_
      refine R_ic (t := 23) hc93 rfl rfl (fun (z : (-2) < (-7)) => absurd z (by decide)) (fun (_ : ¬ ((-2) < (-7))) => ?_)
      refine R_s (P := True) (f' := (9, [some (vR 1), some (vI (-7))], [vI (-8), vI (-7)], LAY (shA A) (shF F), 0, 0)) hc93 2 rfl trivial ?_
      refine R_ic (t := 23) hc93 rfl rfl (fun (z : (-7) < (-8)) => absurd z (by decide)) (fun (_ : ¬ ((-7) < (-8))) => ?_)
      refine R_s (P := inI 7 ∧ (0 ≤ 7 ∧ 7 < ((A 87).length : Int)) ∧ inI ((rd (A 87) 7) + 1) ∧ (0 ≤ 7 ∧ 7 < ((A 87).length : Int)) ∧ True) (f' := (24, [some (vR 1), some (vI (-7))], [vI (-7)], LAY (u (shA A) 87 (wr (A 87) 7 ((rd (A 87) 7) + 1))) (shF F), 0, 0)) hc93 10 rfl ⟨⟨by omega, by omega⟩, ⟨by omega, by omega⟩, ⟨by omega, by omega⟩, ⟨by omega, by omega⟩, trivial⟩ ?_
      refine R_reti hc93 rfl rfl ?_
      refine R_s (f' := (17, [some (vR 1), some (vI n), none], [vI (-7)], LAY (u (shA A) 87 (wr (A 87) 7 ((rd (A 87) 7) + 1))) (shF F), 0, 0)) hc85 0 rfl trivial ?_
      refine R_reti hc85 rfl rfl ⟨⟨_, rfl⟩, ⟨_, _, rfl, rfl⟩, ?_⟩
      refine R_s (P := True) (f' := (4, [some (vR 88), some (vI n), none], [vI 99, vI 1, vI n], LAY (u (shA A) 87 (wr (A 87) 7 ((rd (A 87) 7) + 1))) (shF F), 0, 0)) hc160 3 rfl trivial ?_
      refine R_cs hc160 rfl rfl ?_ (fun r G h => h)
      refine R_s (P := True) (f' := (2, [some (vI n), some (vI 1), some (vI 99)], [vI 1, vI n], LAY (u (shA A) 87 (wr (A 87) 7 ((rd (A 87) 7) + 1))) (shF F), 0, 0)) hc104 2 rfl trivial ?_
      refine R_ic (t := 14) hc104 rfl rfl (fun (z : n < 1) => absurd z (by omega)) (fun (_ : ¬ (n < 1)) => ?_)
      refine R_s (P := True) (f' := (7, [some (vI n), some (vI 1), some (vI 99)], [vI 99, vI n], LAY (u (shA A) 87 (wr (A 87) 7 ((rd (A 87) 7) + 1))) (shF F), 0, 0)) hc104 2 rfl trivial ?_
      refine R_ic (t := 14) hc104 rfl rfl (fun (_ : 99 < n) => ?_) (fun (z : ¬ (99 < n)) => absurd (show 99 < n by omega) z)
      refine R_s (P := True) (f' := (15, [some (vI n), some (vI 1), some (vI 99)], [vI 0], LAY (u (shA A) 87 (wr (A 87) 7 ((rd (A 87) 7) + 1))) (shF F), 0, 0)) hc104 1 rfl trivial ?_
      refine R_retz hc104 rfl rfl (Or.inl rfl) ?_
      refine R_s (f' := (7, [some (vR 88), some (vI n), none], [vI 0], LAY (u (shA A) 87 (wr (A 87) 7 ((rd (A 87) 7) + 1))) (shF F), 0, 0)) hc160 0 rfl trivial ?_
      refine R_if (t := 17) hc160 rfl rfl (fun (z : ¬ 0 = 0) => absurd z (by decide)) (fun (_ : ¬ (¬ 0 = 0)) => ?_)
      refine R_s (P := True) (f' := (13, [some (vR 88), some (vI n), none], [vI (-7), vR 88], LAY (u (shA A) 87 (wr (A 87) 7 ((rd (A 87) 7) + 1))) (shF F), 0, 0)) hc160 2 rfl trivial ?_
      refine R_cv hc160 rfl rfl ?_ (fun r G h => h)
      refine R_s (P := inI 7 ∧ (0 ≤ 7 ∧ 7 < ((A 87).length : Int)) ∧ inI ((rd (A 87) 7) + 1) ∧ (0 ≤ 7 ∧ 7 < ((A 87).length : Int)) ∧ True) (f' := (12, [some (vR 88), some (vI (-7))], [vI (-7)], LAY (u (u (shA A) 87 (wr (A 87) 7 ((rd (A 87) 7) + 1))) 89 (wr (A 87) 7 ((rd (A 87) 7) + 1))) (shF F), 0, 0)) hc105 10 rfl ⟨⟨by omega, by omega⟩, ⟨by omega, by omega⟩, ⟨by omega, by omega⟩, ⟨by omega, by omega⟩, trivial⟩ ?_
      refine R_reti hc105 rfl rfl ?_
      refine R_s (f' := (16, [some (vR 88), some (vI n), none], [vI (-7)], LAY (u (u (shA A) 87 (wr (A 87) 7 ((rd (A 87) 7) + 1))) 89 (wr (A 87) 7 ((rd (A 87) 7) + 1))) (shF F), 0, 0)) hc160 0 rfl trivial ?_
      refine R_reti hc160 rfl rfl ?_
      first
        | (exfalso; omega; done)
        | exact ⟨rfl, (u A 87 (wr (A 87) 7 ((rd (A 87) 7) + 1))), F, rfl, rfl, REL_ref hR0 (by decide) (by decide)⟩

theorem op_tear {c : Int} {A : Nat → List Int} {F : Nat → Int} (hR : REL c A F) (hc : c < 512) : R 89 (0, L0 89 [vR 1], [], LAY (shA A) (shF F), 0, 0) (fun r G => (∃ x, r = some (vI x)) ∧ (∃ (A1 : Nat → List Int) (F1 : Nat → Int), G = LAY A1 F1 ∧ A1 0 = A 0) ∧ R 165 (0, L0 165 [vR 88], [], G, 0, 0) (fun r2 G2 => r2 = r ∧ ∃ (A' : Nat → List Int) (F' : Nat → Int), G2 = LAY (shA A') (shF F') ∧ A' 0 = A 0 ∧ REL (c + 1) A' F')) := by
  have hR0 := hR
  obtain ⟨hL, hPE, hTH, hTP, hDE, hLE, hNO, hAC, hRO, hRE⟩ := hR
  have h87 : (A 87).length = 9 := hL 87 (by decide)
  have r2 := REFU_at hRE (k := 2) (by decide) (by decide) hc
  have r3 := REFU_at hRE (k := 3) (by decide) (by decide) hc
  have r4 := REFU_at hRE (k := 4) (by decide) (by decide) hc
  have r5 := REFU_at hRE (k := 5) (by decide) (by decide) hc
  have r6 := REFU_at hRE (k := 6) (by decide) (by decide) hc
  have r7 := REFU_at hRE (k := 7) (by decide) (by decide) hc
  have r8 := REFU_at hRE (k := 8) (by decide) (by decide) hc
  refine R_s (P := True) (f' := (5, [some (vR 1), none], [vI (-1), vI (F 1)], LAY (shA A) (shF F), 0, 0)) hc89 3 rfl trivial ?_
  refine R_ic (t := 12) hc89 rfl rfl (fun (c1 : F 1 = (-1)) => ?_) (fun (c1 : ¬ (F 1 = (-1))) => ?_)
  · refine R_s (P := True) (f' := (13, [some (vR 1), none], [vI 0], LAY (shA A) (shF F), 0, 0)) hc89 1 rfl trivial ?_
    refine R_cs hc89 rfl rfl ?_ (fun r G h => h)
    refine R_s (P := True) (f' := (1, [some (vI 0)], [vI 0], LAY (shA A) (shF F), 0, 0)) hc95 1 rfl trivial ?_
    refine R_if (t := 8) hc95 rfl rfl (fun (_ : 0 = 0) => ?_) (fun (z : ¬ (0 = 0)) => absurd (by decide) z)
    refine R_s (P := True) (f' := (9, [some (vI 0)], [vI 0], LAY (shA A) (shF F), 0, 0)) hc95 1 rfl trivial ?_
    refine R_reti hc95 rfl rfl ?_
    refine R_s (f' := (16, [some (vR 1), none], [vI 0], LAY (shA A) (shF F), 0, 0)) hc89 0 rfl trivial ?_
    refine R_s (P := True) (f' := (23, [some (vR 1), some (vI 0)], [vI 0], LAY (shA A) (u (shF F) 1 (-1)), 0, 0)) hc89 5 rfl trivial ?_
    refine R_reti hc89 rfl rfl ⟨⟨_, rfl⟩, ⟨_, _, rfl, rfl⟩, ?_⟩
    refine R_s (P := True) (f' := (12, [some (vR 88), some (vI (F 1))], [vI (-1), vI (F 1)], LAY (shA A) (u (u (shF F) 1 (-1)) 32 (-1)), 0, 0)) hc165 8 rfl trivial ?_
    refine R_ic (t := 19) hc165 rfl rfl (fun (z : ¬ F 1 = (-1)) => absurd z (by omega)) (fun (_ : ¬ (¬ F 1 = (-1))) => ?_)
    refine R_s (P := True) (f' := (20, [some (vR 88), some (vI (F 1))], [vI 0], LAY (shA A) (u (u (shF F) 1 (-1)) 32 (-1)), 0, 0)) hc165 2 rfl trivial ?_
    refine R_reti hc165 rfl rfl ?_
    first
      | (exfalso; omega; done)
      | exact ⟨rfl, A, (u F 1 (-1)), rfl, rfl, (REL_tear hR0)⟩
  · refine R_s (P := True) (f' := (13, [some (vR 1), none], [vI 1], LAY (shA A) (shF F), 0, 0)) hc89 2 rfl trivial ?_
    refine R_cs hc89 rfl rfl ?_ (fun r G h => h)
    refine R_s (P := True) (f' := (1, [some (vI 1)], [vI 1], LAY (shA A) (shF F), 0, 0)) hc95 1 rfl trivial ?_
    refine R_if (t := 8) hc95 rfl rfl (fun (z : 1 = 0) => absurd z (by decide)) (fun (_ : ¬ (1 = 0)) => ?_)
    refine R_s (P := True) (f' := (9, [some (vI 1)], [vI 1], LAY (shA A) (shF F), 0, 0)) hc95 2 rfl trivial ?_
    refine R_reti hc95 rfl rfl ?_
    refine R_s (f' := (16, [some (vR 1), none], [vI 1], LAY (shA A) (shF F), 0, 0)) hc89 0 rfl trivial ?_
    refine R_s (P := True) (f' := (23, [some (vR 1), some (vI 1)], [vI 1], LAY (shA A) (u (shF F) 1 (-1)), 0, 0)) hc89 5 rfl trivial ?_
    refine R_reti hc89 rfl rfl ⟨⟨_, rfl⟩, ⟨_, _, rfl, rfl⟩, ?_⟩
    refine R_s (P := True) (f' := (12, [some (vR 88), some (vI (F 1))], [vI (-1), vI (F 1)], LAY (shA A) (u (u (shF F) 1 (-1)) 32 (-1)), 0, 0)) hc165 8 rfl trivial ?_
    refine R_ic (t := 19) hc165 rfl rfl (fun (_ : ¬ F 1 = (-1)) => ?_) (fun (z : ¬ (¬ F 1 = (-1))) => absurd (show ¬ F 1 = (-1) by omega) z)
    refine R_s (P := True) (f' := (20, [some (vR 88), some (vI (F 1))], [vI 1], LAY (shA A) (u (u (shF F) 1 (-1)) 32 (-1)), 0, 0)) hc165 1 rfl trivial ?_
    refine R_reti hc165 rfl rfl ?_
    first
      | (exfalso; omega; done)
      | exact ⟨rfl, A, (u F 1 (-1)), rfl, rfl, (REL_tear hR0)⟩

theorem op_row {c : Int} {A : Nat → List Int} {F : Nat → Int} (hR : REL c A F) (hc : c < 512) (i : Int) (i_i : inI i) : R 90 (0, L0 90 [vR 1, vI i], [], LAY (shA A) (shF F), 0, 0) (fun r G => (∃ x, r = some (vI x)) ∧ (∃ (A1 : Nat → List Int) (F1 : Nat → Int), G = LAY A1 F1 ∧ A1 0 = A 0) ∧ R 166 (0, L0 166 [vR 88, vI i], [], G, 0, 0) (fun r2 G2 => r2 = r ∧ ∃ (A' : Nat → List Int) (F' : Nat → Int), G2 = LAY (shA A') (shF F') ∧ A' 0 = A 0 ∧ REL (c + 1) A' F')) := by
  have hR0 := hR
  obtain ⟨hL, hPE, hTH, hTP, hDE, hLE, hNO, hAC, hRO, hRE⟩ := hR
  have j_i := i_i
  unfold inI at j_i
  have h87 : (A 87).length = 9 := hL 87 (by decide)
  have h86 : (A 86).length = 30 := hL 86 (by decide)
  have r2 := REFU_at hRE (k := 2) (by decide) (by decide) hc
  have r3 := REFU_at hRE (k := 3) (by decide) (by decide) hc
  have r4 := REFU_at hRE (k := 4) (by decide) (by decide) hc
  have r5 := REFU_at hRE (k := 5) (by decide) (by decide) hc
  have r6 := REFU_at hRE (k := 6) (by decide) (by decide) hc
  have r7 := REFU_at hRE (k := 7) (by decide) (by decide) hc
  have r8 := REFU_at hRE (k := 8) (by decide) (by decide) hc
  refine R_s (P := True) (f' := (5, [some (vR 1), some (vI i)], [vI (-1), vI (F 1)], LAY (shA A) (shF F), 0, 0)) hc90 3 rfl trivial ?_
  refine R_ic (t := 15) hc90 rfl rfl (fun (c1 : ¬ F 1 = (-1)) => ?_) (fun (c1 : ¬ (¬ F 1 = (-1))) => ?_)
  · refine R_s (P := True) (f' := (16, [some (vR 1), some (vI i)], [vI i], LAY (shA A) (shF F), 0, 0)) hc90 1 rfl trivial ?_
    refine R_if (t := 27) hc90 rfl rfl (fun (c2 : i < 0) => ?_) (fun (c2 : ¬ (i < 0)) => ?_)
    · refine R_s (P := True) (f' := (30, [some (vR 1), some (vI i)], [vI (-3), vR 1], LAY (shA A) (shF F), 0, 0)) hc90 2 rfl trivial ?_
      refine R_cv hc90 rfl rfl ?_ (fun r G h => h)
      refine R_s (P := True) (f' := (3, [some (vR 1), some (vI (-3))], [vI (-2), vI (-3)], LAY (shA A) (shF F), 0, 0)) hc93 2 rfl trivial ?_
      refine R_ic (t := 23) hc93 rfl rfl (fun (z : (-2) < (-3)) => absurd z (by decide)) (fun (_ : ¬ ((-2) < (-3))) => ?_)
      refine R_s (P := True) (f' := (9, [some (vR 1), some (vI (-3))], [vI (-8), vI (-3)], LAY (shA A) (shF F), 0, 0)) hc93 2 rfl trivial ?_
      refine R_ic (t := 23) hc93 rfl rfl (fun (z : (-3) < (-8)) => absurd z (by decide)) (fun (_ : ¬ ((-3) < (-8))) => ?_)
      refine R_s (P := inI 3 ∧ (0 ≤ 3 ∧ 3 < ((A 87).length : Int)) ∧ inI ((rd (A 87) 3) + 1) ∧ (0 ≤ 3 ∧ 3 < ((A 87).length : Int)) ∧ True) (f' := (24, [some (vR 1), some (vI (-3))], [vI (-3)], LAY (u (shA A) 87 (wr (A 87) 3 ((rd (A 87) 3) + 1))) (shF F), 0, 0)) hc93 10 rfl ⟨⟨by omega, by omega⟩, ⟨by omega, by omega⟩, ⟨by omega, by omega⟩, ⟨by omega, by omega⟩, trivial⟩ ?_
      refine R_reti hc93 rfl rfl ?_
      refine R_s (f' := (33, [some (vR 1), some (vI i)], [vI (-3)], LAY (u (shA A) 87 (wr (A 87) 3 ((rd (A 87) 3) + 1))) (shF F), 0, 0)) hc90 0 rfl trivial ?_
      refine R_reti hc90 rfl rfl ⟨⟨_, rfl⟩, ⟨_, _, rfl, rfl⟩, ?_⟩
      refine R_s (P := True) (f' := (5, [some (vR 88), some (vI i)], [vI (-1), vI (F 1)], LAY (u (shA A) 87 (wr (A 87) 3 ((rd (A 87) 3) + 1))) (shF F), 0, 0)) hc166 3 rfl trivial ?_
      refine R_ic (t := 15) hc166 rfl rfl (fun (_ : ¬ F 1 = (-1)) => ?_) (fun (z : ¬ (¬ F 1 = (-1))) => absurd (show ¬ F 1 = (-1) by omega) z)
      refine R_s (P := inI ((F 1) - 1) ∧ True) (f' := (23, [some (vR 88), some (vI i)], [vI ((F 1) - 1), vI 0, vI i], LAY (u (shA A) 87 (wr (A 87) 3 ((rd (A 87) 3) + 1))) (shF F), 0, 0)) hc166 6 rfl ⟨⟨by omega, by omega⟩, trivial⟩ ?_
      refine R_cs hc166 rfl rfl ?_ (fun r G h => h)
      refine R_s (P := True) (f' := (2, [some (vI i), some (vI 0), some (vI ((F 1) - 1))], [vI 0, vI i], LAY (u (shA A) 87 (wr (A 87) 3 ((rd (A 87) 3) + 1))) (shF F), 0, 0)) hc104 2 rfl trivial ?_
      refine R_ic (t := 14) hc104 rfl rfl (fun (_ : i < 0) => ?_) (fun (z : ¬ (i < 0)) => absurd (show i < 0 by omega) z)
      refine R_s (P := True) (f' := (15, [some (vI i), some (vI 0), some (vI ((F 1) - 1))], [vI 0], LAY (u (shA A) 87 (wr (A 87) 3 ((rd (A 87) 3) + 1))) (shF F), 0, 0)) hc104 1 rfl trivial ?_
      refine R_retz hc104 rfl rfl (Or.inl rfl) ?_
      refine R_s (f' := (26, [some (vR 88), some (vI i)], [vI 0], LAY (u (shA A) 87 (wr (A 87) 3 ((rd (A 87) 3) + 1))) (shF F), 0, 0)) hc166 0 rfl trivial ?_
      refine R_if (t := 38) hc166 rfl rfl (fun (_ : 0 = 0) => ?_) (fun (z : ¬ (0 = 0)) => absurd (by decide) z)
      refine R_s (P := True) (f' := (41, [some (vR 88), some (vI i)], [vI (-3), vR 88], LAY (u (shA A) 87 (wr (A 87) 3 ((rd (A 87) 3) + 1))) (shF F), 0, 0)) hc166 2 rfl trivial ?_
      refine R_cv hc166 rfl rfl ?_ (fun r G h => h)
      refine R_s (P := inI 3 ∧ (0 ≤ 3 ∧ 3 < ((A 87).length : Int)) ∧ inI ((rd (A 87) 3) + 1) ∧ (0 ≤ 3 ∧ 3 < ((A 87).length : Int)) ∧ True) (f' := (12, [some (vR 88), some (vI (-3))], [vI (-3)], LAY (u (u (shA A) 87 (wr (A 87) 3 ((rd (A 87) 3) + 1))) 89 (wr (A 87) 3 ((rd (A 87) 3) + 1))) (shF F), 0, 0)) hc105 10 rfl ⟨⟨by omega, by omega⟩, ⟨by omega, by omega⟩, ⟨by omega, by omega⟩, ⟨by omega, by omega⟩, trivial⟩ ?_
      refine R_reti hc105 rfl rfl ?_
      refine R_s (f' := (44, [some (vR 88), some (vI i)], [vI (-3)], LAY (u (u (shA A) 87 (wr (A 87) 3 ((rd (A 87) 3) + 1))) 89 (wr (A 87) 3 ((rd (A 87) 3) + 1))) (shF F), 0, 0)) hc166 0 rfl trivial ?_
      refine R_reti hc166 rfl rfl ?_
      first
        | (exfalso; omega; done)
        | exact ⟨rfl, (u A 87 (wr (A 87) 3 ((rd (A 87) 3) + 1))), F, rfl, rfl, REL_ref hR0 (by decide) (by decide)⟩
    · refine R_s (P := True) (f' := (24, [some (vR 1), some (vI i)], [vI (F 1), vI i], LAY (shA A) (shF F), 0, 0)) hc90 3 rfl trivial ?_
      refine R_ic (t := 34) hc90 rfl rfl (fun (c5 : i < F 1) => ?_) (fun (c5 : ¬ (i < F 1)) => ?_)
      · refine R_s (P := (0 ≤ i ∧ i < ((A 86).length : Int)) ∧ True) (f' := (40, [some (vR 1), some (vI i)], [vI (rd (A 86) i)], LAY (shA A) (shF F), 0, 0)) hc90 4 rfl ⟨⟨by omega, by omega⟩, trivial⟩ ?_
        refine R_reti hc90 rfl rfl ⟨⟨_, rfl⟩, ⟨_, _, rfl, rfl⟩, ?_⟩
        refine R_s (P := True) (f' := (5, [some (vR 88), some (vI i)], [vI (-1), vI (F 1)], LAY (shA A) (shF F), 0, 0)) hc166 3 rfl trivial ?_
        refine R_ic (t := 15) hc166 rfl rfl (fun (_ : ¬ F 1 = (-1)) => ?_) (fun (z : ¬ (¬ F 1 = (-1))) => absurd (show ¬ F 1 = (-1) by omega) z)
        refine R_s (P := inI ((F 1) - 1) ∧ True) (f' := (23, [some (vR 88), some (vI i)], [vI ((F 1) - 1), vI 0, vI i], LAY (shA A) (shF F), 0, 0)) hc166 6 rfl ⟨⟨by omega, by omega⟩, trivial⟩ ?_
        refine R_cs hc166 rfl rfl ?_ (fun r G h => h)
        refine R_s (P := True) (f' := (2, [some (vI i), some (vI 0), some (vI ((F 1) - 1))], [vI 0, vI i], LAY (shA A) (shF F), 0, 0)) hc104 2 rfl trivial ?_
        refine R_ic (t := 14) hc104 rfl rfl (fun (z : i < 0) => absurd z (by omega)) (fun (_ : ¬ (i < 0)) => ?_)
        refine R_s (P := True) (f' := (7, [some (vI i), some (vI 0), some (vI ((F 1) - 1))], [vI ((F 1) - 1), vI i], LAY (shA A) (shF F), 0, 0)) hc104 2 rfl trivial ?_
        refine R_ic (t := 14) hc104 rfl rfl (fun (z : (F 1) - 1 < i) => absurd z (by omega)) (fun (_ : ¬ ((F 1) - 1 < i)) => ?_)
        refine R_s (P := True) (f' := (15, [some (vI i), some (vI 0), some (vI ((F 1) - 1))], [vI 1], LAY (shA A) (shF F), 0, 0)) hc104 2 rfl trivial ?_
        refine R_retz hc104 rfl rfl (Or.inr rfl) ?_
        refine R_s (f' := (26, [some (vR 88), some (vI i)], [vI 1], LAY (shA A) (shF F), 0, 0)) hc166 0 rfl trivial ?_
        refine R_if (t := 38) hc166 rfl rfl (fun (z : 1 = 0) => absurd z (by decide)) (fun (_ : ¬ (1 = 0)) => ?_)
        refine R_s (P := (0 ≤ i ∧ i < ((A 86).length : Int)) ∧ True) (f' := (44, [some (vR 88), some (vI i)], [vI (rd (A 86) i)], LAY (shA A) (shF F), 0, 0)) hc166 5 rfl ⟨⟨by omega, by omega⟩, trivial⟩ ?_
        refine R_reti hc166 rfl rfl ?_
        first
          | (exfalso; omega; done)
          | exact ⟨rfl, A, F, rfl, rfl, REL_c hR0⟩
      · refine R_s (P := True) (f' := (30, [some (vR 1), some (vI i)], [vI (-3), vR 1], LAY (shA A) (shF F), 0, 0)) hc90 2 rfl trivial ?_
        refine R_cv hc90 rfl rfl ?_ (fun r G h => h)
        refine R_s (P := True) (f' := (3, [some (vR 1), some (vI (-3))], [vI (-2), vI (-3)], LAY (shA A) (shF F), 0, 0)) hc93 2 rfl trivial ?_
        refine R_ic (t := 23) hc93 rfl rfl (fun (z : (-2) < (-3)) => absurd z (by decide)) (fun (_ : ¬ ((-2) < (-3))) => ?_)
        refine R_s (P := True) (f' := (9, [some (vR 1), some (vI (-3))], [vI (-8), vI (-3)], LAY (shA A) (shF F), 0, 0)) hc93 2 rfl trivial ?_
        refine R_ic (t := 23) hc93 rfl rfl (fun (z : (-3) < (-8)) => absurd z (by decide)) (fun (_ : ¬ ((-3) < (-8))) => ?_)
        refine R_s (P := inI 3 ∧ (0 ≤ 3 ∧ 3 < ((A 87).length : Int)) ∧ inI ((rd (A 87) 3) + 1) ∧ (0 ≤ 3 ∧ 3 < ((A 87).length : Int)) ∧ True) (f' := (24, [some (vR 1), some (vI (-3))], [vI (-3)], LAY (u (shA A) 87 (wr (A 87) 3 ((rd (A 87) 3) + 1))) (shF F), 0, 0)) hc93 10 rfl ⟨⟨by omega, by omega⟩, ⟨by omega, by omega⟩, ⟨by omega, by omega⟩, ⟨by omega, by omega⟩, trivial⟩ ?_
        refine R_reti hc93 rfl rfl ?_
        refine R_s (f' := (33, [some (vR 1), some (vI i)], [vI (-3)], LAY (u (shA A) 87 (wr (A 87) 3 ((rd (A 87) 3) + 1))) (shF F), 0, 0)) hc90 0 rfl trivial ?_
        refine R_reti hc90 rfl rfl ⟨⟨_, rfl⟩, ⟨_, _, rfl, rfl⟩, ?_⟩
        refine R_s (P := True) (f' := (5, [some (vR 88), some (vI i)], [vI (-1), vI (F 1)], LAY (u (shA A) 87 (wr (A 87) 3 ((rd (A 87) 3) + 1))) (shF F), 0, 0)) hc166 3 rfl trivial ?_
        refine R_ic (t := 15) hc166 rfl rfl (fun (_ : ¬ F 1 = (-1)) => ?_) (fun (z : ¬ (¬ F 1 = (-1))) => absurd (show ¬ F 1 = (-1) by omega) z)
        refine R_s (P := inI ((F 1) - 1) ∧ True) (f' := (23, [some (vR 88), some (vI i)], [vI ((F 1) - 1), vI 0, vI i], LAY (u (shA A) 87 (wr (A 87) 3 ((rd (A 87) 3) + 1))) (shF F), 0, 0)) hc166 6 rfl ⟨⟨by omega, by omega⟩, trivial⟩ ?_
        refine R_cs hc166 rfl rfl ?_ (fun r G h => h)
        refine R_s (P := True) (f' := (2, [some (vI i), some (vI 0), some (vI ((F 1) - 1))], [vI 0, vI i], LAY (u (shA A) 87 (wr (A 87) 3 ((rd (A 87) 3) + 1))) (shF F), 0, 0)) hc104 2 rfl trivial ?_
        refine R_ic (t := 14) hc104 rfl rfl (fun (z : i < 0) => absurd z (by omega)) (fun (_ : ¬ (i < 0)) => ?_)
        refine R_s (P := True) (f' := (7, [some (vI i), some (vI 0), some (vI ((F 1) - 1))], [vI ((F 1) - 1), vI i], LAY (u (shA A) 87 (wr (A 87) 3 ((rd (A 87) 3) + 1))) (shF F), 0, 0)) hc104 2 rfl trivial ?_
        refine R_ic (t := 14) hc104 rfl rfl (fun (_ : (F 1) - 1 < i) => ?_) (fun (z : ¬ ((F 1) - 1 < i)) => absurd (show (F 1) - 1 < i by omega) z)
        refine R_s (P := True) (f' := (15, [some (vI i), some (vI 0), some (vI ((F 1) - 1))], [vI 0], LAY (u (shA A) 87 (wr (A 87) 3 ((rd (A 87) 3) + 1))) (shF F), 0, 0)) hc104 1 rfl trivial ?_
        refine R_retz hc104 rfl rfl (Or.inl rfl) ?_
        refine R_s (f' := (26, [some (vR 88), some (vI i)], [vI 0], LAY (u (shA A) 87 (wr (A 87) 3 ((rd (A 87) 3) + 1))) (shF F), 0, 0)) hc166 0 rfl trivial ?_
        refine R_if (t := 38) hc166 rfl rfl (fun (_ : 0 = 0) => ?_) (fun (z : ¬ (0 = 0)) => absurd (by decide) z)
        refine R_s (P := True) (f' := (41, [some (vR 88), some (vI i)], [vI (-3), vR 88], LAY (u (shA A) 87 (wr (A 87) 3 ((rd (A 87) 3) + 1))) (shF F), 0, 0)) hc166 2 rfl trivial ?_
        refine R_cv hc166 rfl rfl ?_ (fun r G h => h)
        refine R_s (P := inI 3 ∧ (0 ≤ 3 ∧ 3 < ((A 87).length : Int)) ∧ inI ((rd (A 87) 3) + 1) ∧ (0 ≤ 3 ∧ 3 < ((A 87).length : Int)) ∧ True) (f' := (12, [some (vR 88), some (vI (-3))], [vI (-3)], LAY (u (u (shA A) 87 (wr (A 87) 3 ((rd (A 87) 3) + 1))) 89 (wr (A 87) 3 ((rd (A 87) 3) + 1))) (shF F), 0, 0)) hc105 10 rfl ⟨⟨by omega, by omega⟩, ⟨by omega, by omega⟩, ⟨by omega, by omega⟩, ⟨by omega, by omega⟩, trivial⟩ ?_
        refine R_reti hc105 rfl rfl ?_
        refine R_s (f' := (44, [some (vR 88), some (vI i)], [vI (-3)], LAY (u (u (shA A) 87 (wr (A 87) 3 ((rd (A 87) 3) + 1))) 89 (wr (A 87) 3 ((rd (A 87) 3) + 1))) (shF F), 0, 0)) hc166 0 rfl trivial ?_
        refine R_reti hc166 rfl rfl ?_
        first
          | (exfalso; omega; done)
          | exact ⟨rfl, (u A 87 (wr (A 87) 3 ((rd (A 87) 3) + 1))), F, rfl, rfl, REL_ref hR0 (by decide) (by decide)⟩
  · refine R_s (P := True) (f' := (11, [some (vR 1), some (vI i)], [vI (-2), vR 1], LAY (shA A) (shF F), 0, 0)) hc90 2 rfl trivial ?_
    refine R_cv hc90 rfl rfl ?_ (fun r G h => h)
    refine R_s (P := True) (f' := (3, [some (vR 1), some (vI (-2))], [vI (-2), vI (-2)], LAY (shA A) (shF F), 0, 0)) hc93 2 rfl trivial ?_
    refine R_ic (t := 23) hc93 rfl rfl (fun (z : (-2) < (-2)) => absurd z (by decide)) (fun (_ : ¬ ((-2) < (-2))) => ?_)
    refine R_s (P := True) (f' := (9, [some (vR 1), some (vI (-2))], [vI (-8), vI (-2)], LAY (shA A) (shF F), 0, 0)) hc93 2 rfl trivial ?_
    refine R_ic (t := 23) hc93 rfl rfl (fun (z : (-2) < (-8)) => absurd z (by decide)) (fun (_ : ¬ ((-2) < (-8))) => ?_)
    refine R_s (P := inI 2 ∧ (0 ≤ 2 ∧ 2 < ((A 87).length : Int)) ∧ inI ((rd (A 87) 2) + 1) ∧ (0 ≤ 2 ∧ 2 < ((A 87).length : Int)) ∧ True) (f' := (24, [some (vR 1), some (vI (-2))], [vI (-2)], LAY (u (shA A) 87 (wr (A 87) 2 ((rd (A 87) 2) + 1))) (shF F), 0, 0)) hc93 10 rfl ⟨⟨by omega, by omega⟩, ⟨by omega, by omega⟩, ⟨by omega, by omega⟩, ⟨by omega, by omega⟩, trivial⟩ ?_
    refine R_reti hc93 rfl rfl ?_
    refine R_s (f' := (14, [some (vR 1), some (vI i)], [vI (-2)], LAY (u (shA A) 87 (wr (A 87) 2 ((rd (A 87) 2) + 1))) (shF F), 0, 0)) hc90 0 rfl trivial ?_
    refine R_reti hc90 rfl rfl ⟨⟨_, rfl⟩, ⟨_, _, rfl, rfl⟩, ?_⟩
    refine R_s (P := True) (f' := (5, [some (vR 88), some (vI i)], [vI (-1), vI (F 1)], LAY (u (shA A) 87 (wr (A 87) 2 ((rd (A 87) 2) + 1))) (shF F), 0, 0)) hc166 3 rfl trivial ?_
    refine R_ic (t := 15) hc166 rfl rfl (fun (z : ¬ F 1 = (-1)) => absurd z (by omega)) (fun (_ : ¬ (¬ F 1 = (-1))) => ?_)
    refine R_s (P := True) (f' := (11, [some (vR 88), some (vI i)], [vI (-2), vR 88], LAY (u (shA A) 87 (wr (A 87) 2 ((rd (A 87) 2) + 1))) (shF F), 0, 0)) hc166 2 rfl trivial ?_
    refine R_cv hc166 rfl rfl ?_ (fun r G h => h)
    refine R_s (P := inI 2 ∧ (0 ≤ 2 ∧ 2 < ((A 87).length : Int)) ∧ inI ((rd (A 87) 2) + 1) ∧ (0 ≤ 2 ∧ 2 < ((A 87).length : Int)) ∧ True) (f' := (12, [some (vR 88), some (vI (-2))], [vI (-2)], LAY (u (u (shA A) 87 (wr (A 87) 2 ((rd (A 87) 2) + 1))) 89 (wr (A 87) 2 ((rd (A 87) 2) + 1))) (shF F), 0, 0)) hc105 10 rfl ⟨⟨by omega, by omega⟩, ⟨by omega, by omega⟩, ⟨by omega, by omega⟩, ⟨by omega, by omega⟩, trivial⟩ ?_
    refine R_reti hc105 rfl rfl ?_
    refine R_s (f' := (14, [some (vR 88), some (vI i)], [vI (-2)], LAY (u (u (shA A) 87 (wr (A 87) 2 ((rd (A 87) 2) + 1))) 89 (wr (A 87) 2 ((rd (A 87) 2) + 1))) (shF F), 0, 0)) hc166 0 rfl trivial ?_
    refine R_reti hc166 rfl rfl ?_
    first
      | (exfalso; omega; done)
      | exact ⟨rfl, (u A 87 (wr (A 87) 2 ((rd (A 87) 2) + 1))), F, rfl, rfl, REL_ref hR0 (by decide) (by decide)⟩

theorem op_status {c : Int} {A : Nat → List Int} {F : Nat → Int} (hR : REL c A F) (hc : c < 512) (b : Int) (i_b : inI b) : R 92 (0, L0 92 [vR 1, vI b], [], LAY (shA A) (shF F), 0, 0) (fun r G => (∃ x, r = some (vI x)) ∧ (∃ (A1 : Nat → List Int) (F1 : Nat → Int), G = LAY A1 F1 ∧ A1 0 = A 0) ∧ R 168 (0, L0 168 [vR 88, vI b], [], G, 0, 0) (fun r2 G2 => r2 = r ∧ ∃ (A' : Nat → List Int) (F' : Nat → Int), G2 = LAY (shA A') (shF F') ∧ A' 0 = A 0 ∧ REL (c + 1) A' F')) := by
  have hR0 := hR
  obtain ⟨hL, hPE, hTH, hTP, hDE, hLE, hNO, hAC, hRO, hRE⟩ := hR
  have j_b := i_b
  unfold inI at j_b
  have h87 : (A 87).length = 9 := hL 87 (by decide)
  have r2 := REFU_at hRE (k := 2) (by decide) (by decide) hc
  have r3 := REFU_at hRE (k := 3) (by decide) (by decide) hc
  have r4 := REFU_at hRE (k := 4) (by decide) (by decide) hc
  have r5 := REFU_at hRE (k := 5) (by decide) (by decide) hc
  have r6 := REFU_at hRE (k := 6) (by decide) (by decide) hc
  have r7 := REFU_at hRE (k := 7) (by decide) (by decide) hc
  have r8 := REFU_at hRE (k := 8) (by decide) (by decide) hc
  refine R_s (P := True) (f' := (3, [some (vR 1), some (vI b)], [vI (-2), vI b], LAY (shA A) (shF F), 0, 0)) hc92 2 rfl trivial ?_
  refine R_ic (t := 12) hc92 rfl rfl (fun (c1 : (-2) < b) => ?_) (fun (c1 : ¬ ((-2) < b)) => ?_)
  · refine R_s (P := True) (f' := (15, [some (vR 1), some (vI b)], [vI (-7), vR 1], LAY (shA A) (shF F), 0, 0)) hc92 2 rfl trivial ?_
    refine R_cv hc92 rfl rfl ?_ (fun r G h => h)
    refine R_s (P := True) (f' := (3, [some (vR 1), some (vI (-7))], [vI (-2), vI (-7)], LAY (shA A) (shF F), 0, 0)) hc93 2 rfl trivial ?_
    refine R_ic (t := 23) hc93 rfl rfl (fun (z : (-2) < (-7)) => absurd z (by decide)) (fun (_ : ¬ ((-2) < (-7))) => ?_)
    refine R_s (P := True) (f' := (9, [some (vR 1), some (vI (-7))], [vI (-8), vI (-7)], LAY (shA A) (shF F), 0, 0)) hc93 2 rfl trivial ?_
    refine R_ic (t := 23) hc93 rfl rfl (fun (z : (-7) < (-8)) => absurd z (by decide)) (fun (_ : ¬ ((-7) < (-8))) => ?_)
    refine R_s (P := inI 7 ∧ (0 ≤ 7 ∧ 7 < ((A 87).length : Int)) ∧ inI ((rd (A 87) 7) + 1) ∧ (0 ≤ 7 ∧ 7 < ((A 87).length : Int)) ∧ True) (f' := (24, [some (vR 1), some (vI (-7))], [vI (-7)], LAY (u (shA A) 87 (wr (A 87) 7 ((rd (A 87) 7) + 1))) (shF F), 0, 0)) hc93 10 rfl ⟨⟨by omega, by omega⟩, ⟨by omega, by omega⟩, ⟨by omega, by omega⟩, ⟨by omega, by omega⟩, trivial⟩ ?_
    refine R_reti hc93 rfl rfl ?_
    refine R_s (f' := (18, [some (vR 1), some (vI b)], [vI (-7)], LAY (u (shA A) 87 (wr (A 87) 7 ((rd (A 87) 7) + 1))) (shF F), 0, 0)) hc92 0 rfl trivial ?_
    refine R_reti hc92 rfl rfl ⟨⟨_, rfl⟩, ⟨_, _, rfl, rfl⟩, ?_⟩
    refine R_s (P := True) (f' := (5, [some (vR 88), some (vI b)], [vI (-2), vI (-8), vI b], LAY (u (shA A) 87 (wr (A 87) 7 ((rd (A 87) 7) + 1))) (shF F), 0, 0)) hc168 3 rfl trivial ?_
    refine R_cs hc168 rfl rfl ?_ (fun r G h => h)
    refine R_s (P := True) (f' := (2, [some (vI b), some (vI (-8)), some (vI (-2))], [vI (-8), vI b], LAY (u (shA A) 87 (wr (A 87) 7 ((rd (A 87) 7) + 1))) (shF F), 0, 0)) hc104 2 rfl trivial ?_
    refine R_ic (t := 14) hc104 rfl rfl (fun (z : b < (-8)) => absurd z (by omega)) (fun (_ : ¬ (b < (-8))) => ?_)
    refine R_s (P := True) (f' := (7, [some (vI b), some (vI (-8)), some (vI (-2))], [vI (-2), vI b], LAY (u (shA A) 87 (wr (A 87) 7 ((rd (A 87) 7) + 1))) (shF F), 0, 0)) hc104 2 rfl trivial ?_
    refine R_ic (t := 14) hc104 rfl rfl (fun (_ : (-2) < b) => ?_) (fun (z : ¬ ((-2) < b)) => absurd (show (-2) < b by omega) z)
    refine R_s (P := True) (f' := (15, [some (vI b), some (vI (-8)), some (vI (-2))], [vI 0], LAY (u (shA A) 87 (wr (A 87) 7 ((rd (A 87) 7) + 1))) (shF F), 0, 0)) hc104 1 rfl trivial ?_
    refine R_retz hc104 rfl rfl (Or.inl rfl) ?_
    refine R_s (f' := (8, [some (vR 88), some (vI b)], [vI 0], LAY (u (shA A) 87 (wr (A 87) 7 ((rd (A 87) 7) + 1))) (shF F), 0, 0)) hc168 0 rfl trivial ?_
    refine R_if (t := 21) hc168 rfl rfl (fun (_ : 0 = 0) => ?_) (fun (z : ¬ (0 = 0)) => absurd (by decide) z)
    refine R_s (P := True) (f' := (24, [some (vR 88), some (vI b)], [vI (-7), vR 88], LAY (u (shA A) 87 (wr (A 87) 7 ((rd (A 87) 7) + 1))) (shF F), 0, 0)) hc168 2 rfl trivial ?_
    refine R_cv hc168 rfl rfl ?_ (fun r G h => h)
    refine R_s (P := inI 7 ∧ (0 ≤ 7 ∧ 7 < ((A 87).length : Int)) ∧ inI ((rd (A 87) 7) + 1) ∧ (0 ≤ 7 ∧ 7 < ((A 87).length : Int)) ∧ True) (f' := (12, [some (vR 88), some (vI (-7))], [vI (-7)], LAY (u (u (shA A) 87 (wr (A 87) 7 ((rd (A 87) 7) + 1))) 89 (wr (A 87) 7 ((rd (A 87) 7) + 1))) (shF F), 0, 0)) hc105 10 rfl ⟨⟨by omega, by omega⟩, ⟨by omega, by omega⟩, ⟨by omega, by omega⟩, ⟨by omega, by omega⟩, trivial⟩ ?_
    refine R_reti hc105 rfl rfl ?_
    refine R_s (f' := (27, [some (vR 88), some (vI b)], [vI (-7)], LAY (u (u (shA A) 87 (wr (A 87) 7 ((rd (A 87) 7) + 1))) 89 (wr (A 87) 7 ((rd (A 87) 7) + 1))) (shF F), 0, 0)) hc168 0 rfl trivial ?_
    refine R_reti hc168 rfl rfl ?_
    first
      | (exfalso; omega; done)
      | exact ⟨rfl, (u A 87 (wr (A 87) 7 ((rd (A 87) 7) + 1))), F, rfl, rfl, REL_ref hR0 (by decide) (by decide)⟩
  · refine R_s (P := True) (f' := (9, [some (vR 1), some (vI b)], [vI (-8), vI b], LAY (shA A) (shF F), 0, 0)) hc92 2 rfl trivial ?_
    refine R_ic (t := 19) hc92 rfl rfl (fun (c4 : (-8) ≤ b) => ?_) (fun (c4 : ¬ ((-8) ≤ b)) => ?_)
    · refine R_s (P := inI (-b) ∧ (0 ≤ -b ∧ -b < ((A 87).length : Int)) ∧ True) (f' := (26, [some (vR 1), some (vI b)], [vI (rd (A 87) (-b))], LAY (shA A) (shF F), 0, 0)) hc92 5 rfl ⟨⟨by omega, by omega⟩, ⟨by omega, by omega⟩, trivial⟩ ?_
      refine R_reti hc92 rfl rfl ⟨⟨_, rfl⟩, ⟨_, _, rfl, rfl⟩, ?_⟩
      refine R_s (P := True) (f' := (5, [some (vR 88), some (vI b)], [vI (-2), vI (-8), vI b], LAY (shA A) (shF F), 0, 0)) hc168 3 rfl trivial ?_
      refine R_cs hc168 rfl rfl ?_ (fun r G h => h)
      refine R_s (P := True) (f' := (2, [some (vI b), some (vI (-8)), some (vI (-2))], [vI (-8), vI b], LAY (shA A) (shF F), 0, 0)) hc104 2 rfl trivial ?_
      refine R_ic (t := 14) hc104 rfl rfl (fun (z : b < (-8)) => absurd z (by omega)) (fun (_ : ¬ (b < (-8))) => ?_)
      refine R_s (P := True) (f' := (7, [some (vI b), some (vI (-8)), some (vI (-2))], [vI (-2), vI b], LAY (shA A) (shF F), 0, 0)) hc104 2 rfl trivial ?_
      refine R_ic (t := 14) hc104 rfl rfl (fun (z : (-2) < b) => absurd z (by omega)) (fun (_ : ¬ ((-2) < b)) => ?_)
      refine R_s (P := True) (f' := (15, [some (vI b), some (vI (-8)), some (vI (-2))], [vI 1], LAY (shA A) (shF F), 0, 0)) hc104 2 rfl trivial ?_
      refine R_retz hc104 rfl rfl (Or.inr rfl) ?_
      refine R_s (f' := (8, [some (vR 88), some (vI b)], [vI 1], LAY (shA A) (shF F), 0, 0)) hc168 0 rfl trivial ?_
      refine R_if (t := 21) hc168 rfl rfl (fun (z : 1 = 0) => absurd z (by decide)) (fun (_ : ¬ (1 = 0)) => ?_)
      refine R_s (P := inI (-b) ∧ (0 ≤ -b ∧ -b < ((A 87).length : Int)) ∧ True) (f' := (27, [some (vR 88), some (vI b)], [vI (rd (A 87) (-b))], LAY (shA A) (shF F), 0, 0)) hc168 6 rfl ⟨⟨by omega, by omega⟩, ⟨by omega, by omega⟩, trivial⟩ ?_
      refine R_reti hc168 rfl rfl ?_
      first
        | (exfalso; omega; done)
        | exact ⟨rfl, A, F, rfl, rfl, REL_c hR0⟩
    · refine R_s (P := True) (f' := (15, [some (vR 1), some (vI b)], [vI (-7), vR 1], LAY (shA A) (shF F), 0, 0)) hc92 2 rfl trivial ?_
      refine R_cv hc92 rfl rfl ?_ (fun r G h => h)
      refine R_s (P := True) (f' := (3, [some (vR 1), some (vI (-7))], [vI (-2), vI (-7)], LAY (shA A) (shF F), 0, 0)) hc93 2 rfl trivial ?_
      refine R_ic (t := 23) hc93 rfl rfl (fun (z : (-2) < (-7)) => absurd z (by decide)) (fun (_ : ¬ ((-2) < (-7))) => ?_)
      refine R_s (P := True) (f' := (9, [some (vR 1), some (vI (-7))], [vI (-8), vI (-7)], LAY (shA A) (shF F), 0, 0)) hc93 2 rfl trivial ?_
      refine R_ic (t := 23) hc93 rfl rfl (fun (z : (-7) < (-8)) => absurd z (by decide)) (fun (_ : ¬ ((-7) < (-8))) => ?_)
      refine R_s (P := inI 7 ∧ (0 ≤ 7 ∧ 7 < ((A 87).length : Int)) ∧ inI ((rd (A 87) 7) + 1) ∧ (0 ≤ 7 ∧ 7 < ((A 87).length : Int)) ∧ True) (f' := (24, [some (vR 1), some (vI (-7))], [vI (-7)], LAY (u (shA A) 87 (wr (A 87) 7 ((rd (A 87) 7) + 1))) (shF F), 0, 0)) hc93 10 rfl ⟨⟨by omega, by omega⟩, ⟨by omega, by omega⟩, ⟨by omega, by omega⟩, ⟨by omega, by omega⟩, trivial⟩ ?_
      refine R_reti hc93 rfl rfl ?_
      refine R_s (f' := (18, [some (vR 1), some (vI b)], [vI (-7)], LAY (u (shA A) 87 (wr (A 87) 7 ((rd (A 87) 7) + 1))) (shF F), 0, 0)) hc92 0 rfl trivial ?_
      refine R_reti hc92 rfl rfl ⟨⟨_, rfl⟩, ⟨_, _, rfl, rfl⟩, ?_⟩
      refine R_s (P := True) (f' := (5, [some (vR 88), some (vI b)], [vI (-2), vI (-8), vI b], LAY (u (shA A) 87 (wr (A 87) 7 ((rd (A 87) 7) + 1))) (shF F), 0, 0)) hc168 3 rfl trivial ?_
      refine R_cs hc168 rfl rfl ?_ (fun r G h => h)
      refine R_s (P := True) (f' := (2, [some (vI b), some (vI (-8)), some (vI (-2))], [vI (-8), vI b], LAY (u (shA A) 87 (wr (A 87) 7 ((rd (A 87) 7) + 1))) (shF F), 0, 0)) hc104 2 rfl trivial ?_
      refine R_ic (t := 14) hc104 rfl rfl (fun (_ : b < (-8)) => ?_) (fun (z : ¬ (b < (-8))) => absurd (show b < (-8) by omega) z)
      refine R_s (P := True) (f' := (15, [some (vI b), some (vI (-8)), some (vI (-2))], [vI 0], LAY (u (shA A) 87 (wr (A 87) 7 ((rd (A 87) 7) + 1))) (shF F), 0, 0)) hc104 1 rfl trivial ?_
      refine R_retz hc104 rfl rfl (Or.inl rfl) ?_
      refine R_s (f' := (8, [some (vR 88), some (vI b)], [vI 0], LAY (u (shA A) 87 (wr (A 87) 7 ((rd (A 87) 7) + 1))) (shF F), 0, 0)) hc168 0 rfl trivial ?_
      refine R_if (t := 21) hc168 rfl rfl (fun (_ : 0 = 0) => ?_) (fun (z : ¬ (0 = 0)) => absurd (by decide) z)
      refine R_s (P := True) (f' := (24, [some (vR 88), some (vI b)], [vI (-7), vR 88], LAY (u (shA A) 87 (wr (A 87) 7 ((rd (A 87) 7) + 1))) (shF F), 0, 0)) hc168 2 rfl trivial ?_
      refine R_cv hc168 rfl rfl ?_ (fun r G h => h)
      refine R_s (P := inI 7 ∧ (0 ≤ 7 ∧ 7 < ((A 87).length : Int)) ∧ inI ((rd (A 87) 7) + 1) ∧ (0 ≤ 7 ∧ 7 < ((A 87).length : Int)) ∧ True) (f' := (12, [some (vR 88), some (vI (-7))], [vI (-7)], LAY (u (u (shA A) 87 (wr (A 87) 7 ((rd (A 87) 7) + 1))) 89 (wr (A 87) 7 ((rd (A 87) 7) + 1))) (shF F), 0, 0)) hc105 10 rfl ⟨⟨by omega, by omega⟩, ⟨by omega, by omega⟩, ⟨by omega, by omega⟩, ⟨by omega, by omega⟩, trivial⟩ ?_
      refine R_reti hc105 rfl rfl ?_
      refine R_s (f' := (27, [some (vR 88), some (vI b)], [vI (-7)], LAY (u (u (shA A) 87 (wr (A 87) 7 ((rd (A 87) 7) + 1))) 89 (wr (A 87) 7 ((rd (A 87) 7) + 1))) (shF F), 0, 0)) hc168 0 rfl trivial ?_
      refine R_reti hc168 rfl rfl ?_
      first
        | (exfalso; omega; done)
        | exact ⟨rfl, (u A 87 (wr (A 87) 7 ((rd (A 87) 7) + 1))), F, rfl, rfl, REL_ref hR0 (by decide) (by decide)⟩

