theorem cb_wr0 {l : List Int} {p : Int} (h0 : 0 ≤ p) (h1 : p < l.length) (n : Nat) : cb (wr l p 0) n ≤ cb l n := by
  induction n with
  | zero => exact Int.le_refl _
  | succ n ih =>
    unfold cb
    rw [rd_wr h0 h1 (by omega)]
    by_cases e : (n : Int) = p
    · rw [if_pos e, if_pos rfl]
      split <;> omega
    · rw [if_neg e]
      split <;> omega
theorem DEED_n {n n' e : Int} {K N Ro Ho He Fi Si Th mE mEnd : List Int} {d : Int} (h : DEED n e K N Ro Ho He Fi Si Th mE mEnd d) (hn : n ≤ n') : DEED n' e K N Ro Ho He Fi Si Th mE mEnd d := by
  obtain ⟨h1, h2, h3, h4, h5⟩ := h
  refine ⟨h1, h2, h3, h4, fun i hi hi2 => ?_⟩
  obtain ⟨a1, a2, a3, a4, a5, a6, a7, a8, a9, a10⟩ := h5 i hi hi2
  exact ⟨a1, a2, a3, a4, a5, fun q => ⟨(a6 q).1, (a6 q).2.1, by have := (a6 q).2.2; omega⟩, a7, a8, a9, a10⟩
theorem REL_thing {c : Int} {A : Nat → List Int} {F : Nat → Int} (h : REL c A F) {w y : Int} (hw : 1 ≤ w ∧ w ≤ 9999) (hy : 0 ≤ y ∧ y ≤ 9999) (hf : F 4 < 10) : REL (c + 1) (u (u A 13 (wr (A 13) (F 4) w)) 14 (wr (A 14) (F 4) y)) (u F 4 (F 4 + 1)) := by
  obtain ⟨hL, hPE, ⟨t1, t2, t3, t4, t5⟩, hTP, hDE, hLE, hNO, hAC, hRO, hRE⟩ := REL_c h
  have l13 : (A 13).length = 10 := hL 13 (by decide)
  have l14 : (A 14).length = 10 := hL 14 (by decide)
  refine ⟨LENS_wr (LENS_wr hL 13 _ _) 14 _ _, hPE, ⟨(show 0 ≤ F 4 + 1 by omega), (show F 4 + 1 ≤ 10 by omega), fun i (hi : 0 ≤ i) (hi2 : i < F 4 + 1) => ?_, t4, t5⟩, hTP, hDE, hLE, hNO, hAC, hRO, hRE⟩
  show 1 ≤ rd (wr (A 13) (F 4) w) i ∧ rd (wr (A 13) (F 4) w) i ≤ 9999 ∧ 0 ≤ rd (wr (A 14) (F 4) y) i ∧ rd (wr (A 14) (F 4) y) i ≤ 9999
  rw [rd_wr t1 (by omega) hi, rd_wr t1 (by omega) hi]
  by_cases e : i = F 4
  · rw [if_pos e, if_pos e]
    exact ⟨hw.1, hw.2, hy.1, hy.2⟩
  · rw [if_neg e, if_neg e]
    exact t3 i hi (by omega)
theorem REL_tell0 {c : Int} {A : Nat → List Int} {F : Nat → Int} (h : REL c A F) {t v : Int} (hv : 1 ≤ v ∧ v ≤ 9999) (ht : 0 ≤ t ∧ t < F 4) : REL (c + 1) (u A 13 (wr (A 13) t v)) F := by
  obtain ⟨hL, hPE, ⟨t1, t2, t3, t4, t5⟩, hTP, hDE, hLE, hNO, hAC, hRO, hRE⟩ := REL_c h
  have l13 : (A 13).length = 10 := hL 13 (by decide)
  refine ⟨LENS_wr hL 13 _ _, hPE, ⟨t1, t2, fun i hi hi2 => ?_, t4, t5⟩, hTP, hDE, hLE, hNO, hAC, hRO, hRE⟩
  have := t3 i hi hi2
  show 1 ≤ rd (wr (A 13) t v) i ∧ rd (wr (A 13) t v) i ≤ 9999 ∧ 0 ≤ rd (A 14) i ∧ rd (A 14) i ≤ 9999
  rw [rd_wr ht.1 (by omega) hi]
  split <;> omega
theorem REL_tell1 {c : Int} {A : Nat → List Int} {F : Nat → Int} (h : REL c A F) {t v : Int} (hv : 0 ≤ v ∧ v ≤ 9999) (ht : 0 ≤ t ∧ t < F 4) : REL (c + 1) (u A 14 (wr (A 14) t v)) F := by
  obtain ⟨hL, hPE, ⟨t1, t2, t3, t4, t5⟩, hTP, hDE, hLE, hNO, hAC, hRO, hRE⟩ := REL_c h
  have l14 : (A 14).length = 10 := hL 14 (by decide)
  refine ⟨LENS_wr hL 14 _ _, hPE, ⟨t1, t2, fun i hi hi2 => ?_, t4, t5⟩, hTP, hDE, hLE, hNO, hAC, hRO, hRE⟩
  have := t3 i hi hi2
  show 1 ≤ rd (A 13) i ∧ rd (A 13) i ≤ 9999 ∧ 0 ≤ rd (wr (A 14) t v) i ∧ rd (wr (A 14) t v) i ≤ 9999
  rw [rd_wr ht.1 (by omega) hi]
  split <;> omega
theorem REL_ruin {c : Int} {A : Nat → List Int} {F : Nat → Int} (h : REL c A F) {t v : Int} (hv : v = 0 ∨ v = 1) (ht : 0 ≤ t ∧ t < F 4) : REL (c + 1) (u A 15 (wr (A 15) t v)) F := by
  obtain ⟨hL, hPE, ⟨t1, t2, t3, t4, t5⟩, hTP, hDE, hLE, hNO, hAC, hRO, hRE⟩ := REL_c h
  have l15 : (A 15).length = 10 := hL 15 (by decide)
  refine ⟨LENS_wr hL 15 _ _, hPE, ⟨t1, t2, t3, fun i hi hi2 => ?_, t5⟩, hTP, hDE, hLE, hNO, hAC, hRO, hRE⟩
  show rd (wr (A 15) t v) i = 0 ∨ rd (wr (A 15) t v) i = 1
  rw [rd_wr ht.1 (by omega) hi]
  have := t4 i hi hi2
  split <;> omega
theorem DEEDS_n {A : Nat → List Int} {F F' : Nat → Int} (h : DEEDS A F) (h0 : F' 0 = F 0) (h3 : F 3 ≤ F' 3) (he : F' 8 = F 8 ∧ F' 9 = F 9 ∧ F' 10 = F 10 ∧ F' 11 = F 11 ∧ F' 12 = F 12 ∧ F' 13 = F 13) : DEEDS A F' := by
  obtain ⟨d0, d1, d2, d3, d4, d5⟩ := h
  obtain ⟨e0, e1, e2, e3, e4, e5⟩ := he
  unfold DEEDS
  rw [h0, e0, e1, e2, e3, e4, e5]
  exact ⟨fun q => DEED_n (d0 q) h3, fun q => DEED_n (d1 q) h3, fun q => DEED_n (d2 q) h3, fun q => DEED_n (d3 q) h3, fun q => DEED_n (d4 q) h3, fun q => DEED_n (d5 q) h3⟩
theorem REL_person {c : Int} {A : Nat → List Int} {F : Nat → Int} (h : REL c A F) {p b : Int} (hp : -1 ≤ p ∧ p < F 3) (hb : 0 ≤ b ∧ b ≤ 700) (hf : F 3 < 30) : REL (c + 1) (u (u (u A 3 (wr (A 3) (F 3) p)) 4 (wr (A 4) (F 3) b)) 5 (wr (A 5) (F 3) (-1))) (u F 3 (F 3 + 1)) := by
  obtain ⟨hL, ⟨p1, p2, p3, p4, p5, p6⟩, hTH, hTP, hDE, hLE, hNO, hAC, hRO, hRE⟩ := REL_c h
  have l3 : (A 3).length = 30 := hL 3 (by decide)
  have l4 : (A 4).length = 30 := hL 4 (by decide)
  have l5 : (A 5).length = 30 := hL 5 (by decide)
  refine ⟨LENS_wr (LENS_wr (LENS_wr hL 3 _ _) 4 _ _) 5 _ _, ⟨(show 0 ≤ F 3 + 1 by omega), (show F 3 + 1 ≤ 30 by omega), fun i (hi : 0 ≤ i) (hi2 : i < F 3 + 1) => ?_, p4, fun i (hi : F 3 + 1 ≤ i) hi2 => p5 i (by omega) hi2, ?_⟩, hTH, hTP, ⟨hDE.1, DEEDS_n (F' := u F 3 (F 3 + 1)) hDE.2 rfl (show F 3 ≤ F 3 + 1 by omega) ⟨rfl, rfl, rfl, rfl, rfl, rfl⟩⟩, hLE, hNO, hAC, hRO, hRE⟩
  · show -1 ≤ rd (wr (A 3) (F 3) p) i ∧ rd (wr (A 3) (F 3) p) i < i ∧ 0 ≤ rd (wr (A 4) (F 3) b) i ∧ rd (wr (A 4) (F 3) b) i ≤ 700 ∧ -1 ≤ rd (wr (A 5) (F 3) (-1)) i ∧ rd (wr (A 5) (F 3) (-1)) i ≤ 700
    rw [rd_wr p1 (by omega) hi, rd_wr p1 (by omega) hi, rd_wr p1 (by omega) hi]
    by_cases e : i = F 3
    · rw [if_pos e, if_pos e, if_pos e]
      omega
    · rw [if_neg e, if_neg e, if_neg e]
      exact p3 i hi (by omega)
  · show cb (A 6) (F 3 + 1).toNat ≤ 5
    have e : (F 3 + 1).toNat = (F 3).toNat + 1 := by omega
    have e2 : (((F 3).toNat : Nat) : Int) = F 3 := by omega
    rw [e, cb, e2, if_pos (p5 (F 3) (Int.le_refl _) hf)]
    omega
theorem REL_death {c : Int} {A : Nat → List Int} {F : Nat → Int} (h : REL c A F) {p y : Int} (hp : 0 ≤ p ∧ p < F 3) (hy : -1 ≤ y ∧ y ≤ 700) : REL (c + 1) (u (u A 5 (wr (A 5) p y)) 6 (wr (A 6) p 0)) F := by
  obtain ⟨hL, ⟨p1, p2, p3, p4, p5, p6⟩, hTH, hTP, hDE, hLE, hNO, hAC, hRO, hRE⟩ := REL_c h
  have l5 : (A 5).length = 30 := hL 5 (by decide)
  have l6 : (A 6).length = 30 := hL 6 (by decide)
  have hlt : p < (A 6).length := by omega
  refine ⟨LENS_wr (LENS_wr hL 5 _ _) 6 _ _, ⟨p1, p2, fun i hi hi2 => ?_, fun i hi hi2 => ?_, fun i hi hi2 => ?_, ?_⟩, hTH, hTP, hDE, hLE, hNO, hAC, hRO, hRE⟩
  · show -1 ≤ rd (A 3) i ∧ rd (A 3) i < i ∧ 0 ≤ rd (A 4) i ∧ rd (A 4) i ≤ 700 ∧ -1 ≤ rd (wr (A 5) p y) i ∧ rd (wr (A 5) p y) i ≤ 700
    have := p3 i hi hi2
    rw [rd_wr hp.1 (by omega) hi]
    split <;> omega
  · have := p4 i hi hi2
    show (rd (wr (A 6) p 0) i = 0 ∨ rd (wr (A 6) p 0) i = 1) ∧ (rd (A 7) i = 0 ∨ rd (A 7) i = 1) ∧ (rd (A 94) i = 0 ∨ rd (A 94) i = 1) ∧ (rd (wr (A 6) p 0) i = 1 → rd (A 94) i = rd (A 7) i)
    rw [rd_wr hp.1 hlt hi]
    split <;> omega
  · show rd (wr (A 6) p 0) i = 0
    have q : F 3 ≤ i := hi
    have := p5 i hi hi2
    rw [rd_wr hp.1 hlt (by omega)]
    split <;> omega
  · have := cb_wr0 hp.1 hlt (F 3).toNat
    show cb (wr (A 6) p 0) (F 3).toNat ≤ 5
    omega
theorem REL_taken {c : Int} {A : Nat → List Int} {F : Nat → Int} (h : REL c A F) {p v : Int} (hp : 0 ≤ p ∧ p < F 3) (hv : v = 0 ∨ v = 1) : REL (c + 1) (u (u A 7 (wr (A 7) p v)) 94 (wr (A 94) p v)) F := by
  obtain ⟨hL, ⟨p1, p2, p3, p4, p5, p6⟩, hTH, hTP, hDE, hLE, hNO, hAC, hRO, hRE⟩ := REL_c h
  have l7 : (A 7).length = 30 := hL 7 (by decide)
  have l94 : (A 94).length = 30 := hL 94 (by decide)
  refine ⟨LENS_wr (LENS_wr hL 7 _ _) 94 _ _, ⟨p1, p2, p3, fun i hi hi2 => ?_, p5, p6⟩, hTH, hTP, hDE, hLE, hNO, hAC, hRO, hRE⟩
  have := p4 i hi hi2
  show (rd (A 6) i = 0 ∨ rd (A 6) i = 1) ∧ (rd (wr (A 7) p v) i = 0 ∨ rd (wr (A 7) p v) i = 1) ∧ (rd (wr (A 94) p v) i = 0 ∨ rd (wr (A 94) p v) i = 1) ∧ (rd (A 6) i = 1 → rd (wr (A 94) p v) i = rd (wr (A 7) p v) i)
  rw [rd_wr hp.1 (by omega) hi, rd_wr hp.1 (by omega) hi]
  split <;> omega
theorem op_thing {c : Int} {A : Nat → List Int} {F : Nat → Int} (hR : REL c A F) (hc : c < 1000000) (w y : Int) (i_w : inI w) (i_y : inI y) : R 65 (0, L0 65 [vR 1, vI w, vI y], [], LAY (shA A) (shF F), 0, 0) (fun r G => ∃ (x : Int) (A' : Nat → List Int) (F' : Nat → Int), REL (c + 1) A' F' ∧ r = some (vI x) ∧ G = LAY (shA A') (shF F') ∧ A' 0 = A 0 ∧ KP A F A' F') := by
  have hR0 := hR
  obtain ⟨hL, hPE, hTH, hTP, hDE, hLE, hNO, hAC, hRO, hRE⟩ := hR
  have j_w := i_w
  unfold inI at j_w
  have j_y := i_y
  unfold inI at j_y
  have h87 : (A 87).length = 9 := hL 87 (by decide)
  have h3 : (A 3).length = 30 := hL 3 (by decide)
  have h4 : (A 4).length = 30 := hL 4 (by decide)
  have h5 : (A 5).length = 30 := hL 5 (by decide)
  have h6 : (A 6).length = 30 := hL 6 (by decide)
  have h7 : (A 7).length = 30 := hL 7 (by decide)
  have h94 : (A 94).length = 30 := hL 94 (by decide)
  have h13 : (A 13).length = 10 := hL 13 (by decide)
  have h14 : (A 14).length = 10 := hL 14 (by decide)
  have h15 : (A 15).length = 10 := hL 15 (by decide)
  have h16 : (A 16).length = 60 := hL 16 (by decide)
  have h80 : (A 80).length = 30 := hL 80 (by decide)
  have h81 : (A 81).length = 30 := hL 81 (by decide)
  have h82 : (A 82).length = 30 := hL 82 (by decide)
  have h83 : (A 83).length = 30 := hL 83 (by decide)
  have h84 : (A 84).length = 30 := hL 84 (by decide)
  have h85 : (A 85).length = 8 := hL 85 (by decide)
  have h101 : (A 101).length = 38 := hL 101 (by decide)
  have h102 : (A 102).length = 90 := hL 102 (by decide)
  have r2 := REFU_at hRE (k := 2) (by decide) (by decide) hc
  have r3 := REFU_at hRE (k := 3) (by decide) (by decide) hc
  have r4 := REFU_at hRE (k := 4) (by decide) (by decide) hc
  have r5 := REFU_at hRE (k := 5) (by decide) (by decide) hc
  have r6 := REFU_at hRE (k := 6) (by decide) (by decide) hc
  have r7 := REFU_at hRE (k := 7) (by decide) (by decide) hc
  have r8 := REFU_at hRE (k := 8) (by decide) (by decide) hc
  obtain ⟨t1, t2, t3, t4, t5, t6⟩ := hTH
  obtain ⟨p1, p2, p3, p4, p5, p6⟩ := hPE
  refine R_s (P := True) (f' := (1, [some (vR 1), some (vI w), some (vI y)], [vI w], LAY (shA A) (shF F), 0, 0)) hc65 1 rfl trivial ?_
  refine R_cs hc65 rfl rfl ?_ (fun r G h => h)
  refine R_s (P := True) (f' := (2, [some (vI w)], [vI 1, vI w], LAY (shA A) (shF F), 0, 0)) hc96 2 rfl trivial ?_
  refine R_ic (t := 16) hc96 rfl rfl (fun (c1 : w < 1) => ?_) (fun (c1 : ¬ (w < 1)) => ?_)
  · refine R_s (P := True) (f' := (17, [some (vI w)], [vI 0], LAY (shA A) (shF F), 0, 0)) hc96 1 rfl trivial ?_
    refine R_retz hc96 rfl rfl (Or.inl rfl) ?_
    refine R_s (f' := (4, [some (vR 1), some (vI w), some (vI y)], [vI 0], LAY (shA A) (shF F), 0, 0)) hc65 0 rfl trivial ?_
    refine R_if (t := 14) hc65 rfl rfl (fun (_ : 0 = 0) => ?_) (fun (z : ¬ (0 = 0)) => absurd (by decide) z)
    refine R_s (P := True) (f' := (17, [some (vR 1), some (vI w), some (vI y)], [vI (-7), vR 1], LAY (shA A) (shF F), 0, 0)) hc65 2 rfl trivial ?_
    refine R_cv hc65 rfl rfl ?_ (fun r G h => h)
    refine R_s (P := True) (f' := (3, [some (vR 1), some (vI (-7))], [vI (-2), vI (-7)], LAY (shA A) (shF F), 0, 0)) hc93 2 rfl trivial ?_
    refine R_ic (t := 23) hc93 rfl rfl (fun (z : (-2) < (-7)) => absurd z (by decide)) (fun (_ : ¬ ((-2) < (-7))) => ?_)
    refine R_s (P := True) (f' := (9, [some (vR 1), some (vI (-7))], [vI (-8), vI (-7)], LAY (shA A) (shF F), 0, 0)) hc93 2 rfl trivial ?_
    refine R_ic (t := 23) hc93 rfl rfl (fun (z : (-7) < (-8)) => absurd z (by decide)) (fun (_ : ¬ ((-7) < (-8))) => ?_)
    refine R_s (P := inI 7 ∧ (0 ≤ 7 ∧ 7 < ((A 87).length : Int)) ∧ inI ((rd (A 87) 7) + 1) ∧ (0 ≤ 7 ∧ 7 < ((A 87).length : Int)) ∧ True) (f' := (24, [some (vR 1), some (vI (-7))], [vI (-7)], LAY (u (shA A) 87 (wr (A 87) 7 ((rd (A 87) 7) + 1))) (shF F), 0, 0)) hc93 10 rfl ⟨⟨by omega, by omega⟩, ⟨by omega, by omega⟩, ⟨by omega, by omega⟩, ⟨by omega, by omega⟩, trivial⟩ ?_
    refine R_reti hc93 rfl rfl ?_
    refine R_s (f' := (20, [some (vR 1), some (vI w), some (vI y)], [vI (-7)], LAY (u (shA A) 87 (wr (A 87) 7 ((rd (A 87) 7) + 1))) (shF F), 0, 0)) hc65 0 rfl trivial ?_
    refine R_reti hc65 rfl rfl ?_
    first
      | (exfalso; omega; done)
      | exact ⟨(-7), (u A 87 (wr (A 87) 7 ((rd (A 87) 7) + 1))), F, REL_ref hR0 (by decide) (by decide), rfl, rfl, rfl, ⟨rfl, rfl, rfl, rfl, by first | exact Int.le_refl _ | (show F 3 ≤ F 3 + 1; omega), rfl, rfl, rfl, rfl, rfl, rfl⟩⟩
  · refine R_s (P := True) (f' := (9, [some (vI w)], [vI 9999, vI w], LAY (shA A) (shF F), 0, 0)) hc96 2 rfl trivial ?_
    refine R_ic (t := 16) hc96 rfl rfl (fun (c2 : 9999 < w) => ?_) (fun (c2 : ¬ (9999 < w)) => ?_)
    · refine R_s (P := True) (f' := (17, [some (vI w)], [vI 0], LAY (shA A) (shF F), 0, 0)) hc96 1 rfl trivial ?_
      refine R_retz hc96 rfl rfl (Or.inl rfl) ?_
      refine R_s (f' := (4, [some (vR 1), some (vI w), some (vI y)], [vI 0], LAY (shA A) (shF F), 0, 0)) hc65 0 rfl trivial ?_
      refine R_if (t := 14) hc65 rfl rfl (fun (_ : 0 = 0) => ?_) (fun (z : ¬ (0 = 0)) => absurd (by decide) z)
      refine R_s (P := True) (f' := (17, [some (vR 1), some (vI w), some (vI y)], [vI (-7), vR 1], LAY (shA A) (shF F), 0, 0)) hc65 2 rfl trivial ?_
      refine R_cv hc65 rfl rfl ?_ (fun r G h => h)
      refine R_s (P := True) (f' := (3, [some (vR 1), some (vI (-7))], [vI (-2), vI (-7)], LAY (shA A) (shF F), 0, 0)) hc93 2 rfl trivial ?_
      refine R_ic (t := 23) hc93 rfl rfl (fun (z : (-2) < (-7)) => absurd z (by decide)) (fun (_ : ¬ ((-2) < (-7))) => ?_)
      refine R_s (P := True) (f' := (9, [some (vR 1), some (vI (-7))], [vI (-8), vI (-7)], LAY (shA A) (shF F), 0, 0)) hc93 2 rfl trivial ?_
      refine R_ic (t := 23) hc93 rfl rfl (fun (z : (-7) < (-8)) => absurd z (by decide)) (fun (_ : ¬ ((-7) < (-8))) => ?_)
      refine R_s (P := inI 7 ∧ (0 ≤ 7 ∧ 7 < ((A 87).length : Int)) ∧ inI ((rd (A 87) 7) + 1) ∧ (0 ≤ 7 ∧ 7 < ((A 87).length : Int)) ∧ True) (f' := (24, [some (vR 1), some (vI (-7))], [vI (-7)], LAY (u (shA A) 87 (wr (A 87) 7 ((rd (A 87) 7) + 1))) (shF F), 0, 0)) hc93 10 rfl ⟨⟨by omega, by omega⟩, ⟨by omega, by omega⟩, ⟨by omega, by omega⟩, ⟨by omega, by omega⟩, trivial⟩ ?_
      refine R_reti hc93 rfl rfl ?_
      refine R_s (f' := (20, [some (vR 1), some (vI w), some (vI y)], [vI (-7)], LAY (u (shA A) 87 (wr (A 87) 7 ((rd (A 87) 7) + 1))) (shF F), 0, 0)) hc65 0 rfl trivial ?_
      refine R_reti hc65 rfl rfl ?_
      first
        | (exfalso; omega; done)
        | exact ⟨(-7), (u A 87 (wr (A 87) 7 ((rd (A 87) 7) + 1))), F, REL_ref hR0 (by decide) (by decide), rfl, rfl, rfl, ⟨rfl, rfl, rfl, rfl, by first | exact Int.le_refl _ | (show F 3 ≤ F 3 + 1; omega), rfl, rfl, rfl, rfl, rfl, rfl⟩⟩
    · refine R_s (P := True) (f' := (17, [some (vI w)], [vI 1], LAY (shA A) (shF F), 0, 0)) hc96 2 rfl trivial ?_
      refine R_retz hc96 rfl rfl (Or.inr rfl) ?_
      refine R_s (f' := (4, [some (vR 1), some (vI w), some (vI y)], [vI 1], LAY (shA A) (shF F), 0, 0)) hc65 0 rfl trivial ?_
      refine R_if (t := 14) hc65 rfl rfl (fun (z : 1 = 0) => absurd z (by decide)) (fun (_ : ¬ (1 = 0)) => ?_)
      refine R_s (P := True) (f' := (8, [some (vR 1), some (vI w), some (vI y)], [vI y], LAY (shA A) (shF F), 0, 0)) hc65 1 rfl trivial ?_
      refine R_cs hc65 rfl rfl ?_ (fun r G h => h)
      refine R_s (P := True) (f' := (1, [some (vI y)], [vI y], LAY (shA A) (shF F), 0, 0)) hc97 1 rfl trivial ?_
      refine R_if (t := 15) hc97 rfl rfl (fun (c4 : y < 0) => ?_) (fun (c4 : ¬ (y < 0)) => ?_)
      · refine R_s (P := True) (f' := (16, [some (vI y)], [vI 0], LAY (shA A) (shF F), 0, 0)) hc97 1 rfl trivial ?_
        refine R_retz hc97 rfl rfl (Or.inl rfl) ?_
        refine R_s (f' := (11, [some (vR 1), some (vI w), some (vI y)], [vI 0], LAY (shA A) (shF F), 0, 0)) hc65 0 rfl trivial ?_
        refine R_if (t := 21) hc65 rfl rfl (fun (z : ¬ 0 = 0) => absurd z (by decide)) (fun (_ : ¬ (¬ 0 = 0)) => ?_)
        refine R_s (P := True) (f' := (17, [some (vR 1), some (vI w), some (vI y)], [vI (-7), vR 1], LAY (shA A) (shF F), 0, 0)) hc65 2 rfl trivial ?_
        refine R_cv hc65 rfl rfl ?_ (fun r G h => h)
        refine R_s (P := True) (f' := (3, [some (vR 1), some (vI (-7))], [vI (-2), vI (-7)], LAY (shA A) (shF F), 0, 0)) hc93 2 rfl trivial ?_
        refine R_ic (t := 23) hc93 rfl rfl (fun (z : (-2) < (-7)) => absurd z (by decide)) (fun (_ : ¬ ((-2) < (-7))) => ?_)
        refine R_s (P := True) (f' := (9, [some (vR 1), some (vI (-7))], [vI (-8), vI (-7)], LAY (shA A) (shF F), 0, 0)) hc93 2 rfl trivial ?_
        refine R_ic (t := 23) hc93 rfl rfl (fun (z : (-7) < (-8)) => absurd z (by decide)) (fun (_ : ¬ ((-7) < (-8))) => ?_)
        refine R_s (P := inI 7 ∧ (0 ≤ 7 ∧ 7 < ((A 87).length : Int)) ∧ inI ((rd (A 87) 7) + 1) ∧ (0 ≤ 7 ∧ 7 < ((A 87).length : Int)) ∧ True) (f' := (24, [some (vR 1), some (vI (-7))], [vI (-7)], LAY (u (shA A) 87 (wr (A 87) 7 ((rd (A 87) 7) + 1))) (shF F), 0, 0)) hc93 10 rfl ⟨⟨by omega, by omega⟩, ⟨by omega, by omega⟩, ⟨by omega, by omega⟩, ⟨by omega, by omega⟩, trivial⟩ ?_
        refine R_reti hc93 rfl rfl ?_
        refine R_s (f' := (20, [some (vR 1), some (vI w), some (vI y)], [vI (-7)], LAY (u (shA A) 87 (wr (A 87) 7 ((rd (A 87) 7) + 1))) (shF F), 0, 0)) hc65 0 rfl trivial ?_
        refine R_reti hc65 rfl rfl ?_
        first
          | (exfalso; omega; done)
          | exact ⟨(-7), (u A 87 (wr (A 87) 7 ((rd (A 87) 7) + 1))), F, REL_ref hR0 (by decide) (by decide), rfl, rfl, rfl, ⟨rfl, rfl, rfl, rfl, by first | exact Int.le_refl _ | (show F 3 ≤ F 3 + 1; omega), rfl, rfl, rfl, rfl, rfl, rfl⟩⟩
      · refine R_s (P := True) (f' := (8, [some (vI y)], [vI 9999, vI y], LAY (shA A) (shF F), 0, 0)) hc97 2 rfl trivial ?_
        refine R_ic (t := 15) hc97 rfl rfl (fun (c5 : 9999 < y) => ?_) (fun (c5 : ¬ (9999 < y)) => ?_)
        · refine R_s (P := True) (f' := (16, [some (vI y)], [vI 0], LAY (shA A) (shF F), 0, 0)) hc97 1 rfl trivial ?_
          refine R_retz hc97 rfl rfl (Or.inl rfl) ?_
          refine R_s (f' := (11, [some (vR 1), some (vI w), some (vI y)], [vI 0], LAY (shA A) (shF F), 0, 0)) hc65 0 rfl trivial ?_
          refine R_if (t := 21) hc65 rfl rfl (fun (z : ¬ 0 = 0) => absurd z (by decide)) (fun (_ : ¬ (¬ 0 = 0)) => ?_)
          refine R_s (P := True) (f' := (17, [some (vR 1), some (vI w), some (vI y)], [vI (-7), vR 1], LAY (shA A) (shF F), 0, 0)) hc65 2 rfl trivial ?_
          refine R_cv hc65 rfl rfl ?_ (fun r G h => h)
          refine R_s (P := True) (f' := (3, [some (vR 1), some (vI (-7))], [vI (-2), vI (-7)], LAY (shA A) (shF F), 0, 0)) hc93 2 rfl trivial ?_
          refine R_ic (t := 23) hc93 rfl rfl (fun (z : (-2) < (-7)) => absurd z (by decide)) (fun (_ : ¬ ((-2) < (-7))) => ?_)
          refine R_s (P := True) (f' := (9, [some (vR 1), some (vI (-7))], [vI (-8), vI (-7)], LAY (shA A) (shF F), 0, 0)) hc93 2 rfl trivial ?_
          refine R_ic (t := 23) hc93 rfl rfl (fun (z : (-7) < (-8)) => absurd z (by decide)) (fun (_ : ¬ ((-7) < (-8))) => ?_)
          refine R_s (P := inI 7 ∧ (0 ≤ 7 ∧ 7 < ((A 87).length : Int)) ∧ inI ((rd (A 87) 7) + 1) ∧ (0 ≤ 7 ∧ 7 < ((A 87).length : Int)) ∧ True) (f' := (24, [some (vR 1), some (vI (-7))], [vI (-7)], LAY (u (shA A) 87 (wr (A 87) 7 ((rd (A 87) 7) + 1))) (shF F), 0, 0)) hc93 10 rfl ⟨⟨by omega, by omega⟩, ⟨by omega, by omega⟩, ⟨by omega, by omega⟩, ⟨by omega, by omega⟩, trivial⟩ ?_
          refine R_reti hc93 rfl rfl ?_
          refine R_s (f' := (20, [some (vR 1), some (vI w), some (vI y)], [vI (-7)], LAY (u (shA A) 87 (wr (A 87) 7 ((rd (A 87) 7) + 1))) (shF F), 0, 0)) hc65 0 rfl trivial ?_
          refine R_reti hc65 rfl rfl ?_
          first
            | (exfalso; omega; done)
            | exact ⟨(-7), (u A 87 (wr (A 87) 7 ((rd (A 87) 7) + 1))), F, REL_ref hR0 (by decide) (by decide), rfl, rfl, rfl, ⟨rfl, rfl, rfl, rfl, by first | exact Int.le_refl _ | (show F 3 ≤ F 3 + 1; omega), rfl, rfl, rfl, rfl, rfl, rfl⟩⟩
        · refine R_s (P := True) (f' := (16, [some (vI y)], [vI 1], LAY (shA A) (shF F), 0, 0)) hc97 2 rfl trivial ?_
          refine R_retz hc97 rfl rfl (Or.inr rfl) ?_
          refine R_s (f' := (11, [some (vR 1), some (vI w), some (vI y)], [vI 1], LAY (shA A) (shF F), 0, 0)) hc65 0 rfl trivial ?_
          refine R_if (t := 21) hc65 rfl rfl (fun (_ : ¬ 1 = 0) => ?_) (fun (z : ¬ (¬ 1 = 0)) => absurd (by decide) z)
          refine R_s (P := True) (f' := (30, [some (vR 1), some (vI w), some (vI y)], [vI 10, vI (F 4)], LAY (shA A) (shF F), 0, 0)) hc65 4 rfl trivial ?_
          refine R_ic (t := 40) hc65 rfl rfl (fun (c7 : F 4 < 10) => ?_) (fun (c7 : ¬ (F 4 < 10)) => ?_)
          · refine R_s (P := True) (f' := (46, [some (vR 1), some (vI w), some (vI y)], [vI y, vI w, vR 12], LAY (shA A) (shF F), 0, 0)) hc65 4 rfl trivial ?_
            refine R_cv hc65 rfl rfl ?_ (fun r G h => h)
            refine R_s (P := (0 ≤ F 4 ∧ F 4 < ((A 13).length : Int)) ∧ (0 ≤ F 4 ∧ F 4 < ((A 14).length : Int)) ∧ inI ((F 4) + 1) ∧ True) (f' := (30, [some (vR 12), some (vI w), some (vI y), some (vI (F 4))], [vI (F 4)], LAY (u (u (shA A) 13 (wr (A 13) (F 4) w)) 14 (wr (A 14) (F 4) y)) (u (shF F) 4 ((F 4) + 1)), 0, 0)) hc53 20 rfl ⟨⟨by omega, by omega⟩, ⟨by omega, by omega⟩, ⟨by omega, by omega⟩, trivial⟩ ?_
            refine R_reti hc53 rfl rfl ?_
            refine R_s (f' := (49, [some (vR 1), some (vI w), some (vI y)], [vI (F 4)], LAY (u (u (shA A) 13 (wr (A 13) (F 4) w)) 14 (wr (A 14) (F 4) y)) (u (shF F) 4 ((F 4) + 1)), 0, 0)) hc65 0 rfl trivial ?_
            refine R_reti hc65 rfl rfl ?_
            first
              | (exfalso; omega; done)
              | exact ⟨F 4, (u (u A 13 (wr (A 13) (F 4) w)) 14 (wr (A 14) (F 4) y)), (u F 4 ((F 4) + 1)), (REL_thing hR0 (by omega) (by omega) (by omega)), rfl, rfl, rfl, ⟨rfl, rfl, rfl, rfl, by first | exact Int.le_refl _ | (show F 3 ≤ F 3 + 1; omega), rfl, rfl, rfl, rfl, rfl, rfl⟩⟩
          · refine R_s (P := True) (f' := (36, [some (vR 1), some (vI w), some (vI y)], [vI (-8), vR 1], LAY (shA A) (shF F), 0, 0)) hc65 2 rfl trivial ?_
            refine R_cv hc65 rfl rfl ?_ (fun r G h => h)
            refine R_s (P := True) (f' := (3, [some (vR 1), some (vI (-8))], [vI (-2), vI (-8)], LAY (shA A) (shF F), 0, 0)) hc93 2 rfl trivial ?_
            refine R_ic (t := 23) hc93 rfl rfl (fun (z : (-2) < (-8)) => absurd z (by decide)) (fun (_ : ¬ ((-2) < (-8))) => ?_)
            refine R_s (P := True) (f' := (9, [some (vR 1), some (vI (-8))], [vI (-8), vI (-8)], LAY (shA A) (shF F), 0, 0)) hc93 2 rfl trivial ?_
            refine R_ic (t := 23) hc93 rfl rfl (fun (z : (-8) < (-8)) => absurd z (by decide)) (fun (_ : ¬ ((-8) < (-8))) => ?_)
            refine R_s (P := inI 8 ∧ (0 ≤ 8 ∧ 8 < ((A 87).length : Int)) ∧ inI ((rd (A 87) 8) + 1) ∧ (0 ≤ 8 ∧ 8 < ((A 87).length : Int)) ∧ True) (f' := (24, [some (vR 1), some (vI (-8))], [vI (-8)], LAY (u (shA A) 87 (wr (A 87) 8 ((rd (A 87) 8) + 1))) (shF F), 0, 0)) hc93 10 rfl ⟨⟨by omega, by omega⟩, ⟨by omega, by omega⟩, ⟨by omega, by omega⟩, ⟨by omega, by omega⟩, trivial⟩ ?_
            refine R_reti hc93 rfl rfl ?_
            refine R_s (f' := (39, [some (vR 1), some (vI w), some (vI y)], [vI (-8)], LAY (u (shA A) 87 (wr (A 87) 8 ((rd (A 87) 8) + 1))) (shF F), 0, 0)) hc65 0 rfl trivial ?_
            refine R_reti hc65 rfl rfl ?_
            first
              | (exfalso; omega; done)
              | exact ⟨(-8), (u A 87 (wr (A 87) 8 ((rd (A 87) 8) + 1))), F, REL_ref hR0 (by decide) (by decide), rfl, rfl, rfl, ⟨rfl, rfl, rfl, rfl, by first | exact Int.le_refl _ | (show F 3 ≤ F 3 + 1; omega), rfl, rfl, rfl, rfl, rfl, rfl⟩⟩

theorem op_tell {c : Int} {A : Nat → List Int} {F : Nat → Int} (hR : REL c A F) (hc : c < 1000000) (t q v : Int) (i_t : inI t) (i_q : inI q) (i_v : inI v) : R 66 (0, L0 66 [vR 1, vI t, vI q, vI v], [], LAY (shA A) (shF F), 0, 0) (fun r G => ∃ (x : Int) (A' : Nat → List Int) (F' : Nat → Int), REL (c + 1) A' F' ∧ r = some (vI x) ∧ G = LAY (shA A') (shF F') ∧ A' 0 = A 0 ∧ KP A F A' F') := by
  have hR0 := hR
  obtain ⟨hL, hPE, hTH, hTP, hDE, hLE, hNO, hAC, hRO, hRE⟩ := hR
  have j_t := i_t
  unfold inI at j_t
  have j_q := i_q
  unfold inI at j_q
  have j_v := i_v
  unfold inI at j_v
  have h87 : (A 87).length = 9 := hL 87 (by decide)
  have h3 : (A 3).length = 30 := hL 3 (by decide)
  have h4 : (A 4).length = 30 := hL 4 (by decide)
  have h5 : (A 5).length = 30 := hL 5 (by decide)
  have h6 : (A 6).length = 30 := hL 6 (by decide)
  have h7 : (A 7).length = 30 := hL 7 (by decide)
  have h94 : (A 94).length = 30 := hL 94 (by decide)
  have h13 : (A 13).length = 10 := hL 13 (by decide)
  have h14 : (A 14).length = 10 := hL 14 (by decide)
  have h15 : (A 15).length = 10 := hL 15 (by decide)
  have h16 : (A 16).length = 60 := hL 16 (by decide)
  have h80 : (A 80).length = 30 := hL 80 (by decide)
  have h81 : (A 81).length = 30 := hL 81 (by decide)
  have h82 : (A 82).length = 30 := hL 82 (by decide)
  have h83 : (A 83).length = 30 := hL 83 (by decide)
  have h84 : (A 84).length = 30 := hL 84 (by decide)
  have h85 : (A 85).length = 8 := hL 85 (by decide)
  have h101 : (A 101).length = 38 := hL 101 (by decide)
  have h102 : (A 102).length = 90 := hL 102 (by decide)
  have r2 := REFU_at hRE (k := 2) (by decide) (by decide) hc
  have r3 := REFU_at hRE (k := 3) (by decide) (by decide) hc
  have r4 := REFU_at hRE (k := 4) (by decide) (by decide) hc
  have r5 := REFU_at hRE (k := 5) (by decide) (by decide) hc
  have r6 := REFU_at hRE (k := 6) (by decide) (by decide) hc
  have r7 := REFU_at hRE (k := 7) (by decide) (by decide) hc
  have r8 := REFU_at hRE (k := 8) (by decide) (by decide) hc
  obtain ⟨t1, t2, t3, t4, t5, t6⟩ := hTH
  obtain ⟨p1, p2, p3, p4, p5, p6⟩ := hPE
  refine R_s (P := True) (f' := (5, [some (vR 1), some (vI t), some (vI q), some (vI v), none], [vI t, vR 12], LAY (shA A) (shF F), 0, 0)) hc66 3 rfl trivial ?_
  refine R_cv hc66 rfl rfl ?_ (fun r G h => h)
  refine R_s (P := True) (f' := (1, [some (vR 12), some (vI t)], [vI t], LAY (shA A) (shF F), 0, 0)) hc52 1 rfl trivial ?_
  refine R_if (t := 16) hc52 rfl rfl (fun (c1 : t < 0) => ?_) (fun (c1 : ¬ (t < 0)) => ?_)
  · refine R_s (P := True) (f' := (17, [some (vR 12), some (vI t)], [vI 0], LAY (shA A) (shF F), 0, 0)) hc52 1 rfl trivial ?_
    refine R_retz hc52 rfl rfl (Or.inl rfl) ?_
    refine R_s (f' := (8, [some (vR 1), some (vI t), some (vI q), some (vI v), none], [vI 0], LAY (shA A) (shF F), 0, 0)) hc66 0 rfl trivial ?_
    refine R_if (t := 18) hc66 rfl rfl (fun (z : ¬ 0 = 0) => absurd z (by decide)) (fun (_ : ¬ (¬ 0 = 0)) => ?_)
    refine R_s (P := True) (f' := (14, [some (vR 1), some (vI t), some (vI q), some (vI v), none], [vI (-3), vR 1], LAY (shA A) (shF F), 0, 0)) hc66 2 rfl trivial ?_
    refine R_cv hc66 rfl rfl ?_ (fun r G h => h)
    refine R_s (P := True) (f' := (3, [some (vR 1), some (vI (-3))], [vI (-2), vI (-3)], LAY (shA A) (shF F), 0, 0)) hc93 2 rfl trivial ?_
    refine R_ic (t := 23) hc93 rfl rfl (fun (z : (-2) < (-3)) => absurd z (by decide)) (fun (_ : ¬ ((-2) < (-3))) => ?_)
    refine R_s (P := True) (f' := (9, [some (vR 1), some (vI (-3))], [vI (-8), vI (-3)], LAY (shA A) (shF F), 0, 0)) hc93 2 rfl trivial ?_
    refine R_ic (t := 23) hc93 rfl rfl (fun (z : (-3) < (-8)) => absurd z (by decide)) (fun (_ : ¬ ((-3) < (-8))) => ?_)
    refine R_s (P := inI 3 ∧ (0 ≤ 3 ∧ 3 < ((A 87).length : Int)) ∧ inI ((rd (A 87) 3) + 1) ∧ (0 ≤ 3 ∧ 3 < ((A 87).length : Int)) ∧ True) (f' := (24, [some (vR 1), some (vI (-3))], [vI (-3)], LAY (u (shA A) 87 (wr (A 87) 3 ((rd (A 87) 3) + 1))) (shF F), 0, 0)) hc93 10 rfl ⟨⟨by omega, by omega⟩, ⟨by omega, by omega⟩, ⟨by omega, by omega⟩, ⟨by omega, by omega⟩, trivial⟩ ?_
    refine R_reti hc93 rfl rfl ?_
    refine R_s (f' := (17, [some (vR 1), some (vI t), some (vI q), some (vI v), none], [vI (-3)], LAY (u (shA A) 87 (wr (A 87) 3 ((rd (A 87) 3) + 1))) (shF F), 0, 0)) hc66 0 rfl trivial ?_
    refine R_reti hc66 rfl rfl ?_
    first
      | (exfalso; omega; done)
      | exact ⟨(-3), (u A 87 (wr (A 87) 3 ((rd (A 87) 3) + 1))), F, REL_ref hR0 (by decide) (by decide), rfl, rfl, rfl, ⟨rfl, rfl, rfl, rfl, by first | exact Int.le_refl _ | (show F 3 ≤ F 3 + 1; omega), rfl, rfl, rfl, rfl, rfl, rfl⟩⟩
  · refine R_s (P := True) (f' := (9, [some (vR 12), some (vI t)], [vI (F 4), vI t], LAY (shA A) (shF F), 0, 0)) hc52 3 rfl trivial ?_
    refine R_ic (t := 16) hc52 rfl rfl (fun (c2 : F 4 ≤ t) => ?_) (fun (c2 : ¬ (F 4 ≤ t)) => ?_)
    · refine R_s (P := True) (f' := (17, [some (vR 12), some (vI t)], [vI 0], LAY (shA A) (shF F), 0, 0)) hc52 1 rfl trivial ?_
      refine R_retz hc52 rfl rfl (Or.inl rfl) ?_
      refine R_s (f' := (8, [some (vR 1), some (vI t), some (vI q), some (vI v), none], [vI 0], LAY (shA A) (shF F), 0, 0)) hc66 0 rfl trivial ?_
      refine R_if (t := 18) hc66 rfl rfl (fun (z : ¬ 0 = 0) => absurd z (by decide)) (fun (_ : ¬ (¬ 0 = 0)) => ?_)
      refine R_s (P := True) (f' := (14, [some (vR 1), some (vI t), some (vI q), some (vI v), none], [vI (-3), vR 1], LAY (shA A) (shF F), 0, 0)) hc66 2 rfl trivial ?_
      refine R_cv hc66 rfl rfl ?_ (fun r G h => h)
      refine R_s (P := True) (f' := (3, [some (vR 1), some (vI (-3))], [vI (-2), vI (-3)], LAY (shA A) (shF F), 0, 0)) hc93 2 rfl trivial ?_
      refine R_ic (t := 23) hc93 rfl rfl (fun (z : (-2) < (-3)) => absurd z (by decide)) (fun (_ : ¬ ((-2) < (-3))) => ?_)
      refine R_s (P := True) (f' := (9, [some (vR 1), some (vI (-3))], [vI (-8), vI (-3)], LAY (shA A) (shF F), 0, 0)) hc93 2 rfl trivial ?_
      refine R_ic (t := 23) hc93 rfl rfl (fun (z : (-3) < (-8)) => absurd z (by decide)) (fun (_ : ¬ ((-3) < (-8))) => ?_)
      refine R_s (P := inI 3 ∧ (0 ≤ 3 ∧ 3 < ((A 87).length : Int)) ∧ inI ((rd (A 87) 3) + 1) ∧ (0 ≤ 3 ∧ 3 < ((A 87).length : Int)) ∧ True) (f' := (24, [some (vR 1), some (vI (-3))], [vI (-3)], LAY (u (shA A) 87 (wr (A 87) 3 ((rd (A 87) 3) + 1))) (shF F), 0, 0)) hc93 10 rfl ⟨⟨by omega, by omega⟩, ⟨by omega, by omega⟩, ⟨by omega, by omega⟩, ⟨by omega, by omega⟩, trivial⟩ ?_
      refine R_reti hc93 rfl rfl ?_
      refine R_s (f' := (17, [some (vR 1), some (vI t), some (vI q), some (vI v), none], [vI (-3)], LAY (u (shA A) 87 (wr (A 87) 3 ((rd (A 87) 3) + 1))) (shF F), 0, 0)) hc66 0 rfl trivial ?_
      refine R_reti hc66 rfl rfl ?_
      first
        | (exfalso; omega; done)
        | exact ⟨(-3), (u A 87 (wr (A 87) 3 ((rd (A 87) 3) + 1))), F, REL_ref hR0 (by decide) (by decide), rfl, rfl, rfl, ⟨rfl, rfl, rfl, rfl, by first | exact Int.le_refl _ | (show F 3 ≤ F 3 + 1; omega), rfl, rfl, rfl, rfl, rfl, rfl⟩⟩
    · refine R_s (P := True) (f' := (17, [some (vR 12), some (vI t)], [vI 1], LAY (shA A) (shF F), 0, 0)) hc52 2 rfl trivial ?_
      refine R_retz hc52 rfl rfl (Or.inr rfl) ?_
      refine R_s (f' := (8, [some (vR 1), some (vI t), some (vI q), some (vI v), none], [vI 1], LAY (shA A) (shF F), 0, 0)) hc66 0 rfl trivial ?_
      refine R_if (t := 18) hc66 rfl rfl (fun (_ : ¬ 1 = 0) => ?_) (fun (z : ¬ (¬ 1 = 0)) => absurd (by decide) z)
      refine R_s (P := True) (f' := (19, [some (vR 1), some (vI t), some (vI q), some (vI v), none], [vI q], LAY (shA A) (shF F), 0, 0)) hc66 1 rfl trivial ?_
      refine R_if (t := 53) hc66 rfl rfl (fun (c4 : ¬ q = 0) => ?_) (fun (c4 : ¬ (¬ q = 0)) => ?_)
      · refine R_s (P := True) (f' := (55, [some (vR 1), some (vI t), some (vI q), some (vI v), none], [vI 1, vI q], LAY (shA A) (shF F), 0, 0)) hc66 2 rfl trivial ?_
        refine R_ic (t := 89) hc66 rfl rfl (fun (c5 : ¬ q = 1) => ?_) (fun (c5 : ¬ (¬ q = 1)) => ?_)
        · refine R_s (P := True) (f' := (92, [some (vR 1), some (vI t), some (vI q), some (vI v), none], [vI (-7), vR 1], LAY (shA A) (shF F), 0, 0)) hc66 2 rfl trivial ?_
          refine R_cv hc66 rfl rfl ?_ (fun r G h => h)
          refine R_s (P := True) (f' := (3, [some (vR 1), some (vI (-7))], [vI (-2), vI (-7)], LAY (shA A) (shF F), 0, 0)) hc93 2 rfl trivial ?_
          refine R_ic (t := 23) hc93 rfl rfl (fun (z : (-2) < (-7)) => absurd z (by decide)) (fun (_ : ¬ ((-2) < (-7))) => ?_)
          refine R_s (P := True) (f' := (9, [some (vR 1), some (vI (-7))], [vI (-8), vI (-7)], LAY (shA A) (shF F), 0, 0)) hc93 2 rfl trivial ?_
          refine R_ic (t := 23) hc93 rfl rfl (fun (z : (-7) < (-8)) => absurd z (by decide)) (fun (_ : ¬ ((-7) < (-8))) => ?_)
          refine R_s (P := inI 7 ∧ (0 ≤ 7 ∧ 7 < ((A 87).length : Int)) ∧ inI ((rd (A 87) 7) + 1) ∧ (0 ≤ 7 ∧ 7 < ((A 87).length : Int)) ∧ True) (f' := (24, [some (vR 1), some (vI (-7))], [vI (-7)], LAY (u (shA A) 87 (wr (A 87) 7 ((rd (A 87) 7) + 1))) (shF F), 0, 0)) hc93 10 rfl ⟨⟨by omega, by omega⟩, ⟨by omega, by omega⟩, ⟨by omega, by omega⟩, ⟨by omega, by omega⟩, trivial⟩ ?_
          refine R_reti hc93 rfl rfl ?_
          refine R_s (f' := (95, [some (vR 1), some (vI t), some (vI q), some (vI v), none], [vI (-7)], LAY (u (shA A) 87 (wr (A 87) 7 ((rd (A 87) 7) + 1))) (shF F), 0, 0)) hc66 0 rfl trivial ?_
          refine R_reti hc66 rfl rfl ?_
          first
            | (exfalso; omega; done)
            | exact ⟨(-7), (u A 87 (wr (A 87) 7 ((rd (A 87) 7) + 1))), F, REL_ref hR0 (by decide) (by decide), rfl, rfl, rfl, ⟨rfl, rfl, rfl, rfl, by first | exact Int.le_refl _ | (show F 3 ≤ F 3 + 1; omega), rfl, rfl, rfl, rfl, rfl, rfl⟩⟩
        · refine R_s (P := True) (f' := (59, [some (vR 1), some (vI t), some (vI q), some (vI v), none], [vI v], LAY (shA A) (shF F), 0, 0)) hc66 1 rfl trivial ?_
          refine R_cs hc66 rfl rfl ?_ (fun r G h => h)
          refine R_s (P := True) (f' := (1, [some (vI v)], [vI v], LAY (shA A) (shF F), 0, 0)) hc97 1 rfl trivial ?_
          refine R_if (t := 15) hc97 rfl rfl (fun (c8 : v < 0) => ?_) (fun (c8 : ¬ (v < 0)) => ?_)
          · refine R_s (P := True) (f' := (16, [some (vI v)], [vI 0], LAY (shA A) (shF F), 0, 0)) hc97 1 rfl trivial ?_
            refine R_retz hc97 rfl rfl (Or.inl rfl) ?_
            refine R_s (f' := (62, [some (vR 1), some (vI t), some (vI q), some (vI v), none], [vI 0], LAY (shA A) (shF F), 0, 0)) hc66 0 rfl trivial ?_
            refine R_if (t := 89) hc66 rfl rfl (fun (_ : 0 = 0) => ?_) (fun (z : ¬ (0 = 0)) => absurd (by decide) z)
            refine R_s (P := True) (f' := (92, [some (vR 1), some (vI t), some (vI q), some (vI v), none], [vI (-7), vR 1], LAY (shA A) (shF F), 0, 0)) hc66 2 rfl trivial ?_
            refine R_cv hc66 rfl rfl ?_ (fun r G h => h)
            refine R_s (P := True) (f' := (3, [some (vR 1), some (vI (-7))], [vI (-2), vI (-7)], LAY (shA A) (shF F), 0, 0)) hc93 2 rfl trivial ?_
            refine R_ic (t := 23) hc93 rfl rfl (fun (z : (-2) < (-7)) => absurd z (by decide)) (fun (_ : ¬ ((-2) < (-7))) => ?_)
            refine R_s (P := True) (f' := (9, [some (vR 1), some (vI (-7))], [vI (-8), vI (-7)], LAY (shA A) (shF F), 0, 0)) hc93 2 rfl trivial ?_
            refine R_ic (t := 23) hc93 rfl rfl (fun (z : (-7) < (-8)) => absurd z (by decide)) (fun (_ : ¬ ((-7) < (-8))) => ?_)
            refine R_s (P := inI 7 ∧ (0 ≤ 7 ∧ 7 < ((A 87).length : Int)) ∧ inI ((rd (A 87) 7) + 1) ∧ (0 ≤ 7 ∧ 7 < ((A 87).length : Int)) ∧ True) (f' := (24, [some (vR 1), some (vI (-7))], [vI (-7)], LAY (u (shA A) 87 (wr (A 87) 7 ((rd (A 87) 7) + 1))) (shF F), 0, 0)) hc93 10 rfl ⟨⟨by omega, by omega⟩, ⟨by omega, by omega⟩, ⟨by omega, by omega⟩, ⟨by omega, by omega⟩, trivial⟩ ?_
            refine R_reti hc93 rfl rfl ?_
            refine R_s (f' := (95, [some (vR 1), some (vI t), some (vI q), some (vI v), none], [vI (-7)], LAY (u (shA A) 87 (wr (A 87) 7 ((rd (A 87) 7) + 1))) (shF F), 0, 0)) hc66 0 rfl trivial ?_
            refine R_reti hc66 rfl rfl ?_
            first
              | (exfalso; omega; done)
              | exact ⟨(-7), (u A 87 (wr (A 87) 7 ((rd (A 87) 7) + 1))), F, REL_ref hR0 (by decide) (by decide), rfl, rfl, rfl, ⟨rfl, rfl, rfl, rfl, by first | exact Int.le_refl _ | (show F 3 ≤ F 3 + 1; omega), rfl, rfl, rfl, rfl, rfl, rfl⟩⟩
          · refine R_s (P := True) (f' := (8, [some (vI v)], [vI 9999, vI v], LAY (shA A) (shF F), 0, 0)) hc97 2 rfl trivial ?_
            refine R_ic (t := 15) hc97 rfl rfl (fun (c9 : 9999 < v) => ?_) (fun (c9 : ¬ (9999 < v)) => ?_)
            · refine R_s (P := True) (f' := (16, [some (vI v)], [vI 0], LAY (shA A) (shF F), 0, 0)) hc97 1 rfl trivial ?_
              refine R_retz hc97 rfl rfl (Or.inl rfl) ?_
              refine R_s (f' := (62, [some (vR 1), some (vI t), some (vI q), some (vI v), none], [vI 0], LAY (shA A) (shF F), 0, 0)) hc66 0 rfl trivial ?_
              refine R_if (t := 89) hc66 rfl rfl (fun (_ : 0 = 0) => ?_) (fun (z : ¬ (0 = 0)) => absurd (by decide) z)
              refine R_s (P := True) (f' := (92, [some (vR 1), some (vI t), some (vI q), some (vI v), none], [vI (-7), vR 1], LAY (shA A) (shF F), 0, 0)) hc66 2 rfl trivial ?_
              refine R_cv hc66 rfl rfl ?_ (fun r G h => h)
              refine R_s (P := True) (f' := (3, [some (vR 1), some (vI (-7))], [vI (-2), vI (-7)], LAY (shA A) (shF F), 0, 0)) hc93 2 rfl trivial ?_
              refine R_ic (t := 23) hc93 rfl rfl (fun (z : (-2) < (-7)) => absurd z (by decide)) (fun (_ : ¬ ((-2) < (-7))) => ?_)
              refine R_s (P := True) (f' := (9, [some (vR 1), some (vI (-7))], [vI (-8), vI (-7)], LAY (shA A) (shF F), 0, 0)) hc93 2 rfl trivial ?_
              refine R_ic (t := 23) hc93 rfl rfl (fun (z : (-7) < (-8)) => absurd z (by decide)) (fun (_ : ¬ ((-7) < (-8))) => ?_)
              refine R_s (P := inI 7 ∧ (0 ≤ 7 ∧ 7 < ((A 87).length : Int)) ∧ inI ((rd (A 87) 7) + 1) ∧ (0 ≤ 7 ∧ 7 < ((A 87).length : Int)) ∧ True) (f' := (24, [some (vR 1), some (vI (-7))], [vI (-7)], LAY (u (shA A) 87 (wr (A 87) 7 ((rd (A 87) 7) + 1))) (shF F), 0, 0)) hc93 10 rfl ⟨⟨by omega, by omega⟩, ⟨by omega, by omega⟩, ⟨by omega, by omega⟩, ⟨by omega, by omega⟩, trivial⟩ ?_
              refine R_reti hc93 rfl rfl ?_
              refine R_s (f' := (95, [some (vR 1), some (vI t), some (vI q), some (vI v), none], [vI (-7)], LAY (u (shA A) 87 (wr (A 87) 7 ((rd (A 87) 7) + 1))) (shF F), 0, 0)) hc66 0 rfl trivial ?_
              refine R_reti hc66 rfl rfl ?_
              first
                | (exfalso; omega; done)
                | exact ⟨(-7), (u A 87 (wr (A 87) 7 ((rd (A 87) 7) + 1))), F, REL_ref hR0 (by decide) (by decide), rfl, rfl, rfl, ⟨rfl, rfl, rfl, rfl, by first | exact Int.le_refl _ | (show F 3 ≤ F 3 + 1; omega), rfl, rfl, rfl, rfl, rfl, rfl⟩⟩
            · refine R_s (P := True) (f' := (16, [some (vI v)], [vI 1], LAY (shA A) (shF F), 0, 0)) hc97 2 rfl trivial ?_
              refine R_retz hc97 rfl rfl (Or.inr rfl) ?_
              refine R_s (f' := (62, [some (vR 1), some (vI t), some (vI q), some (vI v), none], [vI 1], LAY (shA A) (shF F), 0, 0)) hc66 0 rfl trivial ?_
              refine R_if (t := 89) hc66 rfl rfl (fun (z : 1 = 0) => absurd z (by decide)) (fun (_ : ¬ (1 = 0)) => ?_)
              refine R_s (P := (0 ≤ t ∧ t < ((A 14).length : Int)) ∧ (0 ≤ t ∧ t < ((A 14).length : Int)) ∧ True) (f' := (88, [some (vR 1), some (vI t), some (vI q), some (vI v), some (vI (rd (A 14) t))], [vI (rd (A 14) t)], LAY (u (shA A) 14 (wr (A 14) t v)) (shF F), 0, 0)) hc66 13 rfl ⟨⟨by omega, by omega⟩, ⟨by omega, by omega⟩, trivial⟩ ?_
              refine R_reti hc66 rfl rfl ?_
              first
                | (exfalso; omega; done)
                | exact ⟨rd (A 14) t, (u A 14 (wr (A 14) t v)), F, (REL_tell1 hR0 (by omega) (by omega)), rfl, rfl, rfl, ⟨rfl, rfl, rfl, rfl, by first | exact Int.le_refl _ | (show F 3 ≤ F 3 + 1; omega), rfl, rfl, rfl, rfl, rfl, rfl⟩⟩
      · refine R_s (P := True) (f' := (23, [some (vR 1), some (vI t), some (vI q), some (vI v), none], [vI v], LAY (shA A) (shF F), 0, 0)) hc66 1 rfl trivial ?_
        refine R_cs hc66 rfl rfl ?_ (fun r G h => h)
        refine R_s (P := True) (f' := (2, [some (vI v)], [vI 1, vI v], LAY (shA A) (shF F), 0, 0)) hc96 2 rfl trivial ?_
        refine R_ic (t := 16) hc96 rfl rfl (fun (c11 : v < 1) => ?_) (fun (c11 : ¬ (v < 1)) => ?_)
        · refine R_s (P := True) (f' := (17, [some (vI v)], [vI 0], LAY (shA A) (shF F), 0, 0)) hc96 1 rfl trivial ?_
          refine R_retz hc96 rfl rfl (Or.inl rfl) ?_
          refine R_s (f' := (26, [some (vR 1), some (vI t), some (vI q), some (vI v), none], [vI 0], LAY (shA A) (shF F), 0, 0)) hc66 0 rfl trivial ?_
          refine R_if (t := 53) hc66 rfl rfl (fun (_ : 0 = 0) => ?_) (fun (z : ¬ (0 = 0)) => absurd (by decide) z)
          refine R_s (P := True) (f' := (55, [some (vR 1), some (vI t), some (vI q), some (vI v), none], [vI 1, vI q], LAY (shA A) (shF F), 0, 0)) hc66 2 rfl trivial ?_
          refine R_ic (t := 89) hc66 rfl rfl (fun (_ : ¬ q = 1) => ?_) (fun (z : ¬ (¬ q = 1)) => absurd (show ¬ q = 1 by omega) z)
          refine R_s (P := True) (f' := (92, [some (vR 1), some (vI t), some (vI q), some (vI v), none], [vI (-7), vR 1], LAY (shA A) (shF F), 0, 0)) hc66 2 rfl trivial ?_
          refine R_cv hc66 rfl rfl ?_ (fun r G h => h)
          refine R_s (P := True) (f' := (3, [some (vR 1), some (vI (-7))], [vI (-2), vI (-7)], LAY (shA A) (shF F), 0, 0)) hc93 2 rfl trivial ?_
          refine R_ic (t := 23) hc93 rfl rfl (fun (z : (-2) < (-7)) => absurd z (by decide)) (fun (_ : ¬ ((-2) < (-7))) => ?_)
          refine R_s (P := True) (f' := (9, [some (vR 1), some (vI (-7))], [vI (-8), vI (-7)], LAY (shA A) (shF F), 0, 0)) hc93 2 rfl trivial ?_
          refine R_ic (t := 23) hc93 rfl rfl (fun (z : (-7) < (-8)) => absurd z (by decide)) (fun (_ : ¬ ((-7) < (-8))) => ?_)
          refine R_s (P := inI 7 ∧ (0 ≤ 7 ∧ 7 < ((A 87).length : Int)) ∧ inI ((rd (A 87) 7) + 1) ∧ (0 ≤ 7 ∧ 7 < ((A 87).length : Int)) ∧ True) (f' := (24, [some (vR 1), some (vI (-7))], [vI (-7)], LAY (u (shA A) 87 (wr (A 87) 7 ((rd (A 87) 7) + 1))) (shF F), 0, 0)) hc93 10 rfl ⟨⟨by omega, by omega⟩, ⟨by omega, by omega⟩, ⟨by omega, by omega⟩, ⟨by omega, by omega⟩, trivial⟩ ?_
          refine R_reti hc93 rfl rfl ?_
          refine R_s (f' := (95, [some (vR 1), some (vI t), some (vI q), some (vI v), none], [vI (-7)], LAY (u (shA A) 87 (wr (A 87) 7 ((rd (A 87) 7) + 1))) (shF F), 0, 0)) hc66 0 rfl trivial ?_
          refine R_reti hc66 rfl rfl ?_
          first
            | (exfalso; omega; done)
            | exact ⟨(-7), (u A 87 (wr (A 87) 7 ((rd (A 87) 7) + 1))), F, REL_ref hR0 (by decide) (by decide), rfl, rfl, rfl, ⟨rfl, rfl, rfl, rfl, by first | exact Int.le_refl _ | (show F 3 ≤ F 3 + 1; omega), rfl, rfl, rfl, rfl, rfl, rfl⟩⟩
        · refine R_s (P := True) (f' := (9, [some (vI v)], [vI 9999, vI v], LAY (shA A) (shF F), 0, 0)) hc96 2 rfl trivial ?_
          refine R_ic (t := 16) hc96 rfl rfl (fun (c12 : 9999 < v) => ?_) (fun (c12 : ¬ (9999 < v)) => ?_)
          · refine R_s (P := True) (f' := (17, [some (vI v)], [vI 0], LAY (shA A) (shF F), 0, 0)) hc96 1 rfl trivial ?_
            refine R_retz hc96 rfl rfl (Or.inl rfl) ?_
            refine R_s (f' := (26, [some (vR 1), some (vI t), some (vI q), some (vI v), none], [vI 0], LAY (shA A) (shF F), 0, 0)) hc66 0 rfl trivial ?_
            refine R_if (t := 53) hc66 rfl rfl (fun (_ : 0 = 0) => ?_) (fun (z : ¬ (0 = 0)) => absurd (by decide) z)
            refine R_s (P := True) (f' := (55, [some (vR 1), some (vI t), some (vI q), some (vI v), none], [vI 1, vI q], LAY (shA A) (shF F), 0, 0)) hc66 2 rfl trivial ?_
            refine R_ic (t := 89) hc66 rfl rfl (fun (_ : ¬ q = 1) => ?_) (fun (z : ¬ (¬ q = 1)) => absurd (show ¬ q = 1 by omega) z)
            refine R_s (P := True) (f' := (92, [some (vR 1), some (vI t), some (vI q), some (vI v), none], [vI (-7), vR 1], LAY (shA A) (shF F), 0, 0)) hc66 2 rfl trivial ?_
            refine R_cv hc66 rfl rfl ?_ (fun r G h => h)
            refine R_s (P := True) (f' := (3, [some (vR 1), some (vI (-7))], [vI (-2), vI (-7)], LAY (shA A) (shF F), 0, 0)) hc93 2 rfl trivial ?_
            refine R_ic (t := 23) hc93 rfl rfl (fun (z : (-2) < (-7)) => absurd z (by decide)) (fun (_ : ¬ ((-2) < (-7))) => ?_)
            refine R_s (P := True) (f' := (9, [some (vR 1), some (vI (-7))], [vI (-8), vI (-7)], LAY (shA A) (shF F), 0, 0)) hc93 2 rfl trivial ?_
            refine R_ic (t := 23) hc93 rfl rfl (fun (z : (-7) < (-8)) => absurd z (by decide)) (fun (_ : ¬ ((-7) < (-8))) => ?_)
            refine R_s (P := inI 7 ∧ (0 ≤ 7 ∧ 7 < ((A 87).length : Int)) ∧ inI ((rd (A 87) 7) + 1) ∧ (0 ≤ 7 ∧ 7 < ((A 87).length : Int)) ∧ True) (f' := (24, [some (vR 1), some (vI (-7))], [vI (-7)], LAY (u (shA A) 87 (wr (A 87) 7 ((rd (A 87) 7) + 1))) (shF F), 0, 0)) hc93 10 rfl ⟨⟨by omega, by omega⟩, ⟨by omega, by omega⟩, ⟨by omega, by omega⟩, ⟨by omega, by omega⟩, trivial⟩ ?_
            refine R_reti hc93 rfl rfl ?_
            refine R_s (f' := (95, [some (vR 1), some (vI t), some (vI q), some (vI v), none], [vI (-7)], LAY (u (shA A) 87 (wr (A 87) 7 ((rd (A 87) 7) + 1))) (shF F), 0, 0)) hc66 0 rfl trivial ?_
            refine R_reti hc66 rfl rfl ?_
            first
              | (exfalso; omega; done)
              | exact ⟨(-7), (u A 87 (wr (A 87) 7 ((rd (A 87) 7) + 1))), F, REL_ref hR0 (by decide) (by decide), rfl, rfl, rfl, ⟨rfl, rfl, rfl, rfl, by first | exact Int.le_refl _ | (show F 3 ≤ F 3 + 1; omega), rfl, rfl, rfl, rfl, rfl, rfl⟩⟩
          · refine R_s (P := True) (f' := (17, [some (vI v)], [vI 1], LAY (shA A) (shF F), 0, 0)) hc96 2 rfl trivial ?_
            refine R_retz hc96 rfl rfl (Or.inr rfl) ?_
            refine R_s (f' := (26, [some (vR 1), some (vI t), some (vI q), some (vI v), none], [vI 1], LAY (shA A) (shF F), 0, 0)) hc66 0 rfl trivial ?_
            refine R_if (t := 53) hc66 rfl rfl (fun (z : 1 = 0) => absurd z (by decide)) (fun (_ : ¬ (1 = 0)) => ?_)
            refine R_s (P := (0 ≤ t ∧ t < ((A 13).length : Int)) ∧ (0 ≤ t ∧ t < ((A 13).length : Int)) ∧ True) (f' := (52, [some (vR 1), some (vI t), some (vI q), some (vI v), some (vI (rd (A 13) t))], [vI (rd (A 13) t)], LAY (u (shA A) 13 (wr (A 13) t v)) (shF F), 0, 0)) hc66 13 rfl ⟨⟨by omega, by omega⟩, ⟨by omega, by omega⟩, trivial⟩ ?_
            refine R_reti hc66 rfl rfl ?_
            first
              | (exfalso; omega; done)
              | exact ⟨rd (A 13) t, (u A 13 (wr (A 13) t v)), F, (REL_tell0 hR0 (by omega) (by omega)), rfl, rfl, rfl, ⟨rfl, rfl, rfl, rfl, by first | exact Int.le_refl _ | (show F 3 ≤ F 3 + 1; omega), rfl, rfl, rfl, rfl, rfl, rfl⟩⟩

theorem op_ruin {c : Int} {A : Nat → List Int} {F : Nat → Int} (hR : REL c A F) (hc : c < 1000000) (t v : Int) (i_t : inI t) (i_v : inI v) : R 67 (0, L0 67 [vR 1, vI t, vI v], [], LAY (shA A) (shF F), 0, 0) (fun r G => ∃ (x : Int) (A' : Nat → List Int) (F' : Nat → Int), REL (c + 1) A' F' ∧ r = some (vI x) ∧ G = LAY (shA A') (shF F') ∧ A' 0 = A 0 ∧ KP A F A' F') := by
  have hR0 := hR
  obtain ⟨hL, hPE, hTH, hTP, hDE, hLE, hNO, hAC, hRO, hRE⟩ := hR
  have j_t := i_t
  unfold inI at j_t
  have j_v := i_v
  unfold inI at j_v
  have h87 : (A 87).length = 9 := hL 87 (by decide)
  have h3 : (A 3).length = 30 := hL 3 (by decide)
  have h4 : (A 4).length = 30 := hL 4 (by decide)
  have h5 : (A 5).length = 30 := hL 5 (by decide)
  have h6 : (A 6).length = 30 := hL 6 (by decide)
  have h7 : (A 7).length = 30 := hL 7 (by decide)
  have h94 : (A 94).length = 30 := hL 94 (by decide)
  have h13 : (A 13).length = 10 := hL 13 (by decide)
  have h14 : (A 14).length = 10 := hL 14 (by decide)
  have h15 : (A 15).length = 10 := hL 15 (by decide)
  have h16 : (A 16).length = 60 := hL 16 (by decide)
  have h80 : (A 80).length = 30 := hL 80 (by decide)
  have h81 : (A 81).length = 30 := hL 81 (by decide)
  have h82 : (A 82).length = 30 := hL 82 (by decide)
  have h83 : (A 83).length = 30 := hL 83 (by decide)
  have h84 : (A 84).length = 30 := hL 84 (by decide)
  have h85 : (A 85).length = 8 := hL 85 (by decide)
  have h101 : (A 101).length = 38 := hL 101 (by decide)
  have h102 : (A 102).length = 90 := hL 102 (by decide)
  have r2 := REFU_at hRE (k := 2) (by decide) (by decide) hc
  have r3 := REFU_at hRE (k := 3) (by decide) (by decide) hc
  have r4 := REFU_at hRE (k := 4) (by decide) (by decide) hc
  have r5 := REFU_at hRE (k := 5) (by decide) (by decide) hc
  have r6 := REFU_at hRE (k := 6) (by decide) (by decide) hc
  have r7 := REFU_at hRE (k := 7) (by decide) (by decide) hc
  have r8 := REFU_at hRE (k := 8) (by decide) (by decide) hc
  obtain ⟨t1, t2, t3, t4, t5, t6⟩ := hTH
  obtain ⟨p1, p2, p3, p4, p5, p6⟩ := hPE
  have tb := t4 t
  refine R_s (P := True) (f' := (5, [some (vR 1), some (vI t), some (vI v), none], [vI t, vR 12], LAY (shA A) (shF F), 0, 0)) hc67 3 rfl trivial ?_
  refine R_cv hc67 rfl rfl ?_ (fun r G h => h)
  refine R_s (P := True) (f' := (1, [some (vR 12), some (vI t)], [vI t], LAY (shA A) (shF F), 0, 0)) hc52 1 rfl trivial ?_
  refine R_if (t := 16) hc52 rfl rfl (fun (c1 : t < 0) => ?_) (fun (c1 : ¬ (t < 0)) => ?_)
  · refine R_s (P := True) (f' := (17, [some (vR 12), some (vI t)], [vI 0], LAY (shA A) (shF F), 0, 0)) hc52 1 rfl trivial ?_
    refine R_retz hc52 rfl rfl (Or.inl rfl) ?_
    refine R_s (f' := (8, [some (vR 1), some (vI t), some (vI v), none], [vI 0], LAY (shA A) (shF F), 0, 0)) hc67 0 rfl trivial ?_
    refine R_if (t := 18) hc67 rfl rfl (fun (z : ¬ 0 = 0) => absurd z (by decide)) (fun (_ : ¬ (¬ 0 = 0)) => ?_)
    refine R_s (P := True) (f' := (14, [some (vR 1), some (vI t), some (vI v), none], [vI (-3), vR 1], LAY (shA A) (shF F), 0, 0)) hc67 2 rfl trivial ?_
    refine R_cv hc67 rfl rfl ?_ (fun r G h => h)
    refine R_s (P := True) (f' := (3, [some (vR 1), some (vI (-3))], [vI (-2), vI (-3)], LAY (shA A) (shF F), 0, 0)) hc93 2 rfl trivial ?_
    refine R_ic (t := 23) hc93 rfl rfl (fun (z : (-2) < (-3)) => absurd z (by decide)) (fun (_ : ¬ ((-2) < (-3))) => ?_)
    refine R_s (P := True) (f' := (9, [some (vR 1), some (vI (-3))], [vI (-8), vI (-3)], LAY (shA A) (shF F), 0, 0)) hc93 2 rfl trivial ?_
    refine R_ic (t := 23) hc93 rfl rfl (fun (z : (-3) < (-8)) => absurd z (by decide)) (fun (_ : ¬ ((-3) < (-8))) => ?_)
    refine R_s (P := inI 3 ∧ (0 ≤ 3 ∧ 3 < ((A 87).length : Int)) ∧ inI ((rd (A 87) 3) + 1) ∧ (0 ≤ 3 ∧ 3 < ((A 87).length : Int)) ∧ True) (f' := (24, [some (vR 1), some (vI (-3))], [vI (-3)], LAY (u (shA A) 87 (wr (A 87) 3 ((rd (A 87) 3) + 1))) (shF F), 0, 0)) hc93 10 rfl ⟨⟨by omega, by omega⟩, ⟨by omega, by omega⟩, ⟨by omega, by omega⟩, ⟨by omega, by omega⟩, trivial⟩ ?_
    refine R_reti hc93 rfl rfl ?_
    refine R_s (f' := (17, [some (vR 1), some (vI t), some (vI v), none], [vI (-3)], LAY (u (shA A) 87 (wr (A 87) 3 ((rd (A 87) 3) + 1))) (shF F), 0, 0)) hc67 0 rfl trivial ?_
    refine R_reti hc67 rfl rfl ?_
    first
      | (exfalso; omega; done)
      | exact ⟨(-3), (u A 87 (wr (A 87) 3 ((rd (A 87) 3) + 1))), F, REL_ref hR0 (by decide) (by decide), rfl, rfl, rfl, ⟨rfl, rfl, rfl, rfl, by first | exact Int.le_refl _ | (show F 3 ≤ F 3 + 1; omega), rfl, rfl, rfl, rfl, rfl, rfl⟩⟩
  · refine R_s (P := True) (f' := (9, [some (vR 12), some (vI t)], [vI (F 4), vI t], LAY (shA A) (shF F), 0, 0)) hc52 3 rfl trivial ?_
    refine R_ic (t := 16) hc52 rfl rfl (fun (c2 : F 4 ≤ t) => ?_) (fun (c2 : ¬ (F 4 ≤ t)) => ?_)
    · refine R_s (P := True) (f' := (17, [some (vR 12), some (vI t)], [vI 0], LAY (shA A) (shF F), 0, 0)) hc52 1 rfl trivial ?_
      refine R_retz hc52 rfl rfl (Or.inl rfl) ?_
      refine R_s (f' := (8, [some (vR 1), some (vI t), some (vI v), none], [vI 0], LAY (shA A) (shF F), 0, 0)) hc67 0 rfl trivial ?_
      refine R_if (t := 18) hc67 rfl rfl (fun (z : ¬ 0 = 0) => absurd z (by decide)) (fun (_ : ¬ (¬ 0 = 0)) => ?_)
      refine R_s (P := True) (f' := (14, [some (vR 1), some (vI t), some (vI v), none], [vI (-3), vR 1], LAY (shA A) (shF F), 0, 0)) hc67 2 rfl trivial ?_
      refine R_cv hc67 rfl rfl ?_ (fun r G h => h)
      refine R_s (P := True) (f' := (3, [some (vR 1), some (vI (-3))], [vI (-2), vI (-3)], LAY (shA A) (shF F), 0, 0)) hc93 2 rfl trivial ?_
      refine R_ic (t := 23) hc93 rfl rfl (fun (z : (-2) < (-3)) => absurd z (by decide)) (fun (_ : ¬ ((-2) < (-3))) => ?_)
      refine R_s (P := True) (f' := (9, [some (vR 1), some (vI (-3))], [vI (-8), vI (-3)], LAY (shA A) (shF F), 0, 0)) hc93 2 rfl trivial ?_
      refine R_ic (t := 23) hc93 rfl rfl (fun (z : (-3) < (-8)) => absurd z (by decide)) (fun (_ : ¬ ((-3) < (-8))) => ?_)
      refine R_s (P := inI 3 ∧ (0 ≤ 3 ∧ 3 < ((A 87).length : Int)) ∧ inI ((rd (A 87) 3) + 1) ∧ (0 ≤ 3 ∧ 3 < ((A 87).length : Int)) ∧ True) (f' := (24, [some (vR 1), some (vI (-3))], [vI (-3)], LAY (u (shA A) 87 (wr (A 87) 3 ((rd (A 87) 3) + 1))) (shF F), 0, 0)) hc93 10 rfl ⟨⟨by omega, by omega⟩, ⟨by omega, by omega⟩, ⟨by omega, by omega⟩, ⟨by omega, by omega⟩, trivial⟩ ?_
      refine R_reti hc93 rfl rfl ?_
      refine R_s (f' := (17, [some (vR 1), some (vI t), some (vI v), none], [vI (-3)], LAY (u (shA A) 87 (wr (A 87) 3 ((rd (A 87) 3) + 1))) (shF F), 0, 0)) hc67 0 rfl trivial ?_
      refine R_reti hc67 rfl rfl ?_
      first
        | (exfalso; omega; done)
        | exact ⟨(-3), (u A 87 (wr (A 87) 3 ((rd (A 87) 3) + 1))), F, REL_ref hR0 (by decide) (by decide), rfl, rfl, rfl, ⟨rfl, rfl, rfl, rfl, by first | exact Int.le_refl _ | (show F 3 ≤ F 3 + 1; omega), rfl, rfl, rfl, rfl, rfl, rfl⟩⟩
    · refine R_s (P := True) (f' := (17, [some (vR 12), some (vI t)], [vI 1], LAY (shA A) (shF F), 0, 0)) hc52 2 rfl trivial ?_
      refine R_retz hc52 rfl rfl (Or.inr rfl) ?_
      refine R_s (f' := (8, [some (vR 1), some (vI t), some (vI v), none], [vI 1], LAY (shA A) (shF F), 0, 0)) hc67 0 rfl trivial ?_
      refine R_if (t := 18) hc67 rfl rfl (fun (_ : ¬ 1 = 0) => ?_) (fun (z : ¬ (¬ 1 = 0)) => absurd (by decide) z)
      refine R_s (P := True) (f' := (19, [some (vR 1), some (vI t), some (vI v), none], [vI v], LAY (shA A) (shF F), 0, 0)) hc67 1 rfl trivial ?_
      refine R_cs hc67 rfl rfl ?_ (fun r G h => h)
      refine R_s (P := True) (f' := (1, [some (vI v)], [vI v], LAY (shA A) (shF F), 0, 0)) hc94 1 rfl trivial ?_
      refine R_if (t := 9) hc94 rfl rfl (fun (c4 : v = 0) => ?_) (fun (c4 : ¬ (v = 0)) => ?_)
      · refine R_s (P := True) (f' := (14, [some (vI v)], [vI 1], LAY (shA A) (shF F), 0, 0)) hc94 2 rfl trivial ?_
        refine R_retz hc94 rfl rfl (Or.inr rfl) ?_
        refine R_s (f' := (22, [some (vR 1), some (vI t), some (vI v), none], [vI 1], LAY (shA A) (shF F), 0, 0)) hc67 0 rfl trivial ?_
        refine R_if (t := 32) hc67 rfl rfl (fun (_ : ¬ 1 = 0) => ?_) (fun (z : ¬ (¬ 1 = 0)) => absurd (by decide) z)
        refine R_s (P := (0 ≤ t ∧ t < ((A 15).length : Int)) ∧ True) (f' := (41, [some (vR 1), some (vI t), some (vI v), none], [vI (rd (A 15) t)], LAY (shA A) (shF F), 0, 0)) hc67 5 rfl ⟨⟨by omega, by omega⟩, trivial⟩ ?_
        refine R_cs hc67 rfl rfl ?_ (fun r G h => h)
        refine R_s (P := True) (f' := (1, [some (vI (rd (A 15) t))], [vI (rd (A 15) t)], LAY (shA A) (shF F), 0, 0)) hc95 1 rfl trivial ?_
        refine R_if (t := 8) hc95 rfl rfl (fun (c6 : rd (A 15) t = 0) => ?_) (fun (c6 : ¬ (rd (A 15) t = 0)) => ?_)
        · refine R_s (P := True) (f' := (9, [some (vI (rd (A 15) t))], [vI 0], LAY (shA A) (shF F), 0, 0)) hc95 1 rfl trivial ?_
          refine R_reti hc95 rfl rfl ?_
          refine R_s (f' := (44, [some (vR 1), some (vI t), some (vI v), none], [vI 0], LAY (shA A) (shF F), 0, 0)) hc67 0 rfl trivial ?_
          refine R_s (P := True) (f' := (55, [some (vR 1), some (vI t), some (vI v), some (vI 0)], [vI 1, vI v, vI t, vR 15], LAY (shA A) (shF F), 0, 0)) hc67 7 rfl trivial ?_
          refine R_ic (t := 62) hc67 rfl rfl (fun (_ : ¬ v = 1) => ?_) (fun (z : ¬ (¬ v = 1)) => absurd (show ¬ v = 1 by omega) z)
          refine R_s (P := ((0 ≤ t ∧ t < ((A 15).length : Int)) ∧ (0 = 0 ∨ 0 = 1)) ∧ True) (f' := (65, [some (vR 1), some (vI t), some (vI v), some (vI 0)], [vI 0], LAY (u (shA A) 15 (wr (A 15) t 0)) (shF F), 0, 0)) hc67 3 rfl ⟨⟨⟨by omega, by omega⟩, by omega⟩, trivial⟩ ?_
          refine R_reti hc67 rfl rfl ?_
          first
            | (exfalso; omega; done)
            | exact ⟨0, (u A 15 (wr (A 15) t 0)), F, (REL_ruin hR0 (by decide) (by omega)), rfl, rfl, rfl, ⟨rfl, rfl, rfl, rfl, by first | exact Int.le_refl _ | (show F 3 ≤ F 3 + 1; omega), rfl, rfl, rfl, rfl, rfl, rfl⟩⟩
        · refine R_s (P := True) (f' := (9, [some (vI (rd (A 15) t))], [vI 1], LAY (shA A) (shF F), 0, 0)) hc95 2 rfl trivial ?_
          refine R_reti hc95 rfl rfl ?_
          refine R_s (f' := (44, [some (vR 1), some (vI t), some (vI v), none], [vI 1], LAY (shA A) (shF F), 0, 0)) hc67 0 rfl trivial ?_
          refine R_s (P := True) (f' := (55, [some (vR 1), some (vI t), some (vI v), some (vI 1)], [vI 1, vI v, vI t, vR 15], LAY (shA A) (shF F), 0, 0)) hc67 7 rfl trivial ?_
          refine R_ic (t := 62) hc67 rfl rfl (fun (_ : ¬ v = 1) => ?_) (fun (z : ¬ (¬ v = 1)) => absurd (show ¬ v = 1 by omega) z)
          refine R_s (P := ((0 ≤ t ∧ t < ((A 15).length : Int)) ∧ (0 = 0 ∨ 0 = 1)) ∧ True) (f' := (65, [some (vR 1), some (vI t), some (vI v), some (vI 1)], [vI 1], LAY (u (shA A) 15 (wr (A 15) t 0)) (shF F), 0, 0)) hc67 3 rfl ⟨⟨⟨by omega, by omega⟩, by omega⟩, trivial⟩ ?_
          refine R_reti hc67 rfl rfl ?_
          first
            | (exfalso; omega; done)
            | exact ⟨1, (u A 15 (wr (A 15) t 0)), F, (REL_ruin hR0 (by decide) (by omega)), rfl, rfl, rfl, ⟨rfl, rfl, rfl, rfl, by first | exact Int.le_refl _ | (show F 3 ≤ F 3 + 1; omega), rfl, rfl, rfl, rfl, rfl, rfl⟩⟩
      · refine R_s (P := True) (f' := (6, [some (vI v)], [vI 1, vI v], LAY (shA A) (shF F), 0, 0)) hc94 2 rfl trivial ?_
        refine R_ic (t := 13) hc94 rfl rfl (fun (c5 : ¬ v = 1) => ?_) (fun (c5 : ¬ (¬ v = 1)) => ?_)
        · refine R_s (P := True) (f' := (14, [some (vI v)], [vI 0], LAY (shA A) (shF F), 0, 0)) hc94 1 rfl trivial ?_
          refine R_retz hc94 rfl rfl (Or.inl rfl) ?_
          refine R_s (f' := (22, [some (vR 1), some (vI t), some (vI v), none], [vI 0], LAY (shA A) (shF F), 0, 0)) hc67 0 rfl trivial ?_
          refine R_if (t := 32) hc67 rfl rfl (fun (z : ¬ 0 = 0) => absurd z (by decide)) (fun (_ : ¬ (¬ 0 = 0)) => ?_)
          refine R_s (P := True) (f' := (28, [some (vR 1), some (vI t), some (vI v), none], [vI (-7), vR 1], LAY (shA A) (shF F), 0, 0)) hc67 2 rfl trivial ?_
          refine R_cv hc67 rfl rfl ?_ (fun r G h => h)
          refine R_s (P := True) (f' := (3, [some (vR 1), some (vI (-7))], [vI (-2), vI (-7)], LAY (shA A) (shF F), 0, 0)) hc93 2 rfl trivial ?_
          refine R_ic (t := 23) hc93 rfl rfl (fun (z : (-2) < (-7)) => absurd z (by decide)) (fun (_ : ¬ ((-2) < (-7))) => ?_)
          refine R_s (P := True) (f' := (9, [some (vR 1), some (vI (-7))], [vI (-8), vI (-7)], LAY (shA A) (shF F), 0, 0)) hc93 2 rfl trivial ?_
          refine R_ic (t := 23) hc93 rfl rfl (fun (z : (-7) < (-8)) => absurd z (by decide)) (fun (_ : ¬ ((-7) < (-8))) => ?_)
          refine R_s (P := inI 7 ∧ (0 ≤ 7 ∧ 7 < ((A 87).length : Int)) ∧ inI ((rd (A 87) 7) + 1) ∧ (0 ≤ 7 ∧ 7 < ((A 87).length : Int)) ∧ True) (f' := (24, [some (vR 1), some (vI (-7))], [vI (-7)], LAY (u (shA A) 87 (wr (A 87) 7 ((rd (A 87) 7) + 1))) (shF F), 0, 0)) hc93 10 rfl ⟨⟨by omega, by omega⟩, ⟨by omega, by omega⟩, ⟨by omega, by omega⟩, ⟨by omega, by omega⟩, trivial⟩ ?_
          refine R_reti hc93 rfl rfl ?_
          refine R_s (f' := (31, [some (vR 1), some (vI t), some (vI v), none], [vI (-7)], LAY (u (shA A) 87 (wr (A 87) 7 ((rd (A 87) 7) + 1))) (shF F), 0, 0)) hc67 0 rfl trivial ?_
          refine R_reti hc67 rfl rfl ?_
          first
            | (exfalso; omega; done)
            | exact ⟨(-7), (u A 87 (wr (A 87) 7 ((rd (A 87) 7) + 1))), F, REL_ref hR0 (by decide) (by decide), rfl, rfl, rfl, ⟨rfl, rfl, rfl, rfl, by first | exact Int.le_refl _ | (show F 3 ≤ F 3 + 1; omega), rfl, rfl, rfl, rfl, rfl, rfl⟩⟩
        · refine R_s (P := True) (f' := (14, [some (vI v)], [vI 1], LAY (shA A) (shF F), 0, 0)) hc94 2 rfl trivial ?_
          refine R_retz hc94 rfl rfl (Or.inr rfl) ?_
          refine R_s (f' := (22, [some (vR 1), some (vI t), some (vI v), none], [vI 1], LAY (shA A) (shF F), 0, 0)) hc67 0 rfl trivial ?_
          refine R_if (t := 32) hc67 rfl rfl (fun (_ : ¬ 1 = 0) => ?_) (fun (z : ¬ (¬ 1 = 0)) => absurd (by decide) z)
          refine R_s (P := (0 ≤ t ∧ t < ((A 15).length : Int)) ∧ True) (f' := (41, [some (vR 1), some (vI t), some (vI v), none], [vI (rd (A 15) t)], LAY (shA A) (shF F), 0, 0)) hc67 5 rfl ⟨⟨by omega, by omega⟩, trivial⟩ ?_
          refine R_cs hc67 rfl rfl ?_ (fun r G h => h)
          refine R_s (P := True) (f' := (1, [some (vI (rd (A 15) t))], [vI (rd (A 15) t)], LAY (shA A) (shF F), 0, 0)) hc95 1 rfl trivial ?_
          refine R_if (t := 8) hc95 rfl rfl (fun (c7 : rd (A 15) t = 0) => ?_) (fun (c7 : ¬ (rd (A 15) t = 0)) => ?_)
          · refine R_s (P := True) (f' := (9, [some (vI (rd (A 15) t))], [vI 0], LAY (shA A) (shF F), 0, 0)) hc95 1 rfl trivial ?_
            refine R_reti hc95 rfl rfl ?_
            refine R_s (f' := (44, [some (vR 1), some (vI t), some (vI v), none], [vI 0], LAY (shA A) (shF F), 0, 0)) hc67 0 rfl trivial ?_
            refine R_s (P := True) (f' := (55, [some (vR 1), some (vI t), some (vI v), some (vI 0)], [vI 1, vI v, vI t, vR 15], LAY (shA A) (shF F), 0, 0)) hc67 7 rfl trivial ?_
            refine R_ic (t := 62) hc67 rfl rfl (fun (z : ¬ v = 1) => absurd z (by omega)) (fun (_ : ¬ (¬ v = 1)) => ?_)
            refine R_s (P := ((0 ≤ t ∧ t < ((A 15).length : Int)) ∧ (1 = 0 ∨ 1 = 1)) ∧ True) (f' := (65, [some (vR 1), some (vI t), some (vI v), some (vI 0)], [vI 0], LAY (u (shA A) 15 (wr (A 15) t 1)) (shF F), 0, 0)) hc67 4 rfl ⟨⟨⟨by omega, by omega⟩, by omega⟩, trivial⟩ ?_
            refine R_reti hc67 rfl rfl ?_
            first
              | (exfalso; omega; done)
              | exact ⟨0, (u A 15 (wr (A 15) t 1)), F, (REL_ruin hR0 (by decide) (by omega)), rfl, rfl, rfl, ⟨rfl, rfl, rfl, rfl, by first | exact Int.le_refl _ | (show F 3 ≤ F 3 + 1; omega), rfl, rfl, rfl, rfl, rfl, rfl⟩⟩
          · refine R_s (P := True) (f' := (9, [some (vI (rd (A 15) t))], [vI 1], LAY (shA A) (shF F), 0, 0)) hc95 2 rfl trivial ?_
            refine R_reti hc95 rfl rfl ?_
            refine R_s (f' := (44, [some (vR 1), some (vI t), some (vI v), none], [vI 1], LAY (shA A) (shF F), 0, 0)) hc67 0 rfl trivial ?_
            refine R_s (P := True) (f' := (55, [some (vR 1), some (vI t), some (vI v), some (vI 1)], [vI 1, vI v, vI t, vR 15], LAY (shA A) (shF F), 0, 0)) hc67 7 rfl trivial ?_
            refine R_ic (t := 62) hc67 rfl rfl (fun (z : ¬ v = 1) => absurd z (by omega)) (fun (_ : ¬ (¬ v = 1)) => ?_)
            refine R_s (P := ((0 ≤ t ∧ t < ((A 15).length : Int)) ∧ (1 = 0 ∨ 1 = 1)) ∧ True) (f' := (65, [some (vR 1), some (vI t), some (vI v), some (vI 1)], [vI 1], LAY (u (shA A) 15 (wr (A 15) t 1)) (shF F), 0, 0)) hc67 4 rfl ⟨⟨⟨by omega, by omega⟩, by omega⟩, trivial⟩ ?_
            refine R_reti hc67 rfl rfl ?_
            first
              | (exfalso; omega; done)
              | exact ⟨1, (u A 15 (wr (A 15) t 1)), F, (REL_ruin hR0 (by decide) (by omega)), rfl, rfl, rfl, ⟨rfl, rfl, rfl, rfl, by first | exact Int.le_refl _ | (show F 3 ≤ F 3 + 1; omega), rfl, rfl, rfl, rfl, rfl, rfl⟩⟩

theorem op_person {c : Int} {A : Nat → List Int} {F : Nat → Int} (hR : REL c A F) (hc : c < 1000000) (p b : Int) (i_p : inI p) (i_b : inI b) : R 60 (0, L0 60 [vR 1, vI p, vI b], [], LAY (shA A) (shF F), 0, 0) (fun r G => ∃ (x : Int) (A' : Nat → List Int) (F' : Nat → Int), REL (c + 1) A' F' ∧ r = some (vI x) ∧ G = LAY (shA A') (shF F') ∧ A' 0 = A 0 ∧ KP A F A' F' ∧ (F 3 = 0 → p = -1 → 0 ≤ b → b ≤ 600 → F' 3 = 1)) := by
  have hR0 := hR
  obtain ⟨hL, hPE, hTH, hTP, hDE, hLE, hNO, hAC, hRO, hRE⟩ := hR
  have j_p := i_p
  unfold inI at j_p
  have j_b := i_b
  unfold inI at j_b
  have h87 : (A 87).length = 9 := hL 87 (by decide)
  have h3 : (A 3).length = 30 := hL 3 (by decide)
  have h4 : (A 4).length = 30 := hL 4 (by decide)
  have h5 : (A 5).length = 30 := hL 5 (by decide)
  have h6 : (A 6).length = 30 := hL 6 (by decide)
  have h7 : (A 7).length = 30 := hL 7 (by decide)
  have h94 : (A 94).length = 30 := hL 94 (by decide)
  have h13 : (A 13).length = 10 := hL 13 (by decide)
  have h14 : (A 14).length = 10 := hL 14 (by decide)
  have h15 : (A 15).length = 10 := hL 15 (by decide)
  have h16 : (A 16).length = 60 := hL 16 (by decide)
  have h80 : (A 80).length = 30 := hL 80 (by decide)
  have h81 : (A 81).length = 30 := hL 81 (by decide)
  have h82 : (A 82).length = 30 := hL 82 (by decide)
  have h83 : (A 83).length = 30 := hL 83 (by decide)
  have h84 : (A 84).length = 30 := hL 84 (by decide)
  have h85 : (A 85).length = 8 := hL 85 (by decide)
  have h101 : (A 101).length = 38 := hL 101 (by decide)
  have h102 : (A 102).length = 90 := hL 102 (by decide)
  have r2 := REFU_at hRE (k := 2) (by decide) (by decide) hc
  have r3 := REFU_at hRE (k := 3) (by decide) (by decide) hc
  have r4 := REFU_at hRE (k := 4) (by decide) (by decide) hc
  have r5 := REFU_at hRE (k := 5) (by decide) (by decide) hc
  have r6 := REFU_at hRE (k := 6) (by decide) (by decide) hc
  have r7 := REFU_at hRE (k := 7) (by decide) (by decide) hc
  have r8 := REFU_at hRE (k := 8) (by decide) (by decide) hc
  obtain ⟨t1, t2, t3, t4, t5, t6⟩ := hTH
  obtain ⟨p1, p2, p3, p4, p5, p6⟩ := hPE
  have q3 := p3 p
  refine R_s (P := True) (f' := (2, [some (vR 1), some (vI p), some (vI b)], [vI (-1), vI p], LAY (shA A) (shF F), 0, 0)) hc60 2 rfl trivial ?_
  refine R_ic (t := 23) hc60 rfl rfl (fun (c1 : p = (-1)) => ?_) (fun (c1 : ¬ (p = (-1))) => ?_)
  · refine R_s (P := True) (f' := (29, [some (vR 1), some (vI p), some (vI b)], [vI p, vR 2, vI b], LAY (shA A) (shF F), 0, 0)) hc60 4 rfl trivial ?_
    refine R_cv hc60 rfl rfl ?_ (fun r G h => h)
    refine R_s (P := True) (f' := (2, [some (vR 2), some (vI p)], [vI p, vR 2], LAY (shA A) (shF F), 0, 0)) hc6 2 rfl trivial ?_
    refine R_cv hc6 rfl rfl ?_ (fun r G h => h)
    refine R_s (P := True) (f' := (1, [some (vR 2), some (vI p)], [vI p], LAY (shA A) (shF F), 0, 0)) hc5 1 rfl trivial ?_
    refine R_if (t := 16) hc5 rfl rfl (fun (_ : p < 0) => ?_) (fun (z : ¬ (p < 0)) => absurd (show p < 0 by omega) z)
    refine R_s (P := True) (f' := (17, [some (vR 2), some (vI p)], [vI 0], LAY (shA A) (shF F), 0, 0)) hc5 1 rfl trivial ?_
    refine R_retz hc5 rfl rfl (Or.inl rfl) ?_
    refine R_s (f' := (5, [some (vR 2), some (vI p)], [vI 0], LAY (shA A) (shF F), 0, 0)) hc6 0 rfl trivial ?_
    refine R_if (t := 17) hc6 rfl rfl (fun (_ : 0 = 0) => ?_) (fun (z : ¬ (0 = 0)) => absurd (by decide) z)
    refine R_s (P := True) (f' := (18, [some (vR 2), some (vI p)], [vI 0], LAY (shA A) (shF F), 0, 0)) hc6 1 rfl trivial ?_
    refine R_reti hc6 rfl rfl ?_
    refine R_s (f' := (32, [some (vR 1), some (vI p), some (vI b)], [vI 0, vI b], LAY (shA A) (shF F), 0, 0)) hc60 0 rfl trivial ?_
    refine R_ic (t := 42) hc60 rfl rfl (fun (c4 : b < 0) => ?_) (fun (c4 : ¬ (b < 0)) => ?_)
    · refine R_s (P := True) (f' := (45, [some (vR 1), some (vI p), some (vI b)], [vI (-7), vR 1], LAY (shA A) (shF F), 0, 0)) hc60 2 rfl trivial ?_
      refine R_cv hc60 rfl rfl ?_ (fun r G h => h)
      refine R_s (P := True) (f' := (3, [some (vR 1), some (vI (-7))], [vI (-2), vI (-7)], LAY (shA A) (shF F), 0, 0)) hc93 2 rfl trivial ?_
      refine R_ic (t := 23) hc93 rfl rfl (fun (z : (-2) < (-7)) => absurd z (by decide)) (fun (_ : ¬ ((-2) < (-7))) => ?_)
      refine R_s (P := True) (f' := (9, [some (vR 1), some (vI (-7))], [vI (-8), vI (-7)], LAY (shA A) (shF F), 0, 0)) hc93 2 rfl trivial ?_
      refine R_ic (t := 23) hc93 rfl rfl (fun (z : (-7) < (-8)) => absurd z (by decide)) (fun (_ : ¬ ((-7) < (-8))) => ?_)
      refine R_s (P := inI 7 ∧ (0 ≤ 7 ∧ 7 < ((A 87).length : Int)) ∧ inI ((rd (A 87) 7) + 1) ∧ (0 ≤ 7 ∧ 7 < ((A 87).length : Int)) ∧ True) (f' := (24, [some (vR 1), some (vI (-7))], [vI (-7)], LAY (u (shA A) 87 (wr (A 87) 7 ((rd (A 87) 7) + 1))) (shF F), 0, 0)) hc93 10 rfl ⟨⟨by omega, by omega⟩, ⟨by omega, by omega⟩, ⟨by omega, by omega⟩, ⟨by omega, by omega⟩, trivial⟩ ?_
      refine R_reti hc93 rfl rfl ?_
      refine R_s (f' := (48, [some (vR 1), some (vI p), some (vI b)], [vI (-7)], LAY (u (shA A) 87 (wr (A 87) 7 ((rd (A 87) 7) + 1))) (shF F), 0, 0)) hc60 0 rfl trivial ?_
      refine R_reti hc60 rfl rfl ?_
      first
        | (exfalso; omega; done)
        | exact ⟨(-7), (u A 87 (wr (A 87) 7 ((rd (A 87) 7) + 1))), F, REL_ref hR0 (by decide) (by decide), rfl, rfl, rfl, ⟨⟨rfl, rfl, rfl, rfl, by first | exact Int.le_refl _ | (show F 3 ≤ F 3 + 1; omega), rfl, rfl, rfl, rfl, rfl, rfl⟩, fun h1 h2 h3 h4 => by first | (exfalso; omega; done) | (show F 3 + 1 = 1; omega)⟩⟩
    · refine R_s (P := True) (f' := (39, [some (vR 1), some (vI p), some (vI b)], [vI 700, vI b], LAY (shA A) (shF F), 0, 0)) hc60 2 rfl trivial ?_
      refine R_ic (t := 49) hc60 rfl rfl (fun (c7 : b ≤ 700) => ?_) (fun (c7 : ¬ (b ≤ 700)) => ?_)
      · refine R_s (P := True) (f' := (58, [some (vR 1), some (vI p), some (vI b)], [vI 30, vI (F 3)], LAY (shA A) (shF F), 0, 0)) hc60 4 rfl trivial ?_
        refine R_ic (t := 68) hc60 rfl rfl (fun (c8 : F 3 < 30) => ?_) (fun (c8 : ¬ (F 3 < 30)) => ?_)
        · refine R_s (P := True) (f' := (74, [some (vR 1), some (vI p), some (vI b)], [vI b, vI p, vR 2], LAY (shA A) (shF F), 0, 0)) hc60 4 rfl trivial ?_
          refine R_cv hc60 rfl rfl ?_ (fun r G h => h)
          refine R_s (P := (0 ≤ F 3 ∧ F 3 < ((A 3).length : Int)) ∧ (0 ≤ F 3 ∧ F 3 < ((A 4).length : Int)) ∧ (0 ≤ F 3 ∧ F 3 < ((A 5).length : Int)) ∧ inI ((F 3) + 1) ∧ True) (f' := (37, [some (vR 2), some (vI p), some (vI b), some (vI (F 3))], [vI (F 3)], LAY (u (u (u (shA A) 3 (wr (A 3) (F 3) p)) 4 (wr (A 4) (F 3) b)) 5 (wr (A 5) (F 3) (-1))) (u (shF F) 3 ((F 3) + 1)), 0, 0)) hc7 25 rfl ⟨⟨by omega, by omega⟩, ⟨by omega, by omega⟩, ⟨by omega, by omega⟩, ⟨by omega, by omega⟩, trivial⟩ ?_
          refine R_reti hc7 rfl rfl ?_
          refine R_s (f' := (77, [some (vR 1), some (vI p), some (vI b)], [vI (F 3)], LAY (u (u (u (shA A) 3 (wr (A 3) (F 3) p)) 4 (wr (A 4) (F 3) b)) 5 (wr (A 5) (F 3) (-1))) (u (shF F) 3 ((F 3) + 1)), 0, 0)) hc60 0 rfl trivial ?_
          refine R_reti hc60 rfl rfl ?_
          first
            | (exfalso; omega; done)
            | exact ⟨F 3, (u (u (u A 3 (wr (A 3) (F 3) p)) 4 (wr (A 4) (F 3) b)) 5 (wr (A 5) (F 3) (-1))), (u F 3 ((F 3) + 1)), (REL_person hR0 (by omega) (by omega) (by omega)), rfl, rfl, rfl, ⟨⟨rfl, rfl, rfl, rfl, by first | exact Int.le_refl _ | (show F 3 ≤ F 3 + 1; omega), rfl, rfl, rfl, rfl, rfl, rfl⟩, fun h1 h2 h3 h4 => by first | (exfalso; omega; done) | (show F 3 + 1 = 1; omega)⟩⟩
        · refine R_s (P := True) (f' := (64, [some (vR 1), some (vI p), some (vI b)], [vI (-8), vR 1], LAY (shA A) (shF F), 0, 0)) hc60 2 rfl trivial ?_
          refine R_cv hc60 rfl rfl ?_ (fun r G h => h)
          refine R_s (P := True) (f' := (3, [some (vR 1), some (vI (-8))], [vI (-2), vI (-8)], LAY (shA A) (shF F), 0, 0)) hc93 2 rfl trivial ?_
          refine R_ic (t := 23) hc93 rfl rfl (fun (z : (-2) < (-8)) => absurd z (by decide)) (fun (_ : ¬ ((-2) < (-8))) => ?_)
          refine R_s (P := True) (f' := (9, [some (vR 1), some (vI (-8))], [vI (-8), vI (-8)], LAY (shA A) (shF F), 0, 0)) hc93 2 rfl trivial ?_
          refine R_ic (t := 23) hc93 rfl rfl (fun (z : (-8) < (-8)) => absurd z (by decide)) (fun (_ : ¬ ((-8) < (-8))) => ?_)
          refine R_s (P := inI 8 ∧ (0 ≤ 8 ∧ 8 < ((A 87).length : Int)) ∧ inI ((rd (A 87) 8) + 1) ∧ (0 ≤ 8 ∧ 8 < ((A 87).length : Int)) ∧ True) (f' := (24, [some (vR 1), some (vI (-8))], [vI (-8)], LAY (u (shA A) 87 (wr (A 87) 8 ((rd (A 87) 8) + 1))) (shF F), 0, 0)) hc93 10 rfl ⟨⟨by omega, by omega⟩, ⟨by omega, by omega⟩, ⟨by omega, by omega⟩, ⟨by omega, by omega⟩, trivial⟩ ?_
          refine R_reti hc93 rfl rfl ?_
          refine R_s (f' := (67, [some (vR 1), some (vI p), some (vI b)], [vI (-8)], LAY (u (shA A) 87 (wr (A 87) 8 ((rd (A 87) 8) + 1))) (shF F), 0, 0)) hc60 0 rfl trivial ?_
          refine R_reti hc60 rfl rfl ?_
          first
            | (exfalso; omega; done)
            | exact ⟨(-8), (u A 87 (wr (A 87) 8 ((rd (A 87) 8) + 1))), F, REL_ref hR0 (by decide) (by decide), rfl, rfl, rfl, ⟨⟨rfl, rfl, rfl, rfl, by first | exact Int.le_refl _ | (show F 3 ≤ F 3 + 1; omega), rfl, rfl, rfl, rfl, rfl, rfl⟩, fun h1 h2 h3 h4 => by first | (exfalso; omega; done) | (show F 3 + 1 = 1; omega)⟩⟩
      · refine R_s (P := True) (f' := (45, [some (vR 1), some (vI p), some (vI b)], [vI (-7), vR 1], LAY (shA A) (shF F), 0, 0)) hc60 2 rfl trivial ?_
        refine R_cv hc60 rfl rfl ?_ (fun r G h => h)
        refine R_s (P := True) (f' := (3, [some (vR 1), some (vI (-7))], [vI (-2), vI (-7)], LAY (shA A) (shF F), 0, 0)) hc93 2 rfl trivial ?_
        refine R_ic (t := 23) hc93 rfl rfl (fun (z : (-2) < (-7)) => absurd z (by decide)) (fun (_ : ¬ ((-2) < (-7))) => ?_)
        refine R_s (P := True) (f' := (9, [some (vR 1), some (vI (-7))], [vI (-8), vI (-7)], LAY (shA A) (shF F), 0, 0)) hc93 2 rfl trivial ?_
        refine R_ic (t := 23) hc93 rfl rfl (fun (z : (-7) < (-8)) => absurd z (by decide)) (fun (_ : ¬ ((-7) < (-8))) => ?_)
        refine R_s (P := inI 7 ∧ (0 ≤ 7 ∧ 7 < ((A 87).length : Int)) ∧ inI ((rd (A 87) 7) + 1) ∧ (0 ≤ 7 ∧ 7 < ((A 87).length : Int)) ∧ True) (f' := (24, [some (vR 1), some (vI (-7))], [vI (-7)], LAY (u (shA A) 87 (wr (A 87) 7 ((rd (A 87) 7) + 1))) (shF F), 0, 0)) hc93 10 rfl ⟨⟨by omega, by omega⟩, ⟨by omega, by omega⟩, ⟨by omega, by omega⟩, ⟨by omega, by omega⟩, trivial⟩ ?_
        refine R_reti hc93 rfl rfl ?_
        refine R_s (f' := (48, [some (vR 1), some (vI p), some (vI b)], [vI (-7)], LAY (u (shA A) 87 (wr (A 87) 7 ((rd (A 87) 7) + 1))) (shF F), 0, 0)) hc60 0 rfl trivial ?_
        refine R_reti hc60 rfl rfl ?_
        first
          | (exfalso; omega; done)
          | exact ⟨(-7), (u A 87 (wr (A 87) 7 ((rd (A 87) 7) + 1))), F, REL_ref hR0 (by decide) (by decide), rfl, rfl, rfl, ⟨⟨rfl, rfl, rfl, rfl, by first | exact Int.le_refl _ | (show F 3 ≤ F 3 + 1; omega), rfl, rfl, rfl, rfl, rfl, rfl⟩, fun h1 h2 h3 h4 => by first | (exfalso; omega; done) | (show F 3 + 1 = 1; omega)⟩⟩
  · refine R_s (P := True) (f' := (10, [some (vR 1), some (vI p), some (vI b)], [vI p, vR 2], LAY (shA A) (shF F), 0, 0)) hc60 3 rfl trivial ?_
    refine R_cv hc60 rfl rfl ?_ (fun r G h => h)
    refine R_s (P := True) (f' := (1, [some (vR 2), some (vI p)], [vI p], LAY (shA A) (shF F), 0, 0)) hc5 1 rfl trivial ?_
    refine R_if (t := 16) hc5 rfl rfl (fun (c13 : p < 0) => ?_) (fun (c13 : ¬ (p < 0)) => ?_)
    · refine R_s (P := True) (f' := (17, [some (vR 2), some (vI p)], [vI 0], LAY (shA A) (shF F), 0, 0)) hc5 1 rfl trivial ?_
      refine R_retz hc5 rfl rfl (Or.inl rfl) ?_
      refine R_s (f' := (13, [some (vR 1), some (vI p), some (vI b)], [vI 0], LAY (shA A) (shF F), 0, 0)) hc60 0 rfl trivial ?_
      refine R_if (t := 23) hc60 rfl rfl (fun (z : ¬ 0 = 0) => absurd z (by decide)) (fun (_ : ¬ (¬ 0 = 0)) => ?_)
      refine R_s (P := True) (f' := (19, [some (vR 1), some (vI p), some (vI b)], [vI (-3), vR 1], LAY (shA A) (shF F), 0, 0)) hc60 2 rfl trivial ?_
      refine R_cv hc60 rfl rfl ?_ (fun r G h => h)
      refine R_s (P := True) (f' := (3, [some (vR 1), some (vI (-3))], [vI (-2), vI (-3)], LAY (shA A) (shF F), 0, 0)) hc93 2 rfl trivial ?_
      refine R_ic (t := 23) hc93 rfl rfl (fun (z : (-2) < (-3)) => absurd z (by decide)) (fun (_ : ¬ ((-2) < (-3))) => ?_)
      refine R_s (P := True) (f' := (9, [some (vR 1), some (vI (-3))], [vI (-8), vI (-3)], LAY (shA A) (shF F), 0, 0)) hc93 2 rfl trivial ?_
      refine R_ic (t := 23) hc93 rfl rfl (fun (z : (-3) < (-8)) => absurd z (by decide)) (fun (_ : ¬ ((-3) < (-8))) => ?_)
      refine R_s (P := inI 3 ∧ (0 ≤ 3 ∧ 3 < ((A 87).length : Int)) ∧ inI ((rd (A 87) 3) + 1) ∧ (0 ≤ 3 ∧ 3 < ((A 87).length : Int)) ∧ True) (f' := (24, [some (vR 1), some (vI (-3))], [vI (-3)], LAY (u (shA A) 87 (wr (A 87) 3 ((rd (A 87) 3) + 1))) (shF F), 0, 0)) hc93 10 rfl ⟨⟨by omega, by omega⟩, ⟨by omega, by omega⟩, ⟨by omega, by omega⟩, ⟨by omega, by omega⟩, trivial⟩ ?_
      refine R_reti hc93 rfl rfl ?_
      refine R_s (f' := (22, [some (vR 1), some (vI p), some (vI b)], [vI (-3)], LAY (u (shA A) 87 (wr (A 87) 3 ((rd (A 87) 3) + 1))) (shF F), 0, 0)) hc60 0 rfl trivial ?_
      refine R_reti hc60 rfl rfl ?_
      first
        | (exfalso; omega; done)
        | exact ⟨(-3), (u A 87 (wr (A 87) 3 ((rd (A 87) 3) + 1))), F, REL_ref hR0 (by decide) (by decide), rfl, rfl, rfl, ⟨⟨rfl, rfl, rfl, rfl, by first | exact Int.le_refl _ | (show F 3 ≤ F 3 + 1; omega), rfl, rfl, rfl, rfl, rfl, rfl⟩, fun h1 h2 h3 h4 => by first | (exfalso; omega; done) | (show F 3 + 1 = 1; omega)⟩⟩
    · refine R_s (P := True) (f' := (9, [some (vR 2), some (vI p)], [vI (F 3), vI p], LAY (shA A) (shF F), 0, 0)) hc5 3 rfl trivial ?_
      refine R_ic (t := 16) hc5 rfl rfl (fun (c14 : F 3 ≤ p) => ?_) (fun (c14 : ¬ (F 3 ≤ p)) => ?_)
      · refine R_s (P := True) (f' := (17, [some (vR 2), some (vI p)], [vI 0], LAY (shA A) (shF F), 0, 0)) hc5 1 rfl trivial ?_
        refine R_retz hc5 rfl rfl (Or.inl rfl) ?_
        refine R_s (f' := (13, [some (vR 1), some (vI p), some (vI b)], [vI 0], LAY (shA A) (shF F), 0, 0)) hc60 0 rfl trivial ?_
        refine R_if (t := 23) hc60 rfl rfl (fun (z : ¬ 0 = 0) => absurd z (by decide)) (fun (_ : ¬ (¬ 0 = 0)) => ?_)
        refine R_s (P := True) (f' := (19, [some (vR 1), some (vI p), some (vI b)], [vI (-3), vR 1], LAY (shA A) (shF F), 0, 0)) hc60 2 rfl trivial ?_
        refine R_cv hc60 rfl rfl ?_ (fun r G h => h)
        refine R_s (P := True) (f' := (3, [some (vR 1), some (vI (-3))], [vI (-2), vI (-3)], LAY (shA A) (shF F), 0, 0)) hc93 2 rfl trivial ?_
        refine R_ic (t := 23) hc93 rfl rfl (fun (z : (-2) < (-3)) => absurd z (by decide)) (fun (_ : ¬ ((-2) < (-3))) => ?_)
        refine R_s (P := True) (f' := (9, [some (vR 1), some (vI (-3))], [vI (-8), vI (-3)], LAY (shA A) (shF F), 0, 0)) hc93 2 rfl trivial ?_
        refine R_ic (t := 23) hc93 rfl rfl (fun (z : (-3) < (-8)) => absurd z (by decide)) (fun (_ : ¬ ((-3) < (-8))) => ?_)
        refine R_s (P := inI 3 ∧ (0 ≤ 3 ∧ 3 < ((A 87).length : Int)) ∧ inI ((rd (A 87) 3) + 1) ∧ (0 ≤ 3 ∧ 3 < ((A 87).length : Int)) ∧ True) (f' := (24, [some (vR 1), some (vI (-3))], [vI (-3)], LAY (u (shA A) 87 (wr (A 87) 3 ((rd (A 87) 3) + 1))) (shF F), 0, 0)) hc93 10 rfl ⟨⟨by omega, by omega⟩, ⟨by omega, by omega⟩, ⟨by omega, by omega⟩, ⟨by omega, by omega⟩, trivial⟩ ?_
        refine R_reti hc93 rfl rfl ?_
        refine R_s (f' := (22, [some (vR 1), some (vI p), some (vI b)], [vI (-3)], LAY (u (shA A) 87 (wr (A 87) 3 ((rd (A 87) 3) + 1))) (shF F), 0, 0)) hc60 0 rfl trivial ?_
        refine R_reti hc60 rfl rfl ?_
        first
          | (exfalso; omega; done)
          | exact ⟨(-3), (u A 87 (wr (A 87) 3 ((rd (A 87) 3) + 1))), F, REL_ref hR0 (by decide) (by decide), rfl, rfl, rfl, ⟨⟨rfl, rfl, rfl, rfl, by first | exact Int.le_refl _ | (show F 3 ≤ F 3 + 1; omega), rfl, rfl, rfl, rfl, rfl, rfl⟩, fun h1 h2 h3 h4 => by first | (exfalso; omega; done) | (show F 3 + 1 = 1; omega)⟩⟩
      · refine R_s (P := True) (f' := (17, [some (vR 2), some (vI p)], [vI 1], LAY (shA A) (shF F), 0, 0)) hc5 2 rfl trivial ?_
        refine R_retz hc5 rfl rfl (Or.inr rfl) ?_
        refine R_s (f' := (13, [some (vR 1), some (vI p), some (vI b)], [vI 1], LAY (shA A) (shF F), 0, 0)) hc60 0 rfl trivial ?_
        refine R_if (t := 23) hc60 rfl rfl (fun (_ : ¬ 1 = 0) => ?_) (fun (z : ¬ (¬ 1 = 0)) => absurd (by decide) z)
        refine R_s (P := True) (f' := (29, [some (vR 1), some (vI p), some (vI b)], [vI p, vR 2, vI b], LAY (shA A) (shF F), 0, 0)) hc60 4 rfl trivial ?_
        refine R_cv hc60 rfl rfl ?_ (fun r G h => h)
        refine R_s (P := True) (f' := (2, [some (vR 2), some (vI p)], [vI p, vR 2], LAY (shA A) (shF F), 0, 0)) hc6 2 rfl trivial ?_
        refine R_cv hc6 rfl rfl ?_ (fun r G h => h)
        refine R_s (P := True) (f' := (1, [some (vR 2), some (vI p)], [vI p], LAY (shA A) (shF F), 0, 0)) hc5 1 rfl trivial ?_
        refine R_if (t := 16) hc5 rfl rfl (fun (z : p < 0) => absurd z (by omega)) (fun (_ : ¬ (p < 0)) => ?_)
        refine R_s (P := True) (f' := (9, [some (vR 2), some (vI p)], [vI (F 3), vI p], LAY (shA A) (shF F), 0, 0)) hc5 3 rfl trivial ?_
        refine R_ic (t := 16) hc5 rfl rfl (fun (z : F 3 ≤ p) => absurd z (by omega)) (fun (_ : ¬ (F 3 ≤ p)) => ?_)
        refine R_s (P := True) (f' := (17, [some (vR 2), some (vI p)], [vI 1], LAY (shA A) (shF F), 0, 0)) hc5 2 rfl trivial ?_
        refine R_retz hc5 rfl rfl (Or.inr rfl) ?_
        refine R_s (f' := (5, [some (vR 2), some (vI p)], [vI 1], LAY (shA A) (shF F), 0, 0)) hc6 0 rfl trivial ?_
        refine R_if (t := 17) hc6 rfl rfl (fun (z : 1 = 0) => absurd z (by decide)) (fun (_ : ¬ (1 = 0)) => ?_)
        refine R_s (P := (0 ≤ p ∧ p < ((A 4).length : Int)) ∧ True) (f' := (18, [some (vR 2), some (vI p)], [vI (rd (A 4) p)], LAY (shA A) (shF F), 0, 0)) hc6 5 rfl ⟨⟨by omega, by omega⟩, trivial⟩ ?_
        refine R_reti hc6 rfl rfl ?_
        refine R_s (f' := (32, [some (vR 1), some (vI p), some (vI b)], [vI (rd (A 4) p), vI b], LAY (shA A) (shF F), 0, 0)) hc60 0 rfl trivial ?_
        refine R_ic (t := 42) hc60 rfl rfl (fun (c19 : b < rd (A 4) p) => ?_) (fun (c19 : ¬ (b < rd (A 4) p)) => ?_)
        · refine R_s (P := True) (f' := (45, [some (vR 1), some (vI p), some (vI b)], [vI (-7), vR 1], LAY (shA A) (shF F), 0, 0)) hc60 2 rfl trivial ?_
          refine R_cv hc60 rfl rfl ?_ (fun r G h => h)
          refine R_s (P := True) (f' := (3, [some (vR 1), some (vI (-7))], [vI (-2), vI (-7)], LAY (shA A) (shF F), 0, 0)) hc93 2 rfl trivial ?_
          refine R_ic (t := 23) hc93 rfl rfl (fun (z : (-2) < (-7)) => absurd z (by decide)) (fun (_ : ¬ ((-2) < (-7))) => ?_)
          refine R_s (P := True) (f' := (9, [some (vR 1), some (vI (-7))], [vI (-8), vI (-7)], LAY (shA A) (shF F), 0, 0)) hc93 2 rfl trivial ?_
          refine R_ic (t := 23) hc93 rfl rfl (fun (z : (-7) < (-8)) => absurd z (by decide)) (fun (_ : ¬ ((-7) < (-8))) => ?_)
          refine R_s (P := inI 7 ∧ (0 ≤ 7 ∧ 7 < ((A 87).length : Int)) ∧ inI ((rd (A 87) 7) + 1) ∧ (0 ≤ 7 ∧ 7 < ((A 87).length : Int)) ∧ True) (f' := (24, [some (vR 1), some (vI (-7))], [vI (-7)], LAY (u (shA A) 87 (wr (A 87) 7 ((rd (A 87) 7) + 1))) (shF F), 0, 0)) hc93 10 rfl ⟨⟨by omega, by omega⟩, ⟨by omega, by omega⟩, ⟨by omega, by omega⟩, ⟨by omega, by omega⟩, trivial⟩ ?_
          refine R_reti hc93 rfl rfl ?_
          refine R_s (f' := (48, [some (vR 1), some (vI p), some (vI b)], [vI (-7)], LAY (u (shA A) 87 (wr (A 87) 7 ((rd (A 87) 7) + 1))) (shF F), 0, 0)) hc60 0 rfl trivial ?_
          refine R_reti hc60 rfl rfl ?_
          first
            | (exfalso; omega; done)
            | exact ⟨(-7), (u A 87 (wr (A 87) 7 ((rd (A 87) 7) + 1))), F, REL_ref hR0 (by decide) (by decide), rfl, rfl, rfl, ⟨⟨rfl, rfl, rfl, rfl, by first | exact Int.le_refl _ | (show F 3 ≤ F 3 + 1; omega), rfl, rfl, rfl, rfl, rfl, rfl⟩, fun h1 h2 h3 h4 => by first | (exfalso; omega; done) | (show F 3 + 1 = 1; omega)⟩⟩
        · refine R_s (P := True) (f' := (39, [some (vR 1), some (vI p), some (vI b)], [vI 700, vI b], LAY (shA A) (shF F), 0, 0)) hc60 2 rfl trivial ?_
          refine R_ic (t := 49) hc60 rfl rfl (fun (c22 : b ≤ 700) => ?_) (fun (c22 : ¬ (b ≤ 700)) => ?_)
          · refine R_s (P := True) (f' := (58, [some (vR 1), some (vI p), some (vI b)], [vI 30, vI (F 3)], LAY (shA A) (shF F), 0, 0)) hc60 4 rfl trivial ?_
            refine R_ic (t := 68) hc60 rfl rfl (fun (c23 : F 3 < 30) => ?_) (fun (c23 : ¬ (F 3 < 30)) => ?_)
            · refine R_s (P := True) (f' := (74, [some (vR 1), some (vI p), some (vI b)], [vI b, vI p, vR 2], LAY (shA A) (shF F), 0, 0)) hc60 4 rfl trivial ?_
              refine R_cv hc60 rfl rfl ?_ (fun r G h => h)
              refine R_s (P := (0 ≤ F 3 ∧ F 3 < ((A 3).length : Int)) ∧ (0 ≤ F 3 ∧ F 3 < ((A 4).length : Int)) ∧ (0 ≤ F 3 ∧ F 3 < ((A 5).length : Int)) ∧ inI ((F 3) + 1) ∧ True) (f' := (37, [some (vR 2), some (vI p), some (vI b), some (vI (F 3))], [vI (F 3)], LAY (u (u (u (shA A) 3 (wr (A 3) (F 3) p)) 4 (wr (A 4) (F 3) b)) 5 (wr (A 5) (F 3) (-1))) (u (shF F) 3 ((F 3) + 1)), 0, 0)) hc7 25 rfl ⟨⟨by omega, by omega⟩, ⟨by omega, by omega⟩, ⟨by omega, by omega⟩, ⟨by omega, by omega⟩, trivial⟩ ?_
              refine R_reti hc7 rfl rfl ?_
              refine R_s (f' := (77, [some (vR 1), some (vI p), some (vI b)], [vI (F 3)], LAY (u (u (u (shA A) 3 (wr (A 3) (F 3) p)) 4 (wr (A 4) (F 3) b)) 5 (wr (A 5) (F 3) (-1))) (u (shF F) 3 ((F 3) + 1)), 0, 0)) hc60 0 rfl trivial ?_
              refine R_reti hc60 rfl rfl ?_
              first
                | (exfalso; omega; done)
                | exact ⟨F 3, (u (u (u A 3 (wr (A 3) (F 3) p)) 4 (wr (A 4) (F 3) b)) 5 (wr (A 5) (F 3) (-1))), (u F 3 ((F 3) + 1)), (REL_person hR0 (by omega) (by omega) (by omega)), rfl, rfl, rfl, ⟨⟨rfl, rfl, rfl, rfl, by first | exact Int.le_refl _ | (show F 3 ≤ F 3 + 1; omega), rfl, rfl, rfl, rfl, rfl, rfl⟩, fun h1 h2 h3 h4 => by first | (exfalso; omega; done) | (show F 3 + 1 = 1; omega)⟩⟩
            · refine R_s (P := True) (f' := (64, [some (vR 1), some (vI p), some (vI b)], [vI (-8), vR 1], LAY (shA A) (shF F), 0, 0)) hc60 2 rfl trivial ?_
              refine R_cv hc60 rfl rfl ?_ (fun r G h => h)
              refine R_s (P := True) (f' := (3, [some (vR 1), some (vI (-8))], [vI (-2), vI (-8)], LAY (shA A) (shF F), 0, 0)) hc93 2 rfl trivial ?_
              refine R_ic (t := 23) hc93 rfl rfl (fun (z : (-2) < (-8)) => absurd z (by decide)) (fun (_ : ¬ ((-2) < (-8))) => ?_)
              refine R_s (P := True) (f' := (9, [some (vR 1), some (vI (-8))], [vI (-8), vI (-8)], LAY (shA A) (shF F), 0, 0)) hc93 2 rfl trivial ?_
              refine R_ic (t := 23) hc93 rfl rfl (fun (z : (-8) < (-8)) => absurd z (by decide)) (fun (_ : ¬ ((-8) < (-8))) => ?_)
              refine R_s (P := inI 8 ∧ (0 ≤ 8 ∧ 8 < ((A 87).length : Int)) ∧ inI ((rd (A 87) 8) + 1) ∧ (0 ≤ 8 ∧ 8 < ((A 87).length : Int)) ∧ True) (f' := (24, [some (vR 1), some (vI (-8))], [vI (-8)], LAY (u (shA A) 87 (wr (A 87) 8 ((rd (A 87) 8) + 1))) (shF F), 0, 0)) hc93 10 rfl ⟨⟨by omega, by omega⟩, ⟨by omega, by omega⟩, ⟨by omega, by omega⟩, ⟨by omega, by omega⟩, trivial⟩ ?_
              refine R_reti hc93 rfl rfl ?_
              refine R_s (f' := (67, [some (vR 1), some (vI p), some (vI b)], [vI (-8)], LAY (u (shA A) 87 (wr (A 87) 8 ((rd (A 87) 8) + 1))) (shF F), 0, 0)) hc60 0 rfl trivial ?_
              refine R_reti hc60 rfl rfl ?_
              first
                | (exfalso; omega; done)
                | exact ⟨(-8), (u A 87 (wr (A 87) 8 ((rd (A 87) 8) + 1))), F, REL_ref hR0 (by decide) (by decide), rfl, rfl, rfl, ⟨⟨rfl, rfl, rfl, rfl, by first | exact Int.le_refl _ | (show F 3 ≤ F 3 + 1; omega), rfl, rfl, rfl, rfl, rfl, rfl⟩, fun h1 h2 h3 h4 => by first | (exfalso; omega; done) | (show F 3 + 1 = 1; omega)⟩⟩
          · refine R_s (P := True) (f' := (45, [some (vR 1), some (vI p), some (vI b)], [vI (-7), vR 1], LAY (shA A) (shF F), 0, 0)) hc60 2 rfl trivial ?_
            refine R_cv hc60 rfl rfl ?_ (fun r G h => h)
            refine R_s (P := True) (f' := (3, [some (vR 1), some (vI (-7))], [vI (-2), vI (-7)], LAY (shA A) (shF F), 0, 0)) hc93 2 rfl trivial ?_
            refine R_ic (t := 23) hc93 rfl rfl (fun (z : (-2) < (-7)) => absurd z (by decide)) (fun (_ : ¬ ((-2) < (-7))) => ?_)
            refine R_s (P := True) (f' := (9, [some (vR 1), some (vI (-7))], [vI (-8), vI (-7)], LAY (shA A) (shF F), 0, 0)) hc93 2 rfl trivial ?_
            refine R_ic (t := 23) hc93 rfl rfl (fun (z : (-7) < (-8)) => absurd z (by decide)) (fun (_ : ¬ ((-7) < (-8))) => ?_)
            refine R_s (P := inI 7 ∧ (0 ≤ 7 ∧ 7 < ((A 87).length : Int)) ∧ inI ((rd (A 87) 7) + 1) ∧ (0 ≤ 7 ∧ 7 < ((A 87).length : Int)) ∧ True) (f' := (24, [some (vR 1), some (vI (-7))], [vI (-7)], LAY (u (shA A) 87 (wr (A 87) 7 ((rd (A 87) 7) + 1))) (shF F), 0, 0)) hc93 10 rfl ⟨⟨by omega, by omega⟩, ⟨by omega, by omega⟩, ⟨by omega, by omega⟩, ⟨by omega, by omega⟩, trivial⟩ ?_
            refine R_reti hc93 rfl rfl ?_
            refine R_s (f' := (48, [some (vR 1), some (vI p), some (vI b)], [vI (-7)], LAY (u (shA A) 87 (wr (A 87) 7 ((rd (A 87) 7) + 1))) (shF F), 0, 0)) hc60 0 rfl trivial ?_
            refine R_reti hc60 rfl rfl ?_
            first
              | (exfalso; omega; done)
              | exact ⟨(-7), (u A 87 (wr (A 87) 7 ((rd (A 87) 7) + 1))), F, REL_ref hR0 (by decide) (by decide), rfl, rfl, rfl, ⟨⟨rfl, rfl, rfl, rfl, by first | exact Int.le_refl _ | (show F 3 ≤ F 3 + 1; omega), rfl, rfl, rfl, rfl, rfl, rfl⟩, fun h1 h2 h3 h4 => by first | (exfalso; omega; done) | (show F 3 + 1 = 1; omega)⟩⟩

theorem op_death {c : Int} {A : Nat → List Int} {F : Nat → Int} (hR : REL c A F) (hc : c < 1000000) (p y : Int) (i_p : inI p) (i_y : inI y) : R 61 (0, L0 61 [vR 1, vI p, vI y], [], LAY (shA A) (shF F), 0, 0) (fun r G => ∃ (x : Int) (A' : Nat → List Int) (F' : Nat → Int), REL (c + 1) A' F' ∧ r = some (vI x) ∧ G = LAY (shA A') (shF F') ∧ A' 0 = A 0 ∧ KP A F A' F') := by
  have hR0 := hR
  obtain ⟨hL, hPE, hTH, hTP, hDE, hLE, hNO, hAC, hRO, hRE⟩ := hR
  have j_p := i_p
  unfold inI at j_p
  have j_y := i_y
  unfold inI at j_y
  have h87 : (A 87).length = 9 := hL 87 (by decide)
  have h3 : (A 3).length = 30 := hL 3 (by decide)
  have h4 : (A 4).length = 30 := hL 4 (by decide)
  have h5 : (A 5).length = 30 := hL 5 (by decide)
  have h6 : (A 6).length = 30 := hL 6 (by decide)
  have h7 : (A 7).length = 30 := hL 7 (by decide)
  have h94 : (A 94).length = 30 := hL 94 (by decide)
  have h13 : (A 13).length = 10 := hL 13 (by decide)
  have h14 : (A 14).length = 10 := hL 14 (by decide)
  have h15 : (A 15).length = 10 := hL 15 (by decide)
  have h16 : (A 16).length = 60 := hL 16 (by decide)
  have h80 : (A 80).length = 30 := hL 80 (by decide)
  have h81 : (A 81).length = 30 := hL 81 (by decide)
  have h82 : (A 82).length = 30 := hL 82 (by decide)
  have h83 : (A 83).length = 30 := hL 83 (by decide)
  have h84 : (A 84).length = 30 := hL 84 (by decide)
  have h85 : (A 85).length = 8 := hL 85 (by decide)
  have h101 : (A 101).length = 38 := hL 101 (by decide)
  have h102 : (A 102).length = 90 := hL 102 (by decide)
  have r2 := REFU_at hRE (k := 2) (by decide) (by decide) hc
  have r3 := REFU_at hRE (k := 3) (by decide) (by decide) hc
  have r4 := REFU_at hRE (k := 4) (by decide) (by decide) hc
  have r5 := REFU_at hRE (k := 5) (by decide) (by decide) hc
  have r6 := REFU_at hRE (k := 6) (by decide) (by decide) hc
  have r7 := REFU_at hRE (k := 7) (by decide) (by decide) hc
  have r8 := REFU_at hRE (k := 8) (by decide) (by decide) hc
  obtain ⟨t1, t2, t3, t4, t5, t6⟩ := hTH
  obtain ⟨p1, p2, p3, p4, p5, p6⟩ := hPE
  have q3 := p3 p
  have q4 := p4 p
  refine R_s (P := True) (f' := (5, [some (vR 1), some (vI p), some (vI y), none], [vI p, vR 2], LAY (shA A) (shF F), 0, 0)) hc61 3 rfl trivial ?_
  refine R_cv hc61 rfl rfl ?_ (fun r G h => h)
  refine R_s (P := True) (f' := (1, [some (vR 2), some (vI p)], [vI p], LAY (shA A) (shF F), 0, 0)) hc5 1 rfl trivial ?_
  refine R_if (t := 16) hc5 rfl rfl (fun (c1 : p < 0) => ?_) (fun (c1 : ¬ (p < 0)) => ?_)
  · refine R_s (P := True) (f' := (17, [some (vR 2), some (vI p)], [vI 0], LAY (shA A) (shF F), 0, 0)) hc5 1 rfl trivial ?_
    refine R_retz hc5 rfl rfl (Or.inl rfl) ?_
    refine R_s (f' := (8, [some (vR 1), some (vI p), some (vI y), none], [vI 0], LAY (shA A) (shF F), 0, 0)) hc61 0 rfl trivial ?_
    refine R_if (t := 18) hc61 rfl rfl (fun (z : ¬ 0 = 0) => absurd z (by decide)) (fun (_ : ¬ (¬ 0 = 0)) => ?_)
    refine R_s (P := True) (f' := (14, [some (vR 1), some (vI p), some (vI y), none], [vI (-3), vR 1], LAY (shA A) (shF F), 0, 0)) hc61 2 rfl trivial ?_
    refine R_cv hc61 rfl rfl ?_ (fun r G h => h)
    refine R_s (P := True) (f' := (3, [some (vR 1), some (vI (-3))], [vI (-2), vI (-3)], LAY (shA A) (shF F), 0, 0)) hc93 2 rfl trivial ?_
    refine R_ic (t := 23) hc93 rfl rfl (fun (z : (-2) < (-3)) => absurd z (by decide)) (fun (_ : ¬ ((-2) < (-3))) => ?_)
    refine R_s (P := True) (f' := (9, [some (vR 1), some (vI (-3))], [vI (-8), vI (-3)], LAY (shA A) (shF F), 0, 0)) hc93 2 rfl trivial ?_
    refine R_ic (t := 23) hc93 rfl rfl (fun (z : (-3) < (-8)) => absurd z (by decide)) (fun (_ : ¬ ((-3) < (-8))) => ?_)
    refine R_s (P := inI 3 ∧ (0 ≤ 3 ∧ 3 < ((A 87).length : Int)) ∧ inI ((rd (A 87) 3) + 1) ∧ (0 ≤ 3 ∧ 3 < ((A 87).length : Int)) ∧ True) (f' := (24, [some (vR 1), some (vI (-3))], [vI (-3)], LAY (u (shA A) 87 (wr (A 87) 3 ((rd (A 87) 3) + 1))) (shF F), 0, 0)) hc93 10 rfl ⟨⟨by omega, by omega⟩, ⟨by omega, by omega⟩, ⟨by omega, by omega⟩, ⟨by omega, by omega⟩, trivial⟩ ?_
    refine R_reti hc93 rfl rfl ?_
    refine R_s (f' := (17, [some (vR 1), some (vI p), some (vI y), none], [vI (-3)], LAY (u (shA A) 87 (wr (A 87) 3 ((rd (A 87) 3) + 1))) (shF F), 0, 0)) hc61 0 rfl trivial ?_
    refine R_reti hc61 rfl rfl ?_
    first
      | (exfalso; omega; done)
      | exact ⟨(-3), (u A 87 (wr (A 87) 3 ((rd (A 87) 3) + 1))), F, REL_ref hR0 (by decide) (by decide), rfl, rfl, rfl, ⟨rfl, rfl, rfl, rfl, by first | exact Int.le_refl _ | (show F 3 ≤ F 3 + 1; omega), rfl, rfl, rfl, rfl, rfl, rfl⟩⟩
  · refine R_s (P := True) (f' := (9, [some (vR 2), some (vI p)], [vI (F 3), vI p], LAY (shA A) (shF F), 0, 0)) hc5 3 rfl trivial ?_
    refine R_ic (t := 16) hc5 rfl rfl (fun (c2 : F 3 ≤ p) => ?_) (fun (c2 : ¬ (F 3 ≤ p)) => ?_)
    · refine R_s (P := True) (f' := (17, [some (vR 2), some (vI p)], [vI 0], LAY (shA A) (shF F), 0, 0)) hc5 1 rfl trivial ?_
      refine R_retz hc5 rfl rfl (Or.inl rfl) ?_
      refine R_s (f' := (8, [some (vR 1), some (vI p), some (vI y), none], [vI 0], LAY (shA A) (shF F), 0, 0)) hc61 0 rfl trivial ?_
      refine R_if (t := 18) hc61 rfl rfl (fun (z : ¬ 0 = 0) => absurd z (by decide)) (fun (_ : ¬ (¬ 0 = 0)) => ?_)
      refine R_s (P := True) (f' := (14, [some (vR 1), some (vI p), some (vI y), none], [vI (-3), vR 1], LAY (shA A) (shF F), 0, 0)) hc61 2 rfl trivial ?_
      refine R_cv hc61 rfl rfl ?_ (fun r G h => h)
      refine R_s (P := True) (f' := (3, [some (vR 1), some (vI (-3))], [vI (-2), vI (-3)], LAY (shA A) (shF F), 0, 0)) hc93 2 rfl trivial ?_
      refine R_ic (t := 23) hc93 rfl rfl (fun (z : (-2) < (-3)) => absurd z (by decide)) (fun (_ : ¬ ((-2) < (-3))) => ?_)
      refine R_s (P := True) (f' := (9, [some (vR 1), some (vI (-3))], [vI (-8), vI (-3)], LAY (shA A) (shF F), 0, 0)) hc93 2 rfl trivial ?_
      refine R_ic (t := 23) hc93 rfl rfl (fun (z : (-3) < (-8)) => absurd z (by decide)) (fun (_ : ¬ ((-3) < (-8))) => ?_)
      refine R_s (P := inI 3 ∧ (0 ≤ 3 ∧ 3 < ((A 87).length : Int)) ∧ inI ((rd (A 87) 3) + 1) ∧ (0 ≤ 3 ∧ 3 < ((A 87).length : Int)) ∧ True) (f' := (24, [some (vR 1), some (vI (-3))], [vI (-3)], LAY (u (shA A) 87 (wr (A 87) 3 ((rd (A 87) 3) + 1))) (shF F), 0, 0)) hc93 10 rfl ⟨⟨by omega, by omega⟩, ⟨by omega, by omega⟩, ⟨by omega, by omega⟩, ⟨by omega, by omega⟩, trivial⟩ ?_
      refine R_reti hc93 rfl rfl ?_
      refine R_s (f' := (17, [some (vR 1), some (vI p), some (vI y), none], [vI (-3)], LAY (u (shA A) 87 (wr (A 87) 3 ((rd (A 87) 3) + 1))) (shF F), 0, 0)) hc61 0 rfl trivial ?_
      refine R_reti hc61 rfl rfl ?_
      first
        | (exfalso; omega; done)
        | exact ⟨(-3), (u A 87 (wr (A 87) 3 ((rd (A 87) 3) + 1))), F, REL_ref hR0 (by decide) (by decide), rfl, rfl, rfl, ⟨rfl, rfl, rfl, rfl, by first | exact Int.le_refl _ | (show F 3 ≤ F 3 + 1; omega), rfl, rfl, rfl, rfl, rfl, rfl⟩⟩
    · refine R_s (P := True) (f' := (17, [some (vR 2), some (vI p)], [vI 1], LAY (shA A) (shF F), 0, 0)) hc5 2 rfl trivial ?_
      refine R_retz hc5 rfl rfl (Or.inr rfl) ?_
      refine R_s (f' := (8, [some (vR 1), some (vI p), some (vI y), none], [vI 1], LAY (shA A) (shF F), 0, 0)) hc61 0 rfl trivial ?_
      refine R_if (t := 18) hc61 rfl rfl (fun (_ : ¬ 1 = 0) => ?_) (fun (z : ¬ (¬ 1 = 0)) => absurd (by decide) z)
      refine R_s (P := True) (f' := (20, [some (vR 1), some (vI p), some (vI y), none], [vI (-1), vI y], LAY (shA A) (shF F), 0, 0)) hc61 2 rfl trivial ?_
      refine R_ic (t := 50) hc61 rfl rfl (fun (c4 : y = (-1)) => ?_) (fun (c4 : ¬ (y = (-1))) => ?_)
      · refine R_s (P := (0 ≤ p ∧ p < ((A 5).length : Int)) ∧ True) (f' := (66, [some (vR 1), some (vI p), some (vI y), some (vI (rd (A 5) p))], [vI y, vI p, vR 2], LAY (shA A) (shF F), 0, 0)) hc61 10 rfl ⟨⟨by omega, by omega⟩, trivial⟩ ?_
        refine R_cv hc61 rfl rfl ?_ (fun r G h => h)
        refine R_s (P := (0 ≤ p ∧ p < ((A 5).length : Int)) ∧ ((0 ≤ p ∧ p < ((A 6).length : Int)) ∧ (0 = 0 ∨ 0 = 1)) ∧ True) (f' := (14, [some (vR 2), some (vI p), some (vI y)], [], LAY (u (u (shA A) 5 (wr (A 5) p y)) 6 (wr (A 6) p 0)) (shF F), 0, 0)) hc8 10 rfl ⟨⟨by omega, by omega⟩, ⟨⟨by omega, by omega⟩, by omega⟩, trivial⟩ ?_
        refine R_retv hc8 rfl rfl ?_
        refine R_s (f' := (69, [some (vR 1), some (vI p), some (vI y), some (vI (rd (A 5) p))], [], LAY (u (u (shA A) 5 (wr (A 5) p y)) 6 (wr (A 6) p 0)) (shF F), 0, 0)) hc61 0 rfl trivial ?_
        refine R_s (P := True) (f' := (70, [some (vR 1), some (vI p), some (vI y), some (vI (rd (A 5) p))], [vI (rd (A 5) p)], LAY (u (u (shA A) 5 (wr (A 5) p y)) 6 (wr (A 6) p 0)) (shF F), 0, 0)) hc61 1 rfl trivial ?_
        refine R_reti hc61 rfl rfl ?_
        first
          | (exfalso; omega; done)
          | exact ⟨rd (A 5) p, (u (u A 5 (wr (A 5) p y)) 6 (wr (A 6) p 0)), F, (REL_death hR0 (by omega) (by omega)), rfl, rfl, rfl, ⟨rfl, rfl, rfl, rfl, by first | exact Int.le_refl _ | (show F 3 ≤ F 3 + 1; omega), rfl, rfl, rfl, rfl, rfl, rfl⟩⟩
      · refine R_s (P := (0 ≤ p ∧ p < ((A 4).length : Int)) ∧ True) (f' := (33, [some (vR 1), some (vI p), some (vI y), none], [vI (rd (A 4) p), vI y], LAY (shA A) (shF F), 0, 0)) hc61 6 rfl ⟨⟨by omega, by omega⟩, trivial⟩ ?_
        refine R_ic (t := 43) hc61 rfl rfl (fun (c5 : y < rd (A 4) p) => ?_) (fun (c5 : ¬ (y < rd (A 4) p)) => ?_)
        · refine R_s (P := True) (f' := (46, [some (vR 1), some (vI p), some (vI y), none], [vI (-7), vR 1], LAY (shA A) (shF F), 0, 0)) hc61 2 rfl trivial ?_
          refine R_cv hc61 rfl rfl ?_ (fun r G h => h)
          refine R_s (P := True) (f' := (3, [some (vR 1), some (vI (-7))], [vI (-2), vI (-7)], LAY (shA A) (shF F), 0, 0)) hc93 2 rfl trivial ?_
          refine R_ic (t := 23) hc93 rfl rfl (fun (z : (-2) < (-7)) => absurd z (by decide)) (fun (_ : ¬ ((-2) < (-7))) => ?_)
          refine R_s (P := True) (f' := (9, [some (vR 1), some (vI (-7))], [vI (-8), vI (-7)], LAY (shA A) (shF F), 0, 0)) hc93 2 rfl trivial ?_
          refine R_ic (t := 23) hc93 rfl rfl (fun (z : (-7) < (-8)) => absurd z (by decide)) (fun (_ : ¬ ((-7) < (-8))) => ?_)
          refine R_s (P := inI 7 ∧ (0 ≤ 7 ∧ 7 < ((A 87).length : Int)) ∧ inI ((rd (A 87) 7) + 1) ∧ (0 ≤ 7 ∧ 7 < ((A 87).length : Int)) ∧ True) (f' := (24, [some (vR 1), some (vI (-7))], [vI (-7)], LAY (u (shA A) 87 (wr (A 87) 7 ((rd (A 87) 7) + 1))) (shF F), 0, 0)) hc93 10 rfl ⟨⟨by omega, by omega⟩, ⟨by omega, by omega⟩, ⟨by omega, by omega⟩, ⟨by omega, by omega⟩, trivial⟩ ?_
          refine R_reti hc93 rfl rfl ?_
          refine R_s (f' := (49, [some (vR 1), some (vI p), some (vI y), none], [vI (-7)], LAY (u (shA A) 87 (wr (A 87) 7 ((rd (A 87) 7) + 1))) (shF F), 0, 0)) hc61 0 rfl trivial ?_
          refine R_reti hc61 rfl rfl ?_
          first
            | (exfalso; omega; done)
            | exact ⟨(-7), (u A 87 (wr (A 87) 7 ((rd (A 87) 7) + 1))), F, REL_ref hR0 (by decide) (by decide), rfl, rfl, rfl, ⟨rfl, rfl, rfl, rfl, by first | exact Int.le_refl _ | (show F 3 ≤ F 3 + 1; omega), rfl, rfl, rfl, rfl, rfl, rfl⟩⟩
        · refine R_s (P := True) (f' := (40, [some (vR 1), some (vI p), some (vI y), none], [vI 700, vI y], LAY (shA A) (shF F), 0, 0)) hc61 2 rfl trivial ?_
          refine R_ic (t := 50) hc61 rfl rfl (fun (c8 : y ≤ 700) => ?_) (fun (c8 : ¬ (y ≤ 700)) => ?_)
          · refine R_s (P := (0 ≤ p ∧ p < ((A 5).length : Int)) ∧ True) (f' := (66, [some (vR 1), some (vI p), some (vI y), some (vI (rd (A 5) p))], [vI y, vI p, vR 2], LAY (shA A) (shF F), 0, 0)) hc61 10 rfl ⟨⟨by omega, by omega⟩, trivial⟩ ?_
            refine R_cv hc61 rfl rfl ?_ (fun r G h => h)
            refine R_s (P := (0 ≤ p ∧ p < ((A 5).length : Int)) ∧ ((0 ≤ p ∧ p < ((A 6).length : Int)) ∧ (0 = 0 ∨ 0 = 1)) ∧ True) (f' := (14, [some (vR 2), some (vI p), some (vI y)], [], LAY (u (u (shA A) 5 (wr (A 5) p y)) 6 (wr (A 6) p 0)) (shF F), 0, 0)) hc8 10 rfl ⟨⟨by omega, by omega⟩, ⟨⟨by omega, by omega⟩, by omega⟩, trivial⟩ ?_
            refine R_retv hc8 rfl rfl ?_
            refine R_s (f' := (69, [some (vR 1), some (vI p), some (vI y), some (vI (rd (A 5) p))], [], LAY (u (u (shA A) 5 (wr (A 5) p y)) 6 (wr (A 6) p 0)) (shF F), 0, 0)) hc61 0 rfl trivial ?_
            refine R_s (P := True) (f' := (70, [some (vR 1), some (vI p), some (vI y), some (vI (rd (A 5) p))], [vI (rd (A 5) p)], LAY (u (u (shA A) 5 (wr (A 5) p y)) 6 (wr (A 6) p 0)) (shF F), 0, 0)) hc61 1 rfl trivial ?_
            refine R_reti hc61 rfl rfl ?_
            first
              | (exfalso; omega; done)
              | exact ⟨rd (A 5) p, (u (u A 5 (wr (A 5) p y)) 6 (wr (A 6) p 0)), F, (REL_death hR0 (by omega) (by omega)), rfl, rfl, rfl, ⟨rfl, rfl, rfl, rfl, by first | exact Int.le_refl _ | (show F 3 ≤ F 3 + 1; omega), rfl, rfl, rfl, rfl, rfl, rfl⟩⟩
          · refine R_s (P := True) (f' := (46, [some (vR 1), some (vI p), some (vI y), none], [vI (-7), vR 1], LAY (shA A) (shF F), 0, 0)) hc61 2 rfl trivial ?_
            refine R_cv hc61 rfl rfl ?_ (fun r G h => h)
            refine R_s (P := True) (f' := (3, [some (vR 1), some (vI (-7))], [vI (-2), vI (-7)], LAY (shA A) (shF F), 0, 0)) hc93 2 rfl trivial ?_
            refine R_ic (t := 23) hc93 rfl rfl (fun (z : (-2) < (-7)) => absurd z (by decide)) (fun (_ : ¬ ((-2) < (-7))) => ?_)
            refine R_s (P := True) (f' := (9, [some (vR 1), some (vI (-7))], [vI (-8), vI (-7)], LAY (shA A) (shF F), 0, 0)) hc93 2 rfl trivial ?_
            refine R_ic (t := 23) hc93 rfl rfl (fun (z : (-7) < (-8)) => absurd z (by decide)) (fun (_ : ¬ ((-7) < (-8))) => ?_)
            refine R_s (P := inI 7 ∧ (0 ≤ 7 ∧ 7 < ((A 87).length : Int)) ∧ inI ((rd (A 87) 7) + 1) ∧ (0 ≤ 7 ∧ 7 < ((A 87).length : Int)) ∧ True) (f' := (24, [some (vR 1), some (vI (-7))], [vI (-7)], LAY (u (shA A) 87 (wr (A 87) 7 ((rd (A 87) 7) + 1))) (shF F), 0, 0)) hc93 10 rfl ⟨⟨by omega, by omega⟩, ⟨by omega, by omega⟩, ⟨by omega, by omega⟩, ⟨by omega, by omega⟩, trivial⟩ ?_
            refine R_reti hc93 rfl rfl ?_
            refine R_s (f' := (49, [some (vR 1), some (vI p), some (vI y), none], [vI (-7)], LAY (u (shA A) 87 (wr (A 87) 7 ((rd (A 87) 7) + 1))) (shF F), 0, 0)) hc61 0 rfl trivial ?_
            refine R_reti hc61 rfl rfl ?_
            first
              | (exfalso; omega; done)
              | exact ⟨(-7), (u A 87 (wr (A 87) 7 ((rd (A 87) 7) + 1))), F, REL_ref hR0 (by decide) (by decide), rfl, rfl, rfl, ⟨rfl, rfl, rfl, rfl, by first | exact Int.le_refl _ | (show F 3 ≤ F 3 + 1; omega), rfl, rfl, rfl, rfl, rfl, rfl⟩⟩

theorem op_taken {c : Int} {A : Nat → List Int} {F : Nat → Int} (hR : REL c A F) (hc : c < 1000000) (p v : Int) (i_p : inI p) (i_v : inI v) : R 63 (0, L0 63 [vR 1, vI p, vI v], [], LAY (shA A) (shF F), 0, 0) (fun r G => ∃ (x : Int) (A' : Nat → List Int) (F' : Nat → Int), REL (c + 1) A' F' ∧ r = some (vI x) ∧ G = LAY (shA A') (shF F') ∧ A' 0 = A 0 ∧ KP A F A' F') := by
  have hR0 := hR
  obtain ⟨hL, hPE, hTH, hTP, hDE, hLE, hNO, hAC, hRO, hRE⟩ := hR
  have j_p := i_p
  unfold inI at j_p
  have j_v := i_v
  unfold inI at j_v
  have h87 : (A 87).length = 9 := hL 87 (by decide)
  have h3 : (A 3).length = 30 := hL 3 (by decide)
  have h4 : (A 4).length = 30 := hL 4 (by decide)
  have h5 : (A 5).length = 30 := hL 5 (by decide)
  have h6 : (A 6).length = 30 := hL 6 (by decide)
  have h7 : (A 7).length = 30 := hL 7 (by decide)
  have h94 : (A 94).length = 30 := hL 94 (by decide)
  have h13 : (A 13).length = 10 := hL 13 (by decide)
  have h14 : (A 14).length = 10 := hL 14 (by decide)
  have h15 : (A 15).length = 10 := hL 15 (by decide)
  have h16 : (A 16).length = 60 := hL 16 (by decide)
  have h80 : (A 80).length = 30 := hL 80 (by decide)
  have h81 : (A 81).length = 30 := hL 81 (by decide)
  have h82 : (A 82).length = 30 := hL 82 (by decide)
  have h83 : (A 83).length = 30 := hL 83 (by decide)
  have h84 : (A 84).length = 30 := hL 84 (by decide)
  have h85 : (A 85).length = 8 := hL 85 (by decide)
  have h101 : (A 101).length = 38 := hL 101 (by decide)
  have h102 : (A 102).length = 90 := hL 102 (by decide)
  have r2 := REFU_at hRE (k := 2) (by decide) (by decide) hc
  have r3 := REFU_at hRE (k := 3) (by decide) (by decide) hc
  have r4 := REFU_at hRE (k := 4) (by decide) (by decide) hc
  have r5 := REFU_at hRE (k := 5) (by decide) (by decide) hc
  have r6 := REFU_at hRE (k := 6) (by decide) (by decide) hc
  have r7 := REFU_at hRE (k := 7) (by decide) (by decide) hc
  have r8 := REFU_at hRE (k := 8) (by decide) (by decide) hc
  obtain ⟨t1, t2, t3, t4, t5, t6⟩ := hTH
  obtain ⟨p1, p2, p3, p4, p5, p6⟩ := hPE
  have q3 := p3 p
  have q4 := p4 p
  refine R_s (P := True) (f' := (5, [some (vR 1), some (vI p), some (vI v), none], [vI p, vR 2], LAY (shA A) (shF F), 0, 0)) hc63 3 rfl trivial ?_
  refine R_cv hc63 rfl rfl ?_ (fun r G h => h)
  refine R_s (P := True) (f' := (1, [some (vR 2), some (vI p)], [vI p], LAY (shA A) (shF F), 0, 0)) hc5 1 rfl trivial ?_
  refine R_if (t := 16) hc5 rfl rfl (fun (c1 : p < 0) => ?_) (fun (c1 : ¬ (p < 0)) => ?_)
  · refine R_s (P := True) (f' := (17, [some (vR 2), some (vI p)], [vI 0], LAY (shA A) (shF F), 0, 0)) hc5 1 rfl trivial ?_
    refine R_retz hc5 rfl rfl (Or.inl rfl) ?_
    refine R_s (f' := (8, [some (vR 1), some (vI p), some (vI v), none], [vI 0], LAY (shA A) (shF F), 0, 0)) hc63 0 rfl trivial ?_
    refine R_if (t := 18) hc63 rfl rfl (fun (z : ¬ 0 = 0) => absurd z (by decide)) (fun (_ : ¬ (¬ 0 = 0)) => ?_)
    refine R_s (P := True) (f' := (14, [some (vR 1), some (vI p), some (vI v), none], [vI (-3), vR 1], LAY (shA A) (shF F), 0, 0)) hc63 2 rfl trivial ?_
    refine R_cv hc63 rfl rfl ?_ (fun r G h => h)
    refine R_s (P := True) (f' := (3, [some (vR 1), some (vI (-3))], [vI (-2), vI (-3)], LAY (shA A) (shF F), 0, 0)) hc93 2 rfl trivial ?_
    refine R_ic (t := 23) hc93 rfl rfl (fun (z : (-2) < (-3)) => absurd z (by decide)) (fun (_ : ¬ ((-2) < (-3))) => ?_)
    refine R_s (P := True) (f' := (9, [some (vR 1), some (vI (-3))], [vI (-8), vI (-3)], LAY (shA A) (shF F), 0, 0)) hc93 2 rfl trivial ?_
    refine R_ic (t := 23) hc93 rfl rfl (fun (z : (-3) < (-8)) => absurd z (by decide)) (fun (_ : ¬ ((-3) < (-8))) => ?_)
    refine R_s (P := inI 3 ∧ (0 ≤ 3 ∧ 3 < ((A 87).length : Int)) ∧ inI ((rd (A 87) 3) + 1) ∧ (0 ≤ 3 ∧ 3 < ((A 87).length : Int)) ∧ True) (f' := (24, [some (vR 1), some (vI (-3))], [vI (-3)], LAY (u (shA A) 87 (wr (A 87) 3 ((rd (A 87) 3) + 1))) (shF F), 0, 0)) hc93 10 rfl ⟨⟨by omega, by omega⟩, ⟨by omega, by omega⟩, ⟨by omega, by omega⟩, ⟨by omega, by omega⟩, trivial⟩ ?_
    refine R_reti hc93 rfl rfl ?_
    refine R_s (f' := (17, [some (vR 1), some (vI p), some (vI v), none], [vI (-3)], LAY (u (shA A) 87 (wr (A 87) 3 ((rd (A 87) 3) + 1))) (shF F), 0, 0)) hc63 0 rfl trivial ?_
    refine R_reti hc63 rfl rfl ?_
    first
      | (exfalso; omega; done)
      | exact ⟨(-3), (u A 87 (wr (A 87) 3 ((rd (A 87) 3) + 1))), F, REL_ref hR0 (by decide) (by decide), rfl, rfl, rfl, ⟨rfl, rfl, rfl, rfl, by first | exact Int.le_refl _ | (show F 3 ≤ F 3 + 1; omega), rfl, rfl, rfl, rfl, rfl, rfl⟩⟩
  · refine R_s (P := True) (f' := (9, [some (vR 2), some (vI p)], [vI (F 3), vI p], LAY (shA A) (shF F), 0, 0)) hc5 3 rfl trivial ?_
    refine R_ic (t := 16) hc5 rfl rfl (fun (c2 : F 3 ≤ p) => ?_) (fun (c2 : ¬ (F 3 ≤ p)) => ?_)
    · refine R_s (P := True) (f' := (17, [some (vR 2), some (vI p)], [vI 0], LAY (shA A) (shF F), 0, 0)) hc5 1 rfl trivial ?_
      refine R_retz hc5 rfl rfl (Or.inl rfl) ?_
      refine R_s (f' := (8, [some (vR 1), some (vI p), some (vI v), none], [vI 0], LAY (shA A) (shF F), 0, 0)) hc63 0 rfl trivial ?_
      refine R_if (t := 18) hc63 rfl rfl (fun (z : ¬ 0 = 0) => absurd z (by decide)) (fun (_ : ¬ (¬ 0 = 0)) => ?_)
      refine R_s (P := True) (f' := (14, [some (vR 1), some (vI p), some (vI v), none], [vI (-3), vR 1], LAY (shA A) (shF F), 0, 0)) hc63 2 rfl trivial ?_
      refine R_cv hc63 rfl rfl ?_ (fun r G h => h)
      refine R_s (P := True) (f' := (3, [some (vR 1), some (vI (-3))], [vI (-2), vI (-3)], LAY (shA A) (shF F), 0, 0)) hc93 2 rfl trivial ?_
      refine R_ic (t := 23) hc93 rfl rfl (fun (z : (-2) < (-3)) => absurd z (by decide)) (fun (_ : ¬ ((-2) < (-3))) => ?_)
      refine R_s (P := True) (f' := (9, [some (vR 1), some (vI (-3))], [vI (-8), vI (-3)], LAY (shA A) (shF F), 0, 0)) hc93 2 rfl trivial ?_
      refine R_ic (t := 23) hc93 rfl rfl (fun (z : (-3) < (-8)) => absurd z (by decide)) (fun (_ : ¬ ((-3) < (-8))) => ?_)
      refine R_s (P := inI 3 ∧ (0 ≤ 3 ∧ 3 < ((A 87).length : Int)) ∧ inI ((rd (A 87) 3) + 1) ∧ (0 ≤ 3 ∧ 3 < ((A 87).length : Int)) ∧ True) (f' := (24, [some (vR 1), some (vI (-3))], [vI (-3)], LAY (u (shA A) 87 (wr (A 87) 3 ((rd (A 87) 3) + 1))) (shF F), 0, 0)) hc93 10 rfl ⟨⟨by omega, by omega⟩, ⟨by omega, by omega⟩, ⟨by omega, by omega⟩, ⟨by omega, by omega⟩, trivial⟩ ?_
      refine R_reti hc93 rfl rfl ?_
      refine R_s (f' := (17, [some (vR 1), some (vI p), some (vI v), none], [vI (-3)], LAY (u (shA A) 87 (wr (A 87) 3 ((rd (A 87) 3) + 1))) (shF F), 0, 0)) hc63 0 rfl trivial ?_
      refine R_reti hc63 rfl rfl ?_
      first
        | (exfalso; omega; done)
        | exact ⟨(-3), (u A 87 (wr (A 87) 3 ((rd (A 87) 3) + 1))), F, REL_ref hR0 (by decide) (by decide), rfl, rfl, rfl, ⟨rfl, rfl, rfl, rfl, by first | exact Int.le_refl _ | (show F 3 ≤ F 3 + 1; omega), rfl, rfl, rfl, rfl, rfl, rfl⟩⟩
    · refine R_s (P := True) (f' := (17, [some (vR 2), some (vI p)], [vI 1], LAY (shA A) (shF F), 0, 0)) hc5 2 rfl trivial ?_
      refine R_retz hc5 rfl rfl (Or.inr rfl) ?_
      refine R_s (f' := (8, [some (vR 1), some (vI p), some (vI v), none], [vI 1], LAY (shA A) (shF F), 0, 0)) hc63 0 rfl trivial ?_
      refine R_if (t := 18) hc63 rfl rfl (fun (_ : ¬ 1 = 0) => ?_) (fun (z : ¬ (¬ 1 = 0)) => absurd (by decide) z)
      refine R_s (P := (0 ≤ p ∧ p < ((A 6).length : Int)) ∧ True) (f' := (27, [some (vR 1), some (vI p), some (vI v), none], [vI (rd (A 6) p)], LAY (shA A) (shF F), 0, 0)) hc63 5 rfl ⟨⟨by omega, by omega⟩, trivial⟩ ?_
      refine R_if (t := 37) hc63 rfl rfl (fun (c4 : ¬ rd (A 6) p = 0) => ?_) (fun (c4 : ¬ (¬ rd (A 6) p = 0)) => ?_)
      · refine R_s (P := True) (f' := (38, [some (vR 1), some (vI p), some (vI v), none], [vI v], LAY (shA A) (shF F), 0, 0)) hc63 1 rfl trivial ?_
        refine R_cs hc63 rfl rfl ?_ (fun r G h => h)
        refine R_s (P := True) (f' := (1, [some (vI v)], [vI v], LAY (shA A) (shF F), 0, 0)) hc94 1 rfl trivial ?_
        refine R_if (t := 9) hc94 rfl rfl (fun (c5 : v = 0) => ?_) (fun (c5 : ¬ (v = 0)) => ?_)
        · refine R_s (P := True) (f' := (14, [some (vI v)], [vI 1], LAY (shA A) (shF F), 0, 0)) hc94 2 rfl trivial ?_
          refine R_retz hc94 rfl rfl (Or.inr rfl) ?_
          refine R_s (f' := (41, [some (vR 1), some (vI p), some (vI v), none], [vI 1], LAY (shA A) (shF F), 0, 0)) hc63 0 rfl trivial ?_
          refine R_if (t := 51) hc63 rfl rfl (fun (_ : ¬ 1 = 0) => ?_) (fun (z : ¬ (¬ 1 = 0)) => absurd (by decide) z)
          refine R_s (P := (0 ≤ p ∧ p < ((A 7).length : Int)) ∧ True) (f' := (60, [some (vR 1), some (vI p), some (vI v), none], [vI (rd (A 7) p)], LAY (shA A) (shF F), 0, 0)) hc63 5 rfl ⟨⟨by omega, by omega⟩, trivial⟩ ?_
          refine R_cs hc63 rfl rfl ?_ (fun r G h => h)
          refine R_s (P := True) (f' := (1, [some (vI (rd (A 7) p))], [vI (rd (A 7) p)], LAY (shA A) (shF F), 0, 0)) hc95 1 rfl trivial ?_
          refine R_if (t := 8) hc95 rfl rfl (fun (c7 : rd (A 7) p = 0) => ?_) (fun (c7 : ¬ (rd (A 7) p = 0)) => ?_)
          · refine R_s (P := True) (f' := (9, [some (vI (rd (A 7) p))], [vI 0], LAY (shA A) (shF F), 0, 0)) hc95 1 rfl trivial ?_
            refine R_reti hc95 rfl rfl ?_
            refine R_s (f' := (63, [some (vR 1), some (vI p), some (vI v), none], [vI 0], LAY (shA A) (shF F), 0, 0)) hc63 0 rfl trivial ?_
            refine R_s (P := True) (f' := (74, [some (vR 1), some (vI p), some (vI v), some (vI 0)], [vI 1, vI v, vI p, vR 7], LAY (shA A) (shF F), 0, 0)) hc63 7 rfl trivial ?_
            refine R_ic (t := 81) hc63 rfl rfl (fun (_ : ¬ v = 1) => ?_) (fun (z : ¬ (¬ v = 1)) => absurd (show ¬ v = 1 by omega) z)
            refine R_s (P := ((0 ≤ p ∧ p < ((A 7).length : Int)) ∧ (0 = 0 ∨ 0 = 1)) ∧ True) (f' := (84, [some (vR 1), some (vI p), some (vI v), some (vI 0)], [vI 0], LAY (u (shA A) 7 (wr (A 7) p 0)) (shF F), 0, 0)) hc63 3 rfl ⟨⟨⟨by omega, by omega⟩, by omega⟩, trivial⟩ ?_
            refine R_reti hc63 rfl rfl ?_
            first
              | (exfalso; omega; done)
              | exact ⟨0, (u (u A 7 (wr (A 7) p 0)) 94 (wr (A 94) p 0)), F, (REL_taken hR0 (by omega) (by decide)), rfl, rfl, rfl, ⟨rfl, rfl, rfl, rfl, by first | exact Int.le_refl _ | (show F 3 ≤ F 3 + 1; omega), rfl, rfl, rfl, rfl, rfl, rfl⟩⟩
          · refine R_s (P := True) (f' := (9, [some (vI (rd (A 7) p))], [vI 1], LAY (shA A) (shF F), 0, 0)) hc95 2 rfl trivial ?_
            refine R_reti hc95 rfl rfl ?_
            refine R_s (f' := (63, [some (vR 1), some (vI p), some (vI v), none], [vI 1], LAY (shA A) (shF F), 0, 0)) hc63 0 rfl trivial ?_
            refine R_s (P := True) (f' := (74, [some (vR 1), some (vI p), some (vI v), some (vI 1)], [vI 1, vI v, vI p, vR 7], LAY (shA A) (shF F), 0, 0)) hc63 7 rfl trivial ?_
            refine R_ic (t := 81) hc63 rfl rfl (fun (_ : ¬ v = 1) => ?_) (fun (z : ¬ (¬ v = 1)) => absurd (show ¬ v = 1 by omega) z)
            refine R_s (P := ((0 ≤ p ∧ p < ((A 7).length : Int)) ∧ (0 = 0 ∨ 0 = 1)) ∧ True) (f' := (84, [some (vR 1), some (vI p), some (vI v), some (vI 1)], [vI 1], LAY (u (shA A) 7 (wr (A 7) p 0)) (shF F), 0, 0)) hc63 3 rfl ⟨⟨⟨by omega, by omega⟩, by omega⟩, trivial⟩ ?_
            refine R_reti hc63 rfl rfl ?_
            first
              | (exfalso; omega; done)
              | exact ⟨1, (u (u A 7 (wr (A 7) p 0)) 94 (wr (A 94) p 0)), F, (REL_taken hR0 (by omega) (by decide)), rfl, rfl, rfl, ⟨rfl, rfl, rfl, rfl, by first | exact Int.le_refl _ | (show F 3 ≤ F 3 + 1; omega), rfl, rfl, rfl, rfl, rfl, rfl⟩⟩
        · refine R_s (P := True) (f' := (6, [some (vI v)], [vI 1, vI v], LAY (shA A) (shF F), 0, 0)) hc94 2 rfl trivial ?_
          refine R_ic (t := 13) hc94 rfl rfl (fun (c6 : ¬ v = 1) => ?_) (fun (c6 : ¬ (¬ v = 1)) => ?_)
          · refine R_s (P := True) (f' := (14, [some (vI v)], [vI 0], LAY (shA A) (shF F), 0, 0)) hc94 1 rfl trivial ?_
            refine R_retz hc94 rfl rfl (Or.inl rfl) ?_
            refine R_s (f' := (41, [some (vR 1), some (vI p), some (vI v), none], [vI 0], LAY (shA A) (shF F), 0, 0)) hc63 0 rfl trivial ?_
            refine R_if (t := 51) hc63 rfl rfl (fun (z : ¬ 0 = 0) => absurd z (by decide)) (fun (_ : ¬ (¬ 0 = 0)) => ?_)
            refine R_s (P := True) (f' := (47, [some (vR 1), some (vI p), some (vI v), none], [vI (-7), vR 1], LAY (shA A) (shF F), 0, 0)) hc63 2 rfl trivial ?_
            refine R_cv hc63 rfl rfl ?_ (fun r G h => h)
            refine R_s (P := True) (f' := (3, [some (vR 1), some (vI (-7))], [vI (-2), vI (-7)], LAY (shA A) (shF F), 0, 0)) hc93 2 rfl trivial ?_
            refine R_ic (t := 23) hc93 rfl rfl (fun (z : (-2) < (-7)) => absurd z (by decide)) (fun (_ : ¬ ((-2) < (-7))) => ?_)
            refine R_s (P := True) (f' := (9, [some (vR 1), some (vI (-7))], [vI (-8), vI (-7)], LAY (shA A) (shF F), 0, 0)) hc93 2 rfl trivial ?_
            refine R_ic (t := 23) hc93 rfl rfl (fun (z : (-7) < (-8)) => absurd z (by decide)) (fun (_ : ¬ ((-7) < (-8))) => ?_)
            refine R_s (P := inI 7 ∧ (0 ≤ 7 ∧ 7 < ((A 87).length : Int)) ∧ inI ((rd (A 87) 7) + 1) ∧ (0 ≤ 7 ∧ 7 < ((A 87).length : Int)) ∧ True) (f' := (24, [some (vR 1), some (vI (-7))], [vI (-7)], LAY (u (shA A) 87 (wr (A 87) 7 ((rd (A 87) 7) + 1))) (shF F), 0, 0)) hc93 10 rfl ⟨⟨by omega, by omega⟩, ⟨by omega, by omega⟩, ⟨by omega, by omega⟩, ⟨by omega, by omega⟩, trivial⟩ ?_
            refine R_reti hc93 rfl rfl ?_
            refine R_s (f' := (50, [some (vR 1), some (vI p), some (vI v), none], [vI (-7)], LAY (u (shA A) 87 (wr (A 87) 7 ((rd (A 87) 7) + 1))) (shF F), 0, 0)) hc63 0 rfl trivial ?_
            refine R_reti hc63 rfl rfl ?_
            first
              | (exfalso; omega; done)
              | exact ⟨(-7), (u A 87 (wr (A 87) 7 ((rd (A 87) 7) + 1))), F, REL_ref hR0 (by decide) (by decide), rfl, rfl, rfl, ⟨rfl, rfl, rfl, rfl, by first | exact Int.le_refl _ | (show F 3 ≤ F 3 + 1; omega), rfl, rfl, rfl, rfl, rfl, rfl⟩⟩
          · refine R_s (P := True) (f' := (14, [some (vI v)], [vI 1], LAY (shA A) (shF F), 0, 0)) hc94 2 rfl trivial ?_
            refine R_retz hc94 rfl rfl (Or.inr rfl) ?_
            refine R_s (f' := (41, [some (vR 1), some (vI p), some (vI v), none], [vI 1], LAY (shA A) (shF F), 0, 0)) hc63 0 rfl trivial ?_
            refine R_if (t := 51) hc63 rfl rfl (fun (_ : ¬ 1 = 0) => ?_) (fun (z : ¬ (¬ 1 = 0)) => absurd (by decide) z)
            refine R_s (P := (0 ≤ p ∧ p < ((A 7).length : Int)) ∧ True) (f' := (60, [some (vR 1), some (vI p), some (vI v), none], [vI (rd (A 7) p)], LAY (shA A) (shF F), 0, 0)) hc63 5 rfl ⟨⟨by omega, by omega⟩, trivial⟩ ?_
            refine R_cs hc63 rfl rfl ?_ (fun r G h => h)
            refine R_s (P := True) (f' := (1, [some (vI (rd (A 7) p))], [vI (rd (A 7) p)], LAY (shA A) (shF F), 0, 0)) hc95 1 rfl trivial ?_
            refine R_if (t := 8) hc95 rfl rfl (fun (c8 : rd (A 7) p = 0) => ?_) (fun (c8 : ¬ (rd (A 7) p = 0)) => ?_)
            · refine R_s (P := True) (f' := (9, [some (vI (rd (A 7) p))], [vI 0], LAY (shA A) (shF F), 0, 0)) hc95 1 rfl trivial ?_
              refine R_reti hc95 rfl rfl ?_
              refine R_s (f' := (63, [some (vR 1), some (vI p), some (vI v), none], [vI 0], LAY (shA A) (shF F), 0, 0)) hc63 0 rfl trivial ?_
              refine R_s (P := True) (f' := (74, [some (vR 1), some (vI p), some (vI v), some (vI 0)], [vI 1, vI v, vI p, vR 7], LAY (shA A) (shF F), 0, 0)) hc63 7 rfl trivial ?_
              refine R_ic (t := 81) hc63 rfl rfl (fun (z : ¬ v = 1) => absurd z (by omega)) (fun (_ : ¬ (¬ v = 1)) => ?_)
              refine R_s (P := ((0 ≤ p ∧ p < ((A 7).length : Int)) ∧ (1 = 0 ∨ 1 = 1)) ∧ True) (f' := (84, [some (vR 1), some (vI p), some (vI v), some (vI 0)], [vI 0], LAY (u (shA A) 7 (wr (A 7) p 1)) (shF F), 0, 0)) hc63 4 rfl ⟨⟨⟨by omega, by omega⟩, by omega⟩, trivial⟩ ?_
              refine R_reti hc63 rfl rfl ?_
              first
                | (exfalso; omega; done)
                | exact ⟨0, (u (u A 7 (wr (A 7) p 1)) 94 (wr (A 94) p 1)), F, (REL_taken hR0 (by omega) (by decide)), rfl, rfl, rfl, ⟨rfl, rfl, rfl, rfl, by first | exact Int.le_refl _ | (show F 3 ≤ F 3 + 1; omega), rfl, rfl, rfl, rfl, rfl, rfl⟩⟩
            · refine R_s (P := True) (f' := (9, [some (vI (rd (A 7) p))], [vI 1], LAY (shA A) (shF F), 0, 0)) hc95 2 rfl trivial ?_
              refine R_reti hc95 rfl rfl ?_
              refine R_s (f' := (63, [some (vR 1), some (vI p), some (vI v), none], [vI 1], LAY (shA A) (shF F), 0, 0)) hc63 0 rfl trivial ?_
              refine R_s (P := True) (f' := (74, [some (vR 1), some (vI p), some (vI v), some (vI 1)], [vI 1, vI v, vI p, vR 7], LAY (shA A) (shF F), 0, 0)) hc63 7 rfl trivial ?_
              refine R_ic (t := 81) hc63 rfl rfl (fun (z : ¬ v = 1) => absurd z (by omega)) (fun (_ : ¬ (¬ v = 1)) => ?_)
              refine R_s (P := ((0 ≤ p ∧ p < ((A 7).length : Int)) ∧ (1 = 0 ∨ 1 = 1)) ∧ True) (f' := (84, [some (vR 1), some (vI p), some (vI v), some (vI 1)], [vI 1], LAY (u (shA A) 7 (wr (A 7) p 1)) (shF F), 0, 0)) hc63 4 rfl ⟨⟨⟨by omega, by omega⟩, by omega⟩, trivial⟩ ?_
              refine R_reti hc63 rfl rfl ?_
              first
                | (exfalso; omega; done)
                | exact ⟨1, (u (u A 7 (wr (A 7) p 1)) 94 (wr (A 94) p 1)), F, (REL_taken hR0 (by omega) (by decide)), rfl, rfl, rfl, ⟨rfl, rfl, rfl, rfl, by first | exact Int.le_refl _ | (show F 3 ≤ F 3 + 1; omega), rfl, rfl, rfl, rfl, rfl, rfl⟩⟩
      · refine R_s (P := True) (f' := (33, [some (vR 1), some (vI p), some (vI v), none], [vI (-5), vR 1], LAY (shA A) (shF F), 0, 0)) hc63 2 rfl trivial ?_
        refine R_cv hc63 rfl rfl ?_ (fun r G h => h)
        refine R_s (P := True) (f' := (3, [some (vR 1), some (vI (-5))], [vI (-2), vI (-5)], LAY (shA A) (shF F), 0, 0)) hc93 2 rfl trivial ?_
        refine R_ic (t := 23) hc93 rfl rfl (fun (z : (-2) < (-5)) => absurd z (by decide)) (fun (_ : ¬ ((-2) < (-5))) => ?_)
        refine R_s (P := True) (f' := (9, [some (vR 1), some (vI (-5))], [vI (-8), vI (-5)], LAY (shA A) (shF F), 0, 0)) hc93 2 rfl trivial ?_
        refine R_ic (t := 23) hc93 rfl rfl (fun (z : (-5) < (-8)) => absurd z (by decide)) (fun (_ : ¬ ((-5) < (-8))) => ?_)
        refine R_s (P := inI 5 ∧ (0 ≤ 5 ∧ 5 < ((A 87).length : Int)) ∧ inI ((rd (A 87) 5) + 1) ∧ (0 ≤ 5 ∧ 5 < ((A 87).length : Int)) ∧ True) (f' := (24, [some (vR 1), some (vI (-5))], [vI (-5)], LAY (u (shA A) 87 (wr (A 87) 5 ((rd (A 87) 5) + 1))) (shF F), 0, 0)) hc93 10 rfl ⟨⟨by omega, by omega⟩, ⟨by omega, by omega⟩, ⟨by omega, by omega⟩, ⟨by omega, by omega⟩, trivial⟩ ?_
        refine R_reti hc93 rfl rfl ?_
        refine R_s (f' := (36, [some (vR 1), some (vI p), some (vI v), none], [vI (-5)], LAY (u (shA A) 87 (wr (A 87) 5 ((rd (A 87) 5) + 1))) (shF F), 0, 0)) hc63 0 rfl trivial ?_
        refine R_reti hc63 rfl rfl ?_
        first
          | (exfalso; omega; done)
          | exact ⟨(-5), (u A 87 (wr (A 87) 5 ((rd (A 87) 5) + 1))), F, REL_ref hR0 (by decide) (by decide), rfl, rfl, rfl, ⟨rfl, rfl, rfl, rfl, by first | exact Int.le_refl _ | (show F 3 ≤ F 3 + 1; omega), rfl, rfl, rfl, rfl, rfl, rfl⟩⟩

