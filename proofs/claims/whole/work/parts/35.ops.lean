theorem op_manager_n {c : Int} {A : Nat → List Int} {F : Nat → Int} (hR : REL c A F) (hc : c < 512) (d : Int) (i_d : inI d) (hd : d < 0) : R 75 (0, L0 75 [vR 1, vI d], [], LAY (shA A) (shF F), 0, 0) (fun r G => (∃ x, r = some (vI x)) ∧ (∃ (A1 : Nat → List Int) (F1 : Nat → Int), G = LAY A1 F1 ∧ A1 0 = A 0) ∧ R 149 (0, L0 149 [vR 88, vI d], [], G, 0, 0) (fun r2 G2 => r2 = r ∧ ∃ (A' : Nat → List Int) (F' : Nat → Int), G2 = LAY (shA A') (shF F') ∧ A' 0 = A 0 ∧ REL (c + 1) A' F')) := by
  have hR0 := hR
  obtain ⟨hL, hPE, hTH, hTP, hDE, hLE, hNO, hAC, hRO, hRE⟩ := hR
  have j_d := i_d
  unfold inI at j_d
  have h87 : (A 87).length = 9 := hL 87 (by decide)
  have r2 := REFU_at hRE (k := 2) (by decide) (by decide) hc
  have r3 := REFU_at hRE (k := 3) (by decide) (by decide) hc
  have r4 := REFU_at hRE (k := 4) (by decide) (by decide) hc
  have r5 := REFU_at hRE (k := 5) (by decide) (by decide) hc
  have r6 := REFU_at hRE (k := 6) (by decide) (by decide) hc
  have r7 := REFU_at hRE (k := 7) (by decide) (by decide) hc
  have r8 := REFU_at hRE (k := 8) (by decide) (by decide) hc
  obtain ⟨t1, t2, t3, t4, t5, t6⟩ := hTH
  obtain ⟨p1, p2, p3, p4, p5, p6⟩ := hPE
  refine R_s (P := True) (f' := (2, [some (vR 1), some (vI d), none], [vI d, vR 1], LAY (shA A) (shF F), 0, 0)) hc75 2 rfl trivial ?_
  refine R_cv hc75 rfl rfl ?_ (fun r G h => h)
  refine R_s (P := True) (f' := (2, [some (vR 1), some (vI d)], [vI d, vR 1], LAY (shA A) (shF F), 0, 0)) hc99 2 rfl trivial ?_
  refine R_cv hc99 rfl rfl ?_ (fun r G h => h)
  refine R_s (P := True) (f' := (1, [some (vR 1), some (vI d)], [vI d], LAY (shA A) (shF F), 0, 0)) hc98 1 rfl trivial ?_
  refine R_if (t := 16) hc98 rfl rfl (fun (_ : d < 0) => ?_) (fun (z : ¬ (d < 0)) => absurd (show d < 0 by omega) z)
  refine R_s (P := True) (f' := (17, [some (vR 1), some (vI d)], [vI 0], LAY (shA A) (shF F), 0, 0)) hc98 1 rfl trivial ?_
  refine R_retz hc98 rfl rfl (Or.inl rfl) ?_
  refine R_s (f' := (5, [some (vR 1), some (vI d)], [vI 0], LAY (shA A) (shF F), 0, 0)) hc99 0 rfl trivial ?_
  refine R_if (t := 17) hc99 rfl rfl (fun (_ : 0 = 0) => ?_) (fun (z : ¬ (0 = 0)) => absurd (by decide) z)
  refine R_s (P := True) (f' := (18, [some (vR 1), some (vI d)], [vN], LAY (shA A) (shF F), 0, 0)) hc99 1 rfl trivial ?_
  refine R_reta hc99 rfl rfl ?_
  refine R_s (f' := (5, [some (vR 1), some (vI d), none], [vN], LAY (shA A) (shF F), 0, 0)) hc75 0 rfl trivial ?_
  refine R_s (P := True) (f' := (13, [some (vR 1), some (vI d), some (vN)], [vI (-3), vR 1], LAY (shA A) (shF F), 0, 0)) hc75 5 rfl trivial ?_
  refine R_cv hc75 rfl rfl ?_ (fun r G h => h)
  refine R_s (P := True) (f' := (3, [some (vR 1), some (vI (-3))], [vI (-2), vI (-3)], LAY (shA A) (shF F), 0, 0)) hc93 2 rfl trivial ?_
  refine R_ic (t := 23) hc93 rfl rfl (fun (z : (-2) < (-3)) => absurd z (by decide)) (fun (_ : ¬ ((-2) < (-3))) => ?_)
  refine R_s (P := True) (f' := (9, [some (vR 1), some (vI (-3))], [vI (-8), vI (-3)], LAY (shA A) (shF F), 0, 0)) hc93 2 rfl trivial ?_
  refine R_ic (t := 23) hc93 rfl rfl (fun (z : (-3) < (-8)) => absurd z (by decide)) (fun (_ : ¬ ((-3) < (-8))) => ?_)
  refine R_s (P := inI 3 ∧ (0 ≤ 3 ∧ 3 < ((A 87).length : Int)) ∧ inI ((rd (A 87) 3) + 1) ∧ (0 ≤ 3 ∧ 3 < ((A 87).length : Int)) ∧ True) (f' := (24, [some (vR 1), some (vI (-3))], [vI (-3)], LAY (u (shA A) 87 (wr (A 87) 3 ((rd (A 87) 3) + 1))) (shF F), 0, 0)) hc93 10 rfl ⟨⟨by omega, by omega⟩, ⟨by omega, by omega⟩, ⟨by omega, by omega⟩, ⟨by omega, by omega⟩, trivial⟩ ?_
  refine R_reti hc93 rfl rfl ?_
  refine R_s (f' := (16, [some (vR 1), some (vI d), some (vN)], [vI (-3)], LAY (u (shA A) 87 (wr (A 87) 3 ((rd (A 87) 3) + 1))) (shF F), 0, 0)) hc75 0 rfl trivial ?_
  refine R_reti hc75 rfl rfl ⟨⟨_, rfl⟩, ⟨_, _, rfl, rfl⟩, ?_⟩
  refine R_s (P := True) (f' := (2, [some (vR 88), some (vI d)], [vI d, vR 88], LAY (u (shA A) 87 (wr (A 87) 3 ((rd (A 87) 3) + 1))) (shF F), 0, 0)) hc149 2 rfl trivial ?_
  refine R_cv hc149 rfl rfl ?_ (fun r G h => h)
  refine R_s (P := inI ((F 0) - 1) ∧ True) (f' := (8, [some (vR 88), some (vI d)], [vI ((F 0) - 1), vI 0, vI d], LAY (u (shA A) 87 (wr (A 87) 3 ((rd (A 87) 3) + 1))) (shF F), 0, 0)) hc108 6 rfl ⟨⟨by omega, by omega⟩, trivial⟩ ?_
  refine R_cs hc108 rfl rfl ?_ (fun r G h => h)
  refine R_s (P := True) (f' := (2, [some (vI d), some (vI 0), some (vI ((F 0) - 1))], [vI 0, vI d], LAY (u (shA A) 87 (wr (A 87) 3 ((rd (A 87) 3) + 1))) (shF F), 0, 0)) hc104 2 rfl trivial ?_
  refine R_ic (t := 14) hc104 rfl rfl (fun (_ : d < 0) => ?_) (fun (z : ¬ (d < 0)) => absurd (show d < 0 by omega) z)
  refine R_s (P := True) (f' := (15, [some (vI d), some (vI 0), some (vI ((F 0) - 1))], [vI 0], LAY (u (shA A) 87 (wr (A 87) 3 ((rd (A 87) 3) + 1))) (shF F), 0, 0)) hc104 1 rfl trivial ?_
  refine R_retz hc104 rfl rfl (Or.inl rfl) ?_
  refine R_s (f' := (11, [some (vR 88), some (vI d)], [vI 0], LAY (u (shA A) 87 (wr (A 87) 3 ((rd (A 87) 3) + 1))) (shF F), 0, 0)) hc108 0 rfl trivial ?_
  refine R_retz hc108 rfl rfl (Or.inl rfl) ?_
  refine R_s (f' := (5, [some (vR 88), some (vI d)], [vI 0], LAY (u (shA A) 87 (wr (A 87) 3 ((rd (A 87) 3) + 1))) (shF F), 0, 0)) hc149 0 rfl trivial ?_
  refine R_if (t := 15) hc149 rfl rfl (fun (z : ¬ 0 = 0) => absurd z (by decide)) (fun (_ : ¬ (¬ 0 = 0)) => ?_)
  refine R_s (P := True) (f' := (11, [some (vR 88), some (vI d)], [vI (-3), vR 88], LAY (u (shA A) 87 (wr (A 87) 3 ((rd (A 87) 3) + 1))) (shF F), 0, 0)) hc149 2 rfl trivial ?_
  refine R_cv hc149 rfl rfl ?_ (fun r G h => h)
  refine R_s (P := inI 3 ∧ (0 ≤ 3 ∧ 3 < ((A 87).length : Int)) ∧ inI ((rd (A 87) 3) + 1) ∧ (0 ≤ 3 ∧ 3 < ((A 87).length : Int)) ∧ True) (f' := (12, [some (vR 88), some (vI (-3))], [vI (-3)], LAY (u (u (shA A) 87 (wr (A 87) 3 ((rd (A 87) 3) + 1))) 89 (wr (A 87) 3 ((rd (A 87) 3) + 1))) (shF F), 0, 0)) hc105 10 rfl ⟨⟨by omega, by omega⟩, ⟨by omega, by omega⟩, ⟨by omega, by omega⟩, ⟨by omega, by omega⟩, trivial⟩ ?_
  refine R_reti hc105 rfl rfl ?_
  refine R_s (f' := (14, [some (vR 88), some (vI d)], [vI (-3)], LAY (u (u (shA A) 87 (wr (A 87) 3 ((rd (A 87) 3) + 1))) 89 (wr (A 87) 3 ((rd (A 87) 3) + 1))) (shF F), 0, 0)) hc149 0 rfl trivial ?_
  refine R_reti hc149 rfl rfl ?_
  first
    | (exfalso; omega; done)
    | exact ⟨rfl, (u A 87 (wr (A 87) 3 ((rd (A 87) 3) + 1))), F, rfl, rfl, REL_ref hR0 (by decide) (by decide)⟩

theorem op_manager_b {c : Int} {A : Nat → List Int} {F : Nat → Int} (hR : REL c A F) (hc : c < 512) (d : Int) (i_d : inI d) (hd : 0 ≤ d ∧ F 0 ≤ d) : R 75 (0, L0 75 [vR 1, vI d], [], LAY (shA A) (shF F), 0, 0) (fun r G => (∃ x, r = some (vI x)) ∧ (∃ (A1 : Nat → List Int) (F1 : Nat → Int), G = LAY A1 F1 ∧ A1 0 = A 0) ∧ R 149 (0, L0 149 [vR 88, vI d], [], G, 0, 0) (fun r2 G2 => r2 = r ∧ ∃ (A' : Nat → List Int) (F' : Nat → Int), G2 = LAY (shA A') (shF F') ∧ A' 0 = A 0 ∧ REL (c + 1) A' F')) := by
  have hR0 := hR
  obtain ⟨hL, hPE, hTH, hTP, hDE, hLE, hNO, hAC, hRO, hRE⟩ := hR
  have j_d := i_d
  unfold inI at j_d
  have h87 : (A 87).length = 9 := hL 87 (by decide)
  have r2 := REFU_at hRE (k := 2) (by decide) (by decide) hc
  have r3 := REFU_at hRE (k := 3) (by decide) (by decide) hc
  have r4 := REFU_at hRE (k := 4) (by decide) (by decide) hc
  have r5 := REFU_at hRE (k := 5) (by decide) (by decide) hc
  have r6 := REFU_at hRE (k := 6) (by decide) (by decide) hc
  have r7 := REFU_at hRE (k := 7) (by decide) (by decide) hc
  have r8 := REFU_at hRE (k := 8) (by decide) (by decide) hc
  obtain ⟨t1, t2, t3, t4, t5, t6⟩ := hTH
  obtain ⟨p1, p2, p3, p4, p5, p6⟩ := hPE
  refine R_s (P := True) (f' := (2, [some (vR 1), some (vI d), none], [vI d, vR 1], LAY (shA A) (shF F), 0, 0)) hc75 2 rfl trivial ?_
  refine R_cv hc75 rfl rfl ?_ (fun r G h => h)
  refine R_s (P := True) (f' := (2, [some (vR 1), some (vI d)], [vI d, vR 1], LAY (shA A) (shF F), 0, 0)) hc99 2 rfl trivial ?_
  refine R_cv hc99 rfl rfl ?_ (fun r G h => h)
  refine R_s (P := True) (f' := (1, [some (vR 1), some (vI d)], [vI d], LAY (shA A) (shF F), 0, 0)) hc98 1 rfl trivial ?_
  refine R_if (t := 16) hc98 rfl rfl (fun (z : d < 0) => absurd z (by omega)) (fun (_ : ¬ (d < 0)) => ?_)
  refine R_s (P := True) (f' := (9, [some (vR 1), some (vI d)], [vI (F 0), vI d], LAY (shA A) (shF F), 0, 0)) hc98 3 rfl trivial ?_
  refine R_ic (t := 16) hc98 rfl rfl (fun (_ : F 0 ≤ d) => ?_) (fun (z : ¬ (F 0 ≤ d)) => absurd (show F 0 ≤ d by omega) z)
  refine R_s (P := True) (f' := (17, [some (vR 1), some (vI d)], [vI 0], LAY (shA A) (shF F), 0, 0)) hc98 1 rfl trivial ?_
  refine R_retz hc98 rfl rfl (Or.inl rfl) ?_
  refine R_s (f' := (5, [some (vR 1), some (vI d)], [vI 0], LAY (shA A) (shF F), 0, 0)) hc99 0 rfl trivial ?_
  refine R_if (t := 17) hc99 rfl rfl (fun (_ : 0 = 0) => ?_) (fun (z : ¬ (0 = 0)) => absurd (by decide) z)
  refine R_s (P := True) (f' := (18, [some (vR 1), some (vI d)], [vN], LAY (shA A) (shF F), 0, 0)) hc99 1 rfl trivial ?_
  refine R_reta hc99 rfl rfl ?_
  refine R_s (f' := (5, [some (vR 1), some (vI d), none], [vN], LAY (shA A) (shF F), 0, 0)) hc75 0 rfl trivial ?_
  refine R_s (P := True) (f' := (13, [some (vR 1), some (vI d), some (vN)], [vI (-3), vR 1], LAY (shA A) (shF F), 0, 0)) hc75 5 rfl trivial ?_
  refine R_cv hc75 rfl rfl ?_ (fun r G h => h)
  refine R_s (P := True) (f' := (3, [some (vR 1), some (vI (-3))], [vI (-2), vI (-3)], LAY (shA A) (shF F), 0, 0)) hc93 2 rfl trivial ?_
  refine R_ic (t := 23) hc93 rfl rfl (fun (z : (-2) < (-3)) => absurd z (by decide)) (fun (_ : ¬ ((-2) < (-3))) => ?_)
  refine R_s (P := True) (f' := (9, [some (vR 1), some (vI (-3))], [vI (-8), vI (-3)], LAY (shA A) (shF F), 0, 0)) hc93 2 rfl trivial ?_
  refine R_ic (t := 23) hc93 rfl rfl (fun (z : (-3) < (-8)) => absurd z (by decide)) (fun (_ : ¬ ((-3) < (-8))) => ?_)
  refine R_s (P := inI 3 ∧ (0 ≤ 3 ∧ 3 < ((A 87).length : Int)) ∧ inI ((rd (A 87) 3) + 1) ∧ (0 ≤ 3 ∧ 3 < ((A 87).length : Int)) ∧ True) (f' := (24, [some (vR 1), some (vI (-3))], [vI (-3)], LAY (u (shA A) 87 (wr (A 87) 3 ((rd (A 87) 3) + 1))) (shF F), 0, 0)) hc93 10 rfl ⟨⟨by omega, by omega⟩, ⟨by omega, by omega⟩, ⟨by omega, by omega⟩, ⟨by omega, by omega⟩, trivial⟩ ?_
  refine R_reti hc93 rfl rfl ?_
  refine R_s (f' := (16, [some (vR 1), some (vI d), some (vN)], [vI (-3)], LAY (u (shA A) 87 (wr (A 87) 3 ((rd (A 87) 3) + 1))) (shF F), 0, 0)) hc75 0 rfl trivial ?_
  refine R_reti hc75 rfl rfl ⟨⟨_, rfl⟩, ⟨_, _, rfl, rfl⟩, ?_⟩
  refine R_s (P := True) (f' := (2, [some (vR 88), some (vI d)], [vI d, vR 88], LAY (u (shA A) 87 (wr (A 87) 3 ((rd (A 87) 3) + 1))) (shF F), 0, 0)) hc149 2 rfl trivial ?_
  refine R_cv hc149 rfl rfl ?_ (fun r G h => h)
  refine R_s (P := inI ((F 0) - 1) ∧ True) (f' := (8, [some (vR 88), some (vI d)], [vI ((F 0) - 1), vI 0, vI d], LAY (u (shA A) 87 (wr (A 87) 3 ((rd (A 87) 3) + 1))) (shF F), 0, 0)) hc108 6 rfl ⟨⟨by omega, by omega⟩, trivial⟩ ?_
  refine R_cs hc108 rfl rfl ?_ (fun r G h => h)
  refine R_s (P := True) (f' := (2, [some (vI d), some (vI 0), some (vI ((F 0) - 1))], [vI 0, vI d], LAY (u (shA A) 87 (wr (A 87) 3 ((rd (A 87) 3) + 1))) (shF F), 0, 0)) hc104 2 rfl trivial ?_
  refine R_ic (t := 14) hc104 rfl rfl (fun (z : d < 0) => absurd z (by omega)) (fun (_ : ¬ (d < 0)) => ?_)
  refine R_s (P := True) (f' := (7, [some (vI d), some (vI 0), some (vI ((F 0) - 1))], [vI ((F 0) - 1), vI d], LAY (u (shA A) 87 (wr (A 87) 3 ((rd (A 87) 3) + 1))) (shF F), 0, 0)) hc104 2 rfl trivial ?_
  refine R_ic (t := 14) hc104 rfl rfl (fun (_ : (F 0) - 1 < d) => ?_) (fun (z : ¬ ((F 0) - 1 < d)) => absurd (show (F 0) - 1 < d by omega) z)
  refine R_s (P := True) (f' := (15, [some (vI d), some (vI 0), some (vI ((F 0) - 1))], [vI 0], LAY (u (shA A) 87 (wr (A 87) 3 ((rd (A 87) 3) + 1))) (shF F), 0, 0)) hc104 1 rfl trivial ?_
  refine R_retz hc104 rfl rfl (Or.inl rfl) ?_
  refine R_s (f' := (11, [some (vR 88), some (vI d)], [vI 0], LAY (u (shA A) 87 (wr (A 87) 3 ((rd (A 87) 3) + 1))) (shF F), 0, 0)) hc108 0 rfl trivial ?_
  refine R_retz hc108 rfl rfl (Or.inl rfl) ?_
  refine R_s (f' := (5, [some (vR 88), some (vI d)], [vI 0], LAY (u (shA A) 87 (wr (A 87) 3 ((rd (A 87) 3) + 1))) (shF F), 0, 0)) hc149 0 rfl trivial ?_
  refine R_if (t := 15) hc149 rfl rfl (fun (z : ¬ 0 = 0) => absurd z (by decide)) (fun (_ : ¬ (¬ 0 = 0)) => ?_)
  refine R_s (P := True) (f' := (11, [some (vR 88), some (vI d)], [vI (-3), vR 88], LAY (u (shA A) 87 (wr (A 87) 3 ((rd (A 87) 3) + 1))) (shF F), 0, 0)) hc149 2 rfl trivial ?_
  refine R_cv hc149 rfl rfl ?_ (fun r G h => h)
  refine R_s (P := inI 3 ∧ (0 ≤ 3 ∧ 3 < ((A 87).length : Int)) ∧ inI ((rd (A 87) 3) + 1) ∧ (0 ≤ 3 ∧ 3 < ((A 87).length : Int)) ∧ True) (f' := (12, [some (vR 88), some (vI (-3))], [vI (-3)], LAY (u (u (shA A) 87 (wr (A 87) 3 ((rd (A 87) 3) + 1))) 89 (wr (A 87) 3 ((rd (A 87) 3) + 1))) (shF F), 0, 0)) hc105 10 rfl ⟨⟨by omega, by omega⟩, ⟨by omega, by omega⟩, ⟨by omega, by omega⟩, ⟨by omega, by omega⟩, trivial⟩ ?_
  refine R_reti hc105 rfl rfl ?_
  refine R_s (f' := (14, [some (vR 88), some (vI d)], [vI (-3)], LAY (u (u (shA A) 87 (wr (A 87) 3 ((rd (A 87) 3) + 1))) 89 (wr (A 87) 3 ((rd (A 87) 3) + 1))) (shF F), 0, 0)) hc149 0 rfl trivial ?_
  refine R_reti hc149 rfl rfl ?_
  first
    | (exfalso; omega; done)
    | exact ⟨rfl, (u A 87 (wr (A 87) 3 ((rd (A 87) 3) + 1))), F, rfl, rfl, REL_ref hR0 (by decide) (by decide)⟩

theorem op_manager_0 {c : Int} {A : Nat → List Int} {F : Nat → Int} (hR : REL c A F) (hc : c < 512) (hd : (0 : Int) < F 0) : R 75 (0, L0 75 [vR 1, vI 0], [], LAY (shA A) (shF F), 0, 0) (fun r G => (∃ x, r = some (vI x)) ∧ (∃ (A1 : Nat → List Int) (F1 : Nat → Int), G = LAY A1 F1 ∧ A1 0 = A 0) ∧ R 149 (0, L0 149 [vR 88, vI 0], [], G, 0, 0) (fun r2 G2 => r2 = r ∧ ∃ (A' : Nat → List Int) (F' : Nat → Int), G2 = LAY (shA A') (shF F') ∧ A' 0 = A 0 ∧ REL (c + 1) A' F')) := by
  have hR0 := hR
  obtain ⟨hL, hPE, hTH, hTP, hDE, hLE, hNO, hAC, hRO, hRE⟩ := hR
  have h87 : (A 87).length = 9 := hL 87 (by decide)
  have h99 : (A 99).length = 6 := hL 99 (by decide)
  have r2 := REFU_at hRE (k := 2) (by decide) (by decide) hc
  have r3 := REFU_at hRE (k := 3) (by decide) (by decide) hc
  have r4 := REFU_at hRE (k := 4) (by decide) (by decide) hc
  have r5 := REFU_at hRE (k := 5) (by decide) (by decide) hc
  have r6 := REFU_at hRE (k := 6) (by decide) (by decide) hc
  have r7 := REFU_at hRE (k := 7) (by decide) (by decide) hc
  have r8 := REFU_at hRE (k := 8) (by decide) (by decide) hc
  obtain ⟨t1, t2, t3, t4, t5, t6⟩ := hTH
  obtain ⟨p1, p2, p3, p4, p5, p6⟩ := hPE
  have hD := D_at0 hR0 hd
  have he1 := hD.1.1
  have he2 := hD.1.2.1
  have hme : rd (A 99) 0 = F 8 := by
    have := hD.2.2.2.2.1
    omega
  obtain ⟨so, te, tp, mg, pm, lo, hS⟩ := SPL_ex A F (N_al A F) (N_Q A 21) (F 8).toNat (N_Y A F 0)
  refine R_s (P := True) (f' := (2, [some (vR 1), some (vI 0), none], [vI 0, vR 1], LAY (shA A) (shF F), 0, 0)) hc75 2 rfl trivial ?_
  refine R_cv hc75 rfl rfl ?_ (fun r G h => h)
  refine R_s (P := True) (f' := (2, [some (vR 1), some (vI 0)], [vI 0, vR 1], LAY (shA A) (shF F), 0, 0)) hc99 2 rfl trivial ?_
  refine R_cv hc99 rfl rfl ?_ (fun r G h => h)
  refine R_s (P := True) (f' := (1, [some (vR 1), some (vI 0)], [vI 0], LAY (shA A) (shF F), 0, 0)) hc98 1 rfl trivial ?_
  refine R_if (t := 16) hc98 rfl rfl (fun (z : 0 < 0) => absurd z (by decide)) (fun (_ : ¬ (0 < 0)) => ?_)
  refine R_s (P := True) (f' := (9, [some (vR 1), some (vI 0)], [vI (F 0), vI 0], LAY (shA A) (shF F), 0, 0)) hc98 3 rfl trivial ?_
  refine R_ic (t := 16) hc98 rfl rfl (fun (z : F 0 ≤ 0) => absurd z (by omega)) (fun (_ : ¬ (F 0 ≤ 0)) => ?_)
  refine R_s (P := True) (f' := (17, [some (vR 1), some (vI 0)], [vI 1], LAY (shA A) (shF F), 0, 0)) hc98 2 rfl trivial ?_
  refine R_retz hc98 rfl rfl (Or.inr rfl) ?_
  refine R_s (f' := (5, [some (vR 1), some (vI 0)], [vI 1], LAY (shA A) (shF F), 0, 0)) hc99 0 rfl trivial ?_
  refine R_if (t := 17) hc99 rfl rfl (fun (z : 1 = 0) => absurd z (by decide)) (fun (_ : ¬ (1 = 0)) => ?_)
  refine R_s (P := (0 ≤ (0 : Int) ∧ (0 : Int) < (([some 20, some 29, some 38, some 47, some 56, some 65] : List (Option Nat)).length : Int)) ∧ True) (f' := (18, [some (vR 1), some (vI 0)], [vR 20], LAY (shA A) (shF F), 0, 0)) hc99 5 rfl ⟨(by decide), trivial⟩ ?_
  refine R_reta hc99 rfl rfl ?_
  refine R_s (f' := (5, [some (vR 1), some (vI 0), none], [vR 20], LAY (shA A) (shF F), 0, 0)) hc75 0 rfl trivial ?_
  refine R_s (P := True) (f' := (20, [some (vR 1), some (vI 0), some (vR 20)], [vI 0, vR 20, vR 1], LAY (shA A) (shF F), 0, 0)) hc75 6 rfl trivial ?_
  refine R_cv hc75 rfl rfl (l_now0 hR0 hd hS) (fun r G9 hp9 => ?_)
  obtain ⟨rfl, l8, l9, l10, l11, l75, l76, l77, l78, rfl, k8, k9, k10, k11, k75, k76, k77, k78, v75, v76, v77⟩ := hp9
  refine R_s (f' := (23, [some (vR 1), some (vI 0), some (vR 20)], [], LAY (u (u (u (u (u (u (u (u (shA A) 8 l8) 9 l9) 10 l10) 11 l11) 75 l75) 76 l76) 77 l77) 78 l78) (u (u (shF F) 14 mg) 15 lo), 0, 0)) hc75 0 rfl trivial ?_
  refine R_s (P := True) (f' := (30, [some (vR 1), some (vI 0), some (vR 20)], [vI mg], LAY (u (u (u (u (u (u (u (u (shA A) 8 l8) 9 l9) 10 l10) 11 l11) 75 l75) 76 l76) 77 l77) 78 l78) (u (u (shF F) 14 mg) 15 lo), 0, 0)) hc75 3 rfl trivial ?_
  refine R_reti hc75 rfl rfl ⟨⟨_, rfl⟩, ⟨_, _, rfl, rfl⟩, ?_⟩
  refine R_s (P := True) (f' := (2, [some (vR 88), some (vI 0)], [vI 0, vR 88], LAY (u (u (u (u (u (u (u (u (shA A) 8 l8) 9 l9) 10 l10) 11 l11) 75 l75) 76 l76) 77 l77) 78 l78) (u (u (shF F) 14 mg) 15 lo), 0, 0)) hc149 2 rfl trivial ?_
  refine R_cv hc149 rfl rfl ?_ (fun r G h => h)
  refine R_s (P := inI ((F 0) - 1) ∧ True) (f' := (8, [some (vR 88), some (vI 0)], [vI ((F 0) - 1), vI 0, vI 0], LAY (u (u (u (u (u (u (u (u (shA A) 8 l8) 9 l9) 10 l10) 11 l11) 75 l75) 76 l76) 77 l77) 78 l78) (u (u (shF F) 14 mg) 15 lo), 0, 0)) hc108 6 rfl ⟨⟨by omega, by omega⟩, trivial⟩ ?_
  refine R_cs hc108 rfl rfl ?_ (fun r G h => h)
  refine R_s (P := True) (f' := (2, [some (vI 0), some (vI 0), some (vI ((F 0) - 1))], [vI 0, vI 0], LAY (u (u (u (u (u (u (u (u (shA A) 8 l8) 9 l9) 10 l10) 11 l11) 75 l75) 76 l76) 77 l77) 78 l78) (u (u (shF F) 14 mg) 15 lo), 0, 0)) hc104 2 rfl trivial ?_
  refine R_ic (t := 14) hc104 rfl rfl (fun (z : 0 < 0) => absurd z (by decide)) (fun (_ : ¬ (0 < 0)) => ?_)
  refine R_s (P := True) (f' := (7, [some (vI 0), some (vI 0), some (vI ((F 0) - 1))], [vI ((F 0) - 1), vI 0], LAY (u (u (u (u (u (u (u (u (shA A) 8 l8) 9 l9) 10 l10) 11 l11) 75 l75) 76 l76) 77 l77) 78 l78) (u (u (shF F) 14 mg) 15 lo), 0, 0)) hc104 2 rfl trivial ?_
  refine R_ic (t := 14) hc104 rfl rfl (fun (z : (F 0) - 1 < 0) => absurd z (by omega)) (fun (_ : ¬ ((F 0) - 1 < 0)) => ?_)
  refine R_s (P := True) (f' := (15, [some (vI 0), some (vI 0), some (vI ((F 0) - 1))], [vI 1], LAY (u (u (u (u (u (u (u (u (shA A) 8 l8) 9 l9) 10 l10) 11 l11) 75 l75) 76 l76) 77 l77) 78 l78) (u (u (shF F) 14 mg) 15 lo), 0, 0)) hc104 2 rfl trivial ?_
  refine R_retz hc104 rfl rfl (Or.inr rfl) ?_
  refine R_s (f' := (11, [some (vR 88), some (vI 0)], [vI 1], LAY (u (u (u (u (u (u (u (u (shA A) 8 l8) 9 l9) 10 l10) 11 l11) 75 l75) 76 l76) 77 l77) 78 l78) (u (u (shF F) 14 mg) 15 lo), 0, 0)) hc108 0 rfl trivial ?_
  refine R_retz hc108 rfl rfl (Or.inr rfl) ?_
  refine R_s (f' := (5, [some (vR 88), some (vI 0)], [vI 1], LAY (u (u (u (u (u (u (u (u (shA A) 8 l8) 9 l9) 10 l10) 11 l11) 75 l75) 76 l76) 77 l77) 78 l78) (u (u (shF F) 14 mg) 15 lo), 0, 0)) hc149 0 rfl trivial ?_
  refine R_if (t := 15) hc149 rfl rfl (fun (_ : ¬ 1 = 0) => ?_) (fun (z : ¬ (¬ 1 = 0)) => absurd (by decide) z)
  refine R_s (P := True) (f' := (17, [some (vR 88), some (vI 0)], [vI 0, vR 88], LAY (u (u (u (u (u (u (u (u (shA A) 8 l8) 9 l9) 10 l10) 11 l11) 75 l75) 76 l76) 77 l77) 78 l78) (u (u (shF F) 14 mg) 15 lo), 0, 0)) hc149 2 rfl trivial ?_
  refine R_cv hc149 rfl rfl (l_worksR hR0 (A1 := (u (u (u (u (u (u (u (u (shA A) 8 l8) 9 l9) 10 l10) 11 l11) 75 l75) 76 l76) 77 l77) 78 l78)) (F1 := (u (u (shF F) 14 mg) 15 lo)) rfl rfl rfl rfl rfl rfl rfl rfl rfl rfl rfl rfl rfl (hL 104 (by decide)) (hL 105 (by decide)) (hL 107 (by decide)) (hL 108 (by decide)) (hL 109 (by decide)) (hL 110 (by decide)) (hL 111 (by decide)) hD.1 hD.2 rfl hS) (fun r G9 hp9 => ?_)
  obtain ⟨rfl, l104, l105, l107, l108, l109, l110, l111, ac, rfl, k104, k105, k107, k108, k109, k110, k111, hac, w107, w108⟩ := hp9
  refine R_s (f' := (20, [some (vR 88), some (vI 0)], [], LAY (u (u (u (u (u (u (u (u (u (u (u (u (u (u (u (shA A) 8 l8) 9 l9) 10 l10) 11 l11) 75 l75) 76 l76) 77 l77) 78 l78) 109 l109) 104 l104) 105 l105) 110 l110) 111 l111) 108 l108) 107 l107) (u (u (u (u (u (u (shF F) 14 mg) 15 lo) 28 (N_Y A F 0)) 29 ac) 30 mg) 31 lo), 0, 0)) hc149 0 rfl trivial ?_
  refine R_s (P := True) (f' := (24, [some (vR 88), some (vI 0)], [vI mg], LAY (u (u (u (u (u (u (u (u (u (u (u (u (u (u (u (shA A) 8 l8) 9 l9) 10 l10) 11 l11) 75 l75) 76 l76) 77 l77) 78 l78) 109 l109) 104 l104) 105 l105) 110 l110) 111 l111) 108 l108) 107 l107) (u (u (u (u (u (u (shF F) 14 mg) 15 lo) 28 (N_Y A F 0)) 29 ac) 30 mg) 31 lo), 0, 0)) hc149 2 rfl trivial ?_
  refine R_reti hc149 rfl rfl ?_
  first
    | (exfalso; omega; done)
    | exact ⟨rfl, (u (u (u (u (u (u (u (u (u (u (u (u (u (u (u A 8 l8) 9 l9) 10 l10) 11 l11) 75 l75) 76 l76) 77 l77) 78 l78) 109 l109) 104 l104) 105 l105) 110 l110) 111 l111) 108 l108) 107 l107), (u (u (u (u (u (u F 14 mg) 15 lo) 28 (N_Y A F 0)) 29 ac) 30 mg) 31 lo), rfl, rfl, ⟨(LENS_u (LENS_u (LENS_u (LENS_u (LENS_u (LENS_u (LENS_u (LENS_u (LENS_u (LENS_u (LENS_u (LENS_u (LENS_u (LENS_u (LENS_u hL (by show (l8).length = (A 8).length; rw [k8, hL 8 (by decide)]; rfl)) (by show (l9).length = (A 9).length; rw [k9, hL 9 (by decide)]; rfl)) (by show (l10).length = (A 10).length; rw [k10, hL 10 (by decide)]; rfl)) (by show (l11).length = (A 11).length; rw [k11, hL 11 (by decide)]; rfl)) (by show (l75).length = (A 75).length; rw [k75, hL 75 (by decide)]; rfl)) (by show (l76).length = (A 76).length; rw [k76, hL 76 (by decide)]; rfl)) (by show (l77).length = (A 77).length; rw [k77, hL 77 (by decide)]; rfl)) (by show (l78).length = (A 78).length; rw [k78, hL 78 (by decide)]; rfl)) (by show (l109).length = (A 109).length; rw [k109, hL 109 (by decide)]; rfl)) (by show (l104).length = (A 104).length; rw [k104, hL 104 (by decide)]; rfl)) (by show (l105).length = (A 105).length; rw [k105, hL 105 (by decide)]; rfl)) (by show (l110).length = (A 110).length; rw [k110, hL 110 (by decide)]; rfl)) (by show (l111).length = (A 111).length; rw [k111, hL 111 (by decide)]; rfl)) (by show (l108).length = (A 108).length; rw [k108, hL 108 (by decide)]; rfl)) (by show (l107).length = (A 107).length; rw [k107, hL 107 (by decide)]; rfl)), hR0.2.1, hR0.2.2.1, hR0.2.2.2.1, hR0.2.2.2.2.1, hR0.2.2.2.2.2.1, hR0.2.2.2.2.2.2.1, hR0.2.2.2.2.2.2.2.1, hR0.2.2.2.2.2.2.2.2.1, (REFU_c hR0.2.2.2.2.2.2.2.2.2)⟩⟩

theorem op_manager_1 {c : Int} {A : Nat → List Int} {F : Nat → Int} (hR : REL c A F) (hc : c < 512) (hd : (1 : Int) < F 0) : R 75 (0, L0 75 [vR 1, vI 1], [], LAY (shA A) (shF F), 0, 0) (fun r G => (∃ x, r = some (vI x)) ∧ (∃ (A1 : Nat → List Int) (F1 : Nat → Int), G = LAY A1 F1 ∧ A1 0 = A 0) ∧ R 149 (0, L0 149 [vR 88, vI 1], [], G, 0, 0) (fun r2 G2 => r2 = r ∧ ∃ (A' : Nat → List Int) (F' : Nat → Int), G2 = LAY (shA A') (shF F') ∧ A' 0 = A 0 ∧ REL (c + 1) A' F')) := by
  have hR0 := hR
  obtain ⟨hL, hPE, hTH, hTP, hDE, hLE, hNO, hAC, hRO, hRE⟩ := hR
  have h87 : (A 87).length = 9 := hL 87 (by decide)
  have h99 : (A 99).length = 6 := hL 99 (by decide)
  have r2 := REFU_at hRE (k := 2) (by decide) (by decide) hc
  have r3 := REFU_at hRE (k := 3) (by decide) (by decide) hc
  have r4 := REFU_at hRE (k := 4) (by decide) (by decide) hc
  have r5 := REFU_at hRE (k := 5) (by decide) (by decide) hc
  have r6 := REFU_at hRE (k := 6) (by decide) (by decide) hc
  have r7 := REFU_at hRE (k := 7) (by decide) (by decide) hc
  have r8 := REFU_at hRE (k := 8) (by decide) (by decide) hc
  obtain ⟨t1, t2, t3, t4, t5, t6⟩ := hTH
  obtain ⟨p1, p2, p3, p4, p5, p6⟩ := hPE
  have hD := D_at1 hR0 hd
  have he1 := hD.1.1
  have he2 := hD.1.2.1
  have hme : rd (A 99) 1 = F 9 := by
    have := hD.2.2.2.2.1
    omega
  obtain ⟨so, te, tp, mg, pm, lo, hS⟩ := SPL_ex A F (N_al A F) (N_Q A 30) (F 9).toNat (N_Y A F 1)
  refine R_s (P := True) (f' := (2, [some (vR 1), some (vI 1), none], [vI 1, vR 1], LAY (shA A) (shF F), 0, 0)) hc75 2 rfl trivial ?_
  refine R_cv hc75 rfl rfl ?_ (fun r G h => h)
  refine R_s (P := True) (f' := (2, [some (vR 1), some (vI 1)], [vI 1, vR 1], LAY (shA A) (shF F), 0, 0)) hc99 2 rfl trivial ?_
  refine R_cv hc99 rfl rfl ?_ (fun r G h => h)
  refine R_s (P := True) (f' := (1, [some (vR 1), some (vI 1)], [vI 1], LAY (shA A) (shF F), 0, 0)) hc98 1 rfl trivial ?_
  refine R_if (t := 16) hc98 rfl rfl (fun (z : 1 < 0) => absurd z (by decide)) (fun (_ : ¬ (1 < 0)) => ?_)
  refine R_s (P := True) (f' := (9, [some (vR 1), some (vI 1)], [vI (F 0), vI 1], LAY (shA A) (shF F), 0, 0)) hc98 3 rfl trivial ?_
  refine R_ic (t := 16) hc98 rfl rfl (fun (z : F 0 ≤ 1) => absurd z (by omega)) (fun (_ : ¬ (F 0 ≤ 1)) => ?_)
  refine R_s (P := True) (f' := (17, [some (vR 1), some (vI 1)], [vI 1], LAY (shA A) (shF F), 0, 0)) hc98 2 rfl trivial ?_
  refine R_retz hc98 rfl rfl (Or.inr rfl) ?_
  refine R_s (f' := (5, [some (vR 1), some (vI 1)], [vI 1], LAY (shA A) (shF F), 0, 0)) hc99 0 rfl trivial ?_
  refine R_if (t := 17) hc99 rfl rfl (fun (z : 1 = 0) => absurd z (by decide)) (fun (_ : ¬ (1 = 0)) => ?_)
  refine R_s (P := (0 ≤ (1 : Int) ∧ (1 : Int) < (([some 20, some 29, some 38, some 47, some 56, some 65] : List (Option Nat)).length : Int)) ∧ True) (f' := (18, [some (vR 1), some (vI 1)], [vR 29], LAY (shA A) (shF F), 0, 0)) hc99 5 rfl ⟨(by decide), trivial⟩ ?_
  refine R_reta hc99 rfl rfl ?_
  refine R_s (f' := (5, [some (vR 1), some (vI 1), none], [vR 29], LAY (shA A) (shF F), 0, 0)) hc75 0 rfl trivial ?_
  refine R_s (P := True) (f' := (20, [some (vR 1), some (vI 1), some (vR 29)], [vI 1, vR 29, vR 1], LAY (shA A) (shF F), 0, 0)) hc75 6 rfl trivial ?_
  refine R_cv hc75 rfl rfl (l_now1 hR0 hd hS) (fun r G9 hp9 => ?_)
  obtain ⟨rfl, l8, l9, l10, l11, l75, l76, l77, l78, rfl, k8, k9, k10, k11, k75, k76, k77, k78, v75, v76, v77⟩ := hp9
  refine R_s (f' := (23, [some (vR 1), some (vI 1), some (vR 29)], [], LAY (u (u (u (u (u (u (u (u (shA A) 8 l8) 9 l9) 10 l10) 11 l11) 75 l75) 76 l76) 77 l77) 78 l78) (u (u (shF F) 14 mg) 15 lo), 0, 0)) hc75 0 rfl trivial ?_
  refine R_s (P := True) (f' := (30, [some (vR 1), some (vI 1), some (vR 29)], [vI mg], LAY (u (u (u (u (u (u (u (u (shA A) 8 l8) 9 l9) 10 l10) 11 l11) 75 l75) 76 l76) 77 l77) 78 l78) (u (u (shF F) 14 mg) 15 lo), 0, 0)) hc75 3 rfl trivial ?_
  refine R_reti hc75 rfl rfl ⟨⟨_, rfl⟩, ⟨_, _, rfl, rfl⟩, ?_⟩
  refine R_s (P := True) (f' := (2, [some (vR 88), some (vI 1)], [vI 1, vR 88], LAY (u (u (u (u (u (u (u (u (shA A) 8 l8) 9 l9) 10 l10) 11 l11) 75 l75) 76 l76) 77 l77) 78 l78) (u (u (shF F) 14 mg) 15 lo), 0, 0)) hc149 2 rfl trivial ?_
  refine R_cv hc149 rfl rfl ?_ (fun r G h => h)
  refine R_s (P := inI ((F 0) - 1) ∧ True) (f' := (8, [some (vR 88), some (vI 1)], [vI ((F 0) - 1), vI 0, vI 1], LAY (u (u (u (u (u (u (u (u (shA A) 8 l8) 9 l9) 10 l10) 11 l11) 75 l75) 76 l76) 77 l77) 78 l78) (u (u (shF F) 14 mg) 15 lo), 0, 0)) hc108 6 rfl ⟨⟨by omega, by omega⟩, trivial⟩ ?_
  refine R_cs hc108 rfl rfl ?_ (fun r G h => h)
  refine R_s (P := True) (f' := (2, [some (vI 1), some (vI 0), some (vI ((F 0) - 1))], [vI 0, vI 1], LAY (u (u (u (u (u (u (u (u (shA A) 8 l8) 9 l9) 10 l10) 11 l11) 75 l75) 76 l76) 77 l77) 78 l78) (u (u (shF F) 14 mg) 15 lo), 0, 0)) hc104 2 rfl trivial ?_
  refine R_ic (t := 14) hc104 rfl rfl (fun (z : 1 < 0) => absurd z (by decide)) (fun (_ : ¬ (1 < 0)) => ?_)
  refine R_s (P := True) (f' := (7, [some (vI 1), some (vI 0), some (vI ((F 0) - 1))], [vI ((F 0) - 1), vI 1], LAY (u (u (u (u (u (u (u (u (shA A) 8 l8) 9 l9) 10 l10) 11 l11) 75 l75) 76 l76) 77 l77) 78 l78) (u (u (shF F) 14 mg) 15 lo), 0, 0)) hc104 2 rfl trivial ?_
  refine R_ic (t := 14) hc104 rfl rfl (fun (z : (F 0) - 1 < 1) => absurd z (by omega)) (fun (_ : ¬ ((F 0) - 1 < 1)) => ?_)
  refine R_s (P := True) (f' := (15, [some (vI 1), some (vI 0), some (vI ((F 0) - 1))], [vI 1], LAY (u (u (u (u (u (u (u (u (shA A) 8 l8) 9 l9) 10 l10) 11 l11) 75 l75) 76 l76) 77 l77) 78 l78) (u (u (shF F) 14 mg) 15 lo), 0, 0)) hc104 2 rfl trivial ?_
  refine R_retz hc104 rfl rfl (Or.inr rfl) ?_
  refine R_s (f' := (11, [some (vR 88), some (vI 1)], [vI 1], LAY (u (u (u (u (u (u (u (u (shA A) 8 l8) 9 l9) 10 l10) 11 l11) 75 l75) 76 l76) 77 l77) 78 l78) (u (u (shF F) 14 mg) 15 lo), 0, 0)) hc108 0 rfl trivial ?_
  refine R_retz hc108 rfl rfl (Or.inr rfl) ?_
  refine R_s (f' := (5, [some (vR 88), some (vI 1)], [vI 1], LAY (u (u (u (u (u (u (u (u (shA A) 8 l8) 9 l9) 10 l10) 11 l11) 75 l75) 76 l76) 77 l77) 78 l78) (u (u (shF F) 14 mg) 15 lo), 0, 0)) hc149 0 rfl trivial ?_
  refine R_if (t := 15) hc149 rfl rfl (fun (_ : ¬ 1 = 0) => ?_) (fun (z : ¬ (¬ 1 = 0)) => absurd (by decide) z)
  refine R_s (P := True) (f' := (17, [some (vR 88), some (vI 1)], [vI 1, vR 88], LAY (u (u (u (u (u (u (u (u (shA A) 8 l8) 9 l9) 10 l10) 11 l11) 75 l75) 76 l76) 77 l77) 78 l78) (u (u (shF F) 14 mg) 15 lo), 0, 0)) hc149 2 rfl trivial ?_
  refine R_cv hc149 rfl rfl (l_worksR hR0 (A1 := (u (u (u (u (u (u (u (u (shA A) 8 l8) 9 l9) 10 l10) 11 l11) 75 l75) 76 l76) 77 l77) 78 l78)) (F1 := (u (u (shF F) 14 mg) 15 lo)) rfl rfl rfl rfl rfl rfl rfl rfl rfl rfl rfl rfl rfl (hL 104 (by decide)) (hL 105 (by decide)) (hL 107 (by decide)) (hL 108 (by decide)) (hL 109 (by decide)) (hL 110 (by decide)) (hL 111 (by decide)) hD.1 hD.2 rfl hS) (fun r G9 hp9 => ?_)
  obtain ⟨rfl, l104, l105, l107, l108, l109, l110, l111, ac, rfl, k104, k105, k107, k108, k109, k110, k111, hac, w107, w108⟩ := hp9
  refine R_s (f' := (20, [some (vR 88), some (vI 1)], [], LAY (u (u (u (u (u (u (u (u (u (u (u (u (u (u (u (shA A) 8 l8) 9 l9) 10 l10) 11 l11) 75 l75) 76 l76) 77 l77) 78 l78) 109 l109) 104 l104) 105 l105) 110 l110) 111 l111) 108 l108) 107 l107) (u (u (u (u (u (u (shF F) 14 mg) 15 lo) 28 (N_Y A F 1)) 29 ac) 30 mg) 31 lo), 0, 0)) hc149 0 rfl trivial ?_
  refine R_s (P := True) (f' := (24, [some (vR 88), some (vI 1)], [vI mg], LAY (u (u (u (u (u (u (u (u (u (u (u (u (u (u (u (shA A) 8 l8) 9 l9) 10 l10) 11 l11) 75 l75) 76 l76) 77 l77) 78 l78) 109 l109) 104 l104) 105 l105) 110 l110) 111 l111) 108 l108) 107 l107) (u (u (u (u (u (u (shF F) 14 mg) 15 lo) 28 (N_Y A F 1)) 29 ac) 30 mg) 31 lo), 0, 0)) hc149 2 rfl trivial ?_
  refine R_reti hc149 rfl rfl ?_
  first
    | (exfalso; omega; done)
    | exact ⟨rfl, (u (u (u (u (u (u (u (u (u (u (u (u (u (u (u A 8 l8) 9 l9) 10 l10) 11 l11) 75 l75) 76 l76) 77 l77) 78 l78) 109 l109) 104 l104) 105 l105) 110 l110) 111 l111) 108 l108) 107 l107), (u (u (u (u (u (u F 14 mg) 15 lo) 28 (N_Y A F 1)) 29 ac) 30 mg) 31 lo), rfl, rfl, ⟨(LENS_u (LENS_u (LENS_u (LENS_u (LENS_u (LENS_u (LENS_u (LENS_u (LENS_u (LENS_u (LENS_u (LENS_u (LENS_u (LENS_u (LENS_u hL (by show (l8).length = (A 8).length; rw [k8, hL 8 (by decide)]; rfl)) (by show (l9).length = (A 9).length; rw [k9, hL 9 (by decide)]; rfl)) (by show (l10).length = (A 10).length; rw [k10, hL 10 (by decide)]; rfl)) (by show (l11).length = (A 11).length; rw [k11, hL 11 (by decide)]; rfl)) (by show (l75).length = (A 75).length; rw [k75, hL 75 (by decide)]; rfl)) (by show (l76).length = (A 76).length; rw [k76, hL 76 (by decide)]; rfl)) (by show (l77).length = (A 77).length; rw [k77, hL 77 (by decide)]; rfl)) (by show (l78).length = (A 78).length; rw [k78, hL 78 (by decide)]; rfl)) (by show (l109).length = (A 109).length; rw [k109, hL 109 (by decide)]; rfl)) (by show (l104).length = (A 104).length; rw [k104, hL 104 (by decide)]; rfl)) (by show (l105).length = (A 105).length; rw [k105, hL 105 (by decide)]; rfl)) (by show (l110).length = (A 110).length; rw [k110, hL 110 (by decide)]; rfl)) (by show (l111).length = (A 111).length; rw [k111, hL 111 (by decide)]; rfl)) (by show (l108).length = (A 108).length; rw [k108, hL 108 (by decide)]; rfl)) (by show (l107).length = (A 107).length; rw [k107, hL 107 (by decide)]; rfl)), hR0.2.1, hR0.2.2.1, hR0.2.2.2.1, hR0.2.2.2.2.1, hR0.2.2.2.2.2.1, hR0.2.2.2.2.2.2.1, hR0.2.2.2.2.2.2.2.1, hR0.2.2.2.2.2.2.2.2.1, (REFU_c hR0.2.2.2.2.2.2.2.2.2)⟩⟩

theorem op_manager_2 {c : Int} {A : Nat → List Int} {F : Nat → Int} (hR : REL c A F) (hc : c < 512) (hd : (2 : Int) < F 0) : R 75 (0, L0 75 [vR 1, vI 2], [], LAY (shA A) (shF F), 0, 0) (fun r G => (∃ x, r = some (vI x)) ∧ (∃ (A1 : Nat → List Int) (F1 : Nat → Int), G = LAY A1 F1 ∧ A1 0 = A 0) ∧ R 149 (0, L0 149 [vR 88, vI 2], [], G, 0, 0) (fun r2 G2 => r2 = r ∧ ∃ (A' : Nat → List Int) (F' : Nat → Int), G2 = LAY (shA A') (shF F') ∧ A' 0 = A 0 ∧ REL (c + 1) A' F')) := by
  have hR0 := hR
  obtain ⟨hL, hPE, hTH, hTP, hDE, hLE, hNO, hAC, hRO, hRE⟩ := hR
  have h87 : (A 87).length = 9 := hL 87 (by decide)
  have h99 : (A 99).length = 6 := hL 99 (by decide)
  have r2 := REFU_at hRE (k := 2) (by decide) (by decide) hc
  have r3 := REFU_at hRE (k := 3) (by decide) (by decide) hc
  have r4 := REFU_at hRE (k := 4) (by decide) (by decide) hc
  have r5 := REFU_at hRE (k := 5) (by decide) (by decide) hc
  have r6 := REFU_at hRE (k := 6) (by decide) (by decide) hc
  have r7 := REFU_at hRE (k := 7) (by decide) (by decide) hc
  have r8 := REFU_at hRE (k := 8) (by decide) (by decide) hc
  obtain ⟨t1, t2, t3, t4, t5, t6⟩ := hTH
  obtain ⟨p1, p2, p3, p4, p5, p6⟩ := hPE
  have hD := D_at2 hR0 hd
  have he1 := hD.1.1
  have he2 := hD.1.2.1
  have hme : rd (A 99) 2 = F 10 := by
    have := hD.2.2.2.2.1
    omega
  obtain ⟨so, te, tp, mg, pm, lo, hS⟩ := SPL_ex A F (N_al A F) (N_Q A 39) (F 10).toNat (N_Y A F 2)
  refine R_s (P := True) (f' := (2, [some (vR 1), some (vI 2), none], [vI 2, vR 1], LAY (shA A) (shF F), 0, 0)) hc75 2 rfl trivial ?_
  refine R_cv hc75 rfl rfl ?_ (fun r G h => h)
  refine R_s (P := True) (f' := (2, [some (vR 1), some (vI 2)], [vI 2, vR 1], LAY (shA A) (shF F), 0, 0)) hc99 2 rfl trivial ?_
  refine R_cv hc99 rfl rfl ?_ (fun r G h => h)
  refine R_s (P := True) (f' := (1, [some (vR 1), some (vI 2)], [vI 2], LAY (shA A) (shF F), 0, 0)) hc98 1 rfl trivial ?_
  refine R_if (t := 16) hc98 rfl rfl (fun (z : 2 < 0) => absurd z (by decide)) (fun (_ : ¬ (2 < 0)) => ?_)
  refine R_s (P := True) (f' := (9, [some (vR 1), some (vI 2)], [vI (F 0), vI 2], LAY (shA A) (shF F), 0, 0)) hc98 3 rfl trivial ?_
  refine R_ic (t := 16) hc98 rfl rfl (fun (z : F 0 ≤ 2) => absurd z (by omega)) (fun (_ : ¬ (F 0 ≤ 2)) => ?_)
  refine R_s (P := True) (f' := (17, [some (vR 1), some (vI 2)], [vI 1], LAY (shA A) (shF F), 0, 0)) hc98 2 rfl trivial ?_
  refine R_retz hc98 rfl rfl (Or.inr rfl) ?_
  refine R_s (f' := (5, [some (vR 1), some (vI 2)], [vI 1], LAY (shA A) (shF F), 0, 0)) hc99 0 rfl trivial ?_
  refine R_if (t := 17) hc99 rfl rfl (fun (z : 1 = 0) => absurd z (by decide)) (fun (_ : ¬ (1 = 0)) => ?_)
  refine R_s (P := (0 ≤ (2 : Int) ∧ (2 : Int) < (([some 20, some 29, some 38, some 47, some 56, some 65] : List (Option Nat)).length : Int)) ∧ True) (f' := (18, [some (vR 1), some (vI 2)], [vR 38], LAY (shA A) (shF F), 0, 0)) hc99 5 rfl ⟨(by decide), trivial⟩ ?_
  refine R_reta hc99 rfl rfl ?_
  refine R_s (f' := (5, [some (vR 1), some (vI 2), none], [vR 38], LAY (shA A) (shF F), 0, 0)) hc75 0 rfl trivial ?_
  refine R_s (P := True) (f' := (20, [some (vR 1), some (vI 2), some (vR 38)], [vI 2, vR 38, vR 1], LAY (shA A) (shF F), 0, 0)) hc75 6 rfl trivial ?_
  refine R_cv hc75 rfl rfl (l_now2 hR0 hd hS) (fun r G9 hp9 => ?_)
  obtain ⟨rfl, l8, l9, l10, l11, l75, l76, l77, l78, rfl, k8, k9, k10, k11, k75, k76, k77, k78, v75, v76, v77⟩ := hp9
  refine R_s (f' := (23, [some (vR 1), some (vI 2), some (vR 38)], [], LAY (u (u (u (u (u (u (u (u (shA A) 8 l8) 9 l9) 10 l10) 11 l11) 75 l75) 76 l76) 77 l77) 78 l78) (u (u (shF F) 14 mg) 15 lo), 0, 0)) hc75 0 rfl trivial ?_
  refine R_s (P := True) (f' := (30, [some (vR 1), some (vI 2), some (vR 38)], [vI mg], LAY (u (u (u (u (u (u (u (u (shA A) 8 l8) 9 l9) 10 l10) 11 l11) 75 l75) 76 l76) 77 l77) 78 l78) (u (u (shF F) 14 mg) 15 lo), 0, 0)) hc75 3 rfl trivial ?_
  refine R_reti hc75 rfl rfl ⟨⟨_, rfl⟩, ⟨_, _, rfl, rfl⟩, ?_⟩
  refine R_s (P := True) (f' := (2, [some (vR 88), some (vI 2)], [vI 2, vR 88], LAY (u (u (u (u (u (u (u (u (shA A) 8 l8) 9 l9) 10 l10) 11 l11) 75 l75) 76 l76) 77 l77) 78 l78) (u (u (shF F) 14 mg) 15 lo), 0, 0)) hc149 2 rfl trivial ?_
  refine R_cv hc149 rfl rfl ?_ (fun r G h => h)
  refine R_s (P := inI ((F 0) - 1) ∧ True) (f' := (8, [some (vR 88), some (vI 2)], [vI ((F 0) - 1), vI 0, vI 2], LAY (u (u (u (u (u (u (u (u (shA A) 8 l8) 9 l9) 10 l10) 11 l11) 75 l75) 76 l76) 77 l77) 78 l78) (u (u (shF F) 14 mg) 15 lo), 0, 0)) hc108 6 rfl ⟨⟨by omega, by omega⟩, trivial⟩ ?_
  refine R_cs hc108 rfl rfl ?_ (fun r G h => h)
  refine R_s (P := True) (f' := (2, [some (vI 2), some (vI 0), some (vI ((F 0) - 1))], [vI 0, vI 2], LAY (u (u (u (u (u (u (u (u (shA A) 8 l8) 9 l9) 10 l10) 11 l11) 75 l75) 76 l76) 77 l77) 78 l78) (u (u (shF F) 14 mg) 15 lo), 0, 0)) hc104 2 rfl trivial ?_
  refine R_ic (t := 14) hc104 rfl rfl (fun (z : 2 < 0) => absurd z (by decide)) (fun (_ : ¬ (2 < 0)) => ?_)
  refine R_s (P := True) (f' := (7, [some (vI 2), some (vI 0), some (vI ((F 0) - 1))], [vI ((F 0) - 1), vI 2], LAY (u (u (u (u (u (u (u (u (shA A) 8 l8) 9 l9) 10 l10) 11 l11) 75 l75) 76 l76) 77 l77) 78 l78) (u (u (shF F) 14 mg) 15 lo), 0, 0)) hc104 2 rfl trivial ?_
  refine R_ic (t := 14) hc104 rfl rfl (fun (z : (F 0) - 1 < 2) => absurd z (by omega)) (fun (_ : ¬ ((F 0) - 1 < 2)) => ?_)
  refine R_s (P := True) (f' := (15, [some (vI 2), some (vI 0), some (vI ((F 0) - 1))], [vI 1], LAY (u (u (u (u (u (u (u (u (shA A) 8 l8) 9 l9) 10 l10) 11 l11) 75 l75) 76 l76) 77 l77) 78 l78) (u (u (shF F) 14 mg) 15 lo), 0, 0)) hc104 2 rfl trivial ?_
  refine R_retz hc104 rfl rfl (Or.inr rfl) ?_
  refine R_s (f' := (11, [some (vR 88), some (vI 2)], [vI 1], LAY (u (u (u (u (u (u (u (u (shA A) 8 l8) 9 l9) 10 l10) 11 l11) 75 l75) 76 l76) 77 l77) 78 l78) (u (u (shF F) 14 mg) 15 lo), 0, 0)) hc108 0 rfl trivial ?_
  refine R_retz hc108 rfl rfl (Or.inr rfl) ?_
  refine R_s (f' := (5, [some (vR 88), some (vI 2)], [vI 1], LAY (u (u (u (u (u (u (u (u (shA A) 8 l8) 9 l9) 10 l10) 11 l11) 75 l75) 76 l76) 77 l77) 78 l78) (u (u (shF F) 14 mg) 15 lo), 0, 0)) hc149 0 rfl trivial ?_
  refine R_if (t := 15) hc149 rfl rfl (fun (_ : ¬ 1 = 0) => ?_) (fun (z : ¬ (¬ 1 = 0)) => absurd (by decide) z)
  refine R_s (P := True) (f' := (17, [some (vR 88), some (vI 2)], [vI 2, vR 88], LAY (u (u (u (u (u (u (u (u (shA A) 8 l8) 9 l9) 10 l10) 11 l11) 75 l75) 76 l76) 77 l77) 78 l78) (u (u (shF F) 14 mg) 15 lo), 0, 0)) hc149 2 rfl trivial ?_
  refine R_cv hc149 rfl rfl (l_worksR hR0 (A1 := (u (u (u (u (u (u (u (u (shA A) 8 l8) 9 l9) 10 l10) 11 l11) 75 l75) 76 l76) 77 l77) 78 l78)) (F1 := (u (u (shF F) 14 mg) 15 lo)) rfl rfl rfl rfl rfl rfl rfl rfl rfl rfl rfl rfl rfl (hL 104 (by decide)) (hL 105 (by decide)) (hL 107 (by decide)) (hL 108 (by decide)) (hL 109 (by decide)) (hL 110 (by decide)) (hL 111 (by decide)) hD.1 hD.2 rfl hS) (fun r G9 hp9 => ?_)
  obtain ⟨rfl, l104, l105, l107, l108, l109, l110, l111, ac, rfl, k104, k105, k107, k108, k109, k110, k111, hac, w107, w108⟩ := hp9
  refine R_s (f' := (20, [some (vR 88), some (vI 2)], [], LAY (u (u (u (u (u (u (u (u (u (u (u (u (u (u (u (shA A) 8 l8) 9 l9) 10 l10) 11 l11) 75 l75) 76 l76) 77 l77) 78 l78) 109 l109) 104 l104) 105 l105) 110 l110) 111 l111) 108 l108) 107 l107) (u (u (u (u (u (u (shF F) 14 mg) 15 lo) 28 (N_Y A F 2)) 29 ac) 30 mg) 31 lo), 0, 0)) hc149 0 rfl trivial ?_
  refine R_s (P := True) (f' := (24, [some (vR 88), some (vI 2)], [vI mg], LAY (u (u (u (u (u (u (u (u (u (u (u (u (u (u (u (shA A) 8 l8) 9 l9) 10 l10) 11 l11) 75 l75) 76 l76) 77 l77) 78 l78) 109 l109) 104 l104) 105 l105) 110 l110) 111 l111) 108 l108) 107 l107) (u (u (u (u (u (u (shF F) 14 mg) 15 lo) 28 (N_Y A F 2)) 29 ac) 30 mg) 31 lo), 0, 0)) hc149 2 rfl trivial ?_
  refine R_reti hc149 rfl rfl ?_
  first
    | (exfalso; omega; done)
    | exact ⟨rfl, (u (u (u (u (u (u (u (u (u (u (u (u (u (u (u A 8 l8) 9 l9) 10 l10) 11 l11) 75 l75) 76 l76) 77 l77) 78 l78) 109 l109) 104 l104) 105 l105) 110 l110) 111 l111) 108 l108) 107 l107), (u (u (u (u (u (u F 14 mg) 15 lo) 28 (N_Y A F 2)) 29 ac) 30 mg) 31 lo), rfl, rfl, ⟨(LENS_u (LENS_u (LENS_u (LENS_u (LENS_u (LENS_u (LENS_u (LENS_u (LENS_u (LENS_u (LENS_u (LENS_u (LENS_u (LENS_u (LENS_u hL (by show (l8).length = (A 8).length; rw [k8, hL 8 (by decide)]; rfl)) (by show (l9).length = (A 9).length; rw [k9, hL 9 (by decide)]; rfl)) (by show (l10).length = (A 10).length; rw [k10, hL 10 (by decide)]; rfl)) (by show (l11).length = (A 11).length; rw [k11, hL 11 (by decide)]; rfl)) (by show (l75).length = (A 75).length; rw [k75, hL 75 (by decide)]; rfl)) (by show (l76).length = (A 76).length; rw [k76, hL 76 (by decide)]; rfl)) (by show (l77).length = (A 77).length; rw [k77, hL 77 (by decide)]; rfl)) (by show (l78).length = (A 78).length; rw [k78, hL 78 (by decide)]; rfl)) (by show (l109).length = (A 109).length; rw [k109, hL 109 (by decide)]; rfl)) (by show (l104).length = (A 104).length; rw [k104, hL 104 (by decide)]; rfl)) (by show (l105).length = (A 105).length; rw [k105, hL 105 (by decide)]; rfl)) (by show (l110).length = (A 110).length; rw [k110, hL 110 (by decide)]; rfl)) (by show (l111).length = (A 111).length; rw [k111, hL 111 (by decide)]; rfl)) (by show (l108).length = (A 108).length; rw [k108, hL 108 (by decide)]; rfl)) (by show (l107).length = (A 107).length; rw [k107, hL 107 (by decide)]; rfl)), hR0.2.1, hR0.2.2.1, hR0.2.2.2.1, hR0.2.2.2.2.1, hR0.2.2.2.2.2.1, hR0.2.2.2.2.2.2.1, hR0.2.2.2.2.2.2.2.1, hR0.2.2.2.2.2.2.2.2.1, (REFU_c hR0.2.2.2.2.2.2.2.2.2)⟩⟩

theorem op_manager_3 {c : Int} {A : Nat → List Int} {F : Nat → Int} (hR : REL c A F) (hc : c < 512) (hd : (3 : Int) < F 0) : R 75 (0, L0 75 [vR 1, vI 3], [], LAY (shA A) (shF F), 0, 0) (fun r G => (∃ x, r = some (vI x)) ∧ (∃ (A1 : Nat → List Int) (F1 : Nat → Int), G = LAY A1 F1 ∧ A1 0 = A 0) ∧ R 149 (0, L0 149 [vR 88, vI 3], [], G, 0, 0) (fun r2 G2 => r2 = r ∧ ∃ (A' : Nat → List Int) (F' : Nat → Int), G2 = LAY (shA A') (shF F') ∧ A' 0 = A 0 ∧ REL (c + 1) A' F')) := by
  have hR0 := hR
  obtain ⟨hL, hPE, hTH, hTP, hDE, hLE, hNO, hAC, hRO, hRE⟩ := hR
  have h87 : (A 87).length = 9 := hL 87 (by decide)
  have h99 : (A 99).length = 6 := hL 99 (by decide)
  have r2 := REFU_at hRE (k := 2) (by decide) (by decide) hc
  have r3 := REFU_at hRE (k := 3) (by decide) (by decide) hc
  have r4 := REFU_at hRE (k := 4) (by decide) (by decide) hc
  have r5 := REFU_at hRE (k := 5) (by decide) (by decide) hc
  have r6 := REFU_at hRE (k := 6) (by decide) (by decide) hc
  have r7 := REFU_at hRE (k := 7) (by decide) (by decide) hc
  have r8 := REFU_at hRE (k := 8) (by decide) (by decide) hc
  obtain ⟨t1, t2, t3, t4, t5, t6⟩ := hTH
  obtain ⟨p1, p2, p3, p4, p5, p6⟩ := hPE
  have hD := D_at3 hR0 hd
  have he1 := hD.1.1
  have he2 := hD.1.2.1
  have hme : rd (A 99) 3 = F 11 := by
    have := hD.2.2.2.2.1
    omega
  obtain ⟨so, te, tp, mg, pm, lo, hS⟩ := SPL_ex A F (N_al A F) (N_Q A 48) (F 11).toNat (N_Y A F 3)
  refine R_s (P := True) (f' := (2, [some (vR 1), some (vI 3), none], [vI 3, vR 1], LAY (shA A) (shF F), 0, 0)) hc75 2 rfl trivial ?_
  refine R_cv hc75 rfl rfl ?_ (fun r G h => h)
  refine R_s (P := True) (f' := (2, [some (vR 1), some (vI 3)], [vI 3, vR 1], LAY (shA A) (shF F), 0, 0)) hc99 2 rfl trivial ?_
  refine R_cv hc99 rfl rfl ?_ (fun r G h => h)
  refine R_s (P := True) (f' := (1, [some (vR 1), some (vI 3)], [vI 3], LAY (shA A) (shF F), 0, 0)) hc98 1 rfl trivial ?_
  refine R_if (t := 16) hc98 rfl rfl (fun (z : 3 < 0) => absurd z (by decide)) (fun (_ : ¬ (3 < 0)) => ?_)
  refine R_s (P := True) (f' := (9, [some (vR 1), some (vI 3)], [vI (F 0), vI 3], LAY (shA A) (shF F), 0, 0)) hc98 3 rfl trivial ?_
  refine R_ic (t := 16) hc98 rfl rfl (fun (z : F 0 ≤ 3) => absurd z (by omega)) (fun (_ : ¬ (F 0 ≤ 3)) => ?_)
  refine R_s (P := True) (f' := (17, [some (vR 1), some (vI 3)], [vI 1], LAY (shA A) (shF F), 0, 0)) hc98 2 rfl trivial ?_
  refine R_retz hc98 rfl rfl (Or.inr rfl) ?_
  refine R_s (f' := (5, [some (vR 1), some (vI 3)], [vI 1], LAY (shA A) (shF F), 0, 0)) hc99 0 rfl trivial ?_
  refine R_if (t := 17) hc99 rfl rfl (fun (z : 1 = 0) => absurd z (by decide)) (fun (_ : ¬ (1 = 0)) => ?_)
  refine R_s (P := (0 ≤ (3 : Int) ∧ (3 : Int) < (([some 20, some 29, some 38, some 47, some 56, some 65] : List (Option Nat)).length : Int)) ∧ True) (f' := (18, [some (vR 1), some (vI 3)], [vR 47], LAY (shA A) (shF F), 0, 0)) hc99 5 rfl ⟨(by decide), trivial⟩ ?_
  refine R_reta hc99 rfl rfl ?_
  refine R_s (f' := (5, [some (vR 1), some (vI 3), none], [vR 47], LAY (shA A) (shF F), 0, 0)) hc75 0 rfl trivial ?_
  refine R_s (P := True) (f' := (20, [some (vR 1), some (vI 3), some (vR 47)], [vI 3, vR 47, vR 1], LAY (shA A) (shF F), 0, 0)) hc75 6 rfl trivial ?_
  refine R_cv hc75 rfl rfl (l_now3 hR0 hd hS) (fun r G9 hp9 => ?_)
  obtain ⟨rfl, l8, l9, l10, l11, l75, l76, l77, l78, rfl, k8, k9, k10, k11, k75, k76, k77, k78, v75, v76, v77⟩ := hp9
  refine R_s (f' := (23, [some (vR 1), some (vI 3), some (vR 47)], [], LAY (u (u (u (u (u (u (u (u (shA A) 8 l8) 9 l9) 10 l10) 11 l11) 75 l75) 76 l76) 77 l77) 78 l78) (u (u (shF F) 14 mg) 15 lo), 0, 0)) hc75 0 rfl trivial ?_
  refine R_s (P := True) (f' := (30, [some (vR 1), some (vI 3), some (vR 47)], [vI mg], LAY (u (u (u (u (u (u (u (u (shA A) 8 l8) 9 l9) 10 l10) 11 l11) 75 l75) 76 l76) 77 l77) 78 l78) (u (u (shF F) 14 mg) 15 lo), 0, 0)) hc75 3 rfl trivial ?_
  refine R_reti hc75 rfl rfl ⟨⟨_, rfl⟩, ⟨_, _, rfl, rfl⟩, ?_⟩
  refine R_s (P := True) (f' := (2, [some (vR 88), some (vI 3)], [vI 3, vR 88], LAY (u (u (u (u (u (u (u (u (shA A) 8 l8) 9 l9) 10 l10) 11 l11) 75 l75) 76 l76) 77 l77) 78 l78) (u (u (shF F) 14 mg) 15 lo), 0, 0)) hc149 2 rfl trivial ?_
  refine R_cv hc149 rfl rfl ?_ (fun r G h => h)
  refine R_s (P := inI ((F 0) - 1) ∧ True) (f' := (8, [some (vR 88), some (vI 3)], [vI ((F 0) - 1), vI 0, vI 3], LAY (u (u (u (u (u (u (u (u (shA A) 8 l8) 9 l9) 10 l10) 11 l11) 75 l75) 76 l76) 77 l77) 78 l78) (u (u (shF F) 14 mg) 15 lo), 0, 0)) hc108 6 rfl ⟨⟨by omega, by omega⟩, trivial⟩ ?_
  refine R_cs hc108 rfl rfl ?_ (fun r G h => h)
  refine R_s (P := True) (f' := (2, [some (vI 3), some (vI 0), some (vI ((F 0) - 1))], [vI 0, vI 3], LAY (u (u (u (u (u (u (u (u (shA A) 8 l8) 9 l9) 10 l10) 11 l11) 75 l75) 76 l76) 77 l77) 78 l78) (u (u (shF F) 14 mg) 15 lo), 0, 0)) hc104 2 rfl trivial ?_
  refine R_ic (t := 14) hc104 rfl rfl (fun (z : 3 < 0) => absurd z (by decide)) (fun (_ : ¬ (3 < 0)) => ?_)
  refine R_s (P := True) (f' := (7, [some (vI 3), some (vI 0), some (vI ((F 0) - 1))], [vI ((F 0) - 1), vI 3], LAY (u (u (u (u (u (u (u (u (shA A) 8 l8) 9 l9) 10 l10) 11 l11) 75 l75) 76 l76) 77 l77) 78 l78) (u (u (shF F) 14 mg) 15 lo), 0, 0)) hc104 2 rfl trivial ?_
  refine R_ic (t := 14) hc104 rfl rfl (fun (z : (F 0) - 1 < 3) => absurd z (by omega)) (fun (_ : ¬ ((F 0) - 1 < 3)) => ?_)
  refine R_s (P := True) (f' := (15, [some (vI 3), some (vI 0), some (vI ((F 0) - 1))], [vI 1], LAY (u (u (u (u (u (u (u (u (shA A) 8 l8) 9 l9) 10 l10) 11 l11) 75 l75) 76 l76) 77 l77) 78 l78) (u (u (shF F) 14 mg) 15 lo), 0, 0)) hc104 2 rfl trivial ?_
  refine R_retz hc104 rfl rfl (Or.inr rfl) ?_
  refine R_s (f' := (11, [some (vR 88), some (vI 3)], [vI 1], LAY (u (u (u (u (u (u (u (u (shA A) 8 l8) 9 l9) 10 l10) 11 l11) 75 l75) 76 l76) 77 l77) 78 l78) (u (u (shF F) 14 mg) 15 lo), 0, 0)) hc108 0 rfl trivial ?_
  refine R_retz hc108 rfl rfl (Or.inr rfl) ?_
  refine R_s (f' := (5, [some (vR 88), some (vI 3)], [vI 1], LAY (u (u (u (u (u (u (u (u (shA A) 8 l8) 9 l9) 10 l10) 11 l11) 75 l75) 76 l76) 77 l77) 78 l78) (u (u (shF F) 14 mg) 15 lo), 0, 0)) hc149 0 rfl trivial ?_
  refine R_if (t := 15) hc149 rfl rfl (fun (_ : ¬ 1 = 0) => ?_) (fun (z : ¬ (¬ 1 = 0)) => absurd (by decide) z)
  refine R_s (P := True) (f' := (17, [some (vR 88), some (vI 3)], [vI 3, vR 88], LAY (u (u (u (u (u (u (u (u (shA A) 8 l8) 9 l9) 10 l10) 11 l11) 75 l75) 76 l76) 77 l77) 78 l78) (u (u (shF F) 14 mg) 15 lo), 0, 0)) hc149 2 rfl trivial ?_
  refine R_cv hc149 rfl rfl (l_worksR hR0 (A1 := (u (u (u (u (u (u (u (u (shA A) 8 l8) 9 l9) 10 l10) 11 l11) 75 l75) 76 l76) 77 l77) 78 l78)) (F1 := (u (u (shF F) 14 mg) 15 lo)) rfl rfl rfl rfl rfl rfl rfl rfl rfl rfl rfl rfl rfl (hL 104 (by decide)) (hL 105 (by decide)) (hL 107 (by decide)) (hL 108 (by decide)) (hL 109 (by decide)) (hL 110 (by decide)) (hL 111 (by decide)) hD.1 hD.2 rfl hS) (fun r G9 hp9 => ?_)
  obtain ⟨rfl, l104, l105, l107, l108, l109, l110, l111, ac, rfl, k104, k105, k107, k108, k109, k110, k111, hac, w107, w108⟩ := hp9
  refine R_s (f' := (20, [some (vR 88), some (vI 3)], [], LAY (u (u (u (u (u (u (u (u (u (u (u (u (u (u (u (shA A) 8 l8) 9 l9) 10 l10) 11 l11) 75 l75) 76 l76) 77 l77) 78 l78) 109 l109) 104 l104) 105 l105) 110 l110) 111 l111) 108 l108) 107 l107) (u (u (u (u (u (u (shF F) 14 mg) 15 lo) 28 (N_Y A F 3)) 29 ac) 30 mg) 31 lo), 0, 0)) hc149 0 rfl trivial ?_
  refine R_s (P := True) (f' := (24, [some (vR 88), some (vI 3)], [vI mg], LAY (u (u (u (u (u (u (u (u (u (u (u (u (u (u (u (shA A) 8 l8) 9 l9) 10 l10) 11 l11) 75 l75) 76 l76) 77 l77) 78 l78) 109 l109) 104 l104) 105 l105) 110 l110) 111 l111) 108 l108) 107 l107) (u (u (u (u (u (u (shF F) 14 mg) 15 lo) 28 (N_Y A F 3)) 29 ac) 30 mg) 31 lo), 0, 0)) hc149 2 rfl trivial ?_
  refine R_reti hc149 rfl rfl ?_
  first
    | (exfalso; omega; done)
    | exact ⟨rfl, (u (u (u (u (u (u (u (u (u (u (u (u (u (u (u A 8 l8) 9 l9) 10 l10) 11 l11) 75 l75) 76 l76) 77 l77) 78 l78) 109 l109) 104 l104) 105 l105) 110 l110) 111 l111) 108 l108) 107 l107), (u (u (u (u (u (u F 14 mg) 15 lo) 28 (N_Y A F 3)) 29 ac) 30 mg) 31 lo), rfl, rfl, ⟨(LENS_u (LENS_u (LENS_u (LENS_u (LENS_u (LENS_u (LENS_u (LENS_u (LENS_u (LENS_u (LENS_u (LENS_u (LENS_u (LENS_u (LENS_u hL (by show (l8).length = (A 8).length; rw [k8, hL 8 (by decide)]; rfl)) (by show (l9).length = (A 9).length; rw [k9, hL 9 (by decide)]; rfl)) (by show (l10).length = (A 10).length; rw [k10, hL 10 (by decide)]; rfl)) (by show (l11).length = (A 11).length; rw [k11, hL 11 (by decide)]; rfl)) (by show (l75).length = (A 75).length; rw [k75, hL 75 (by decide)]; rfl)) (by show (l76).length = (A 76).length; rw [k76, hL 76 (by decide)]; rfl)) (by show (l77).length = (A 77).length; rw [k77, hL 77 (by decide)]; rfl)) (by show (l78).length = (A 78).length; rw [k78, hL 78 (by decide)]; rfl)) (by show (l109).length = (A 109).length; rw [k109, hL 109 (by decide)]; rfl)) (by show (l104).length = (A 104).length; rw [k104, hL 104 (by decide)]; rfl)) (by show (l105).length = (A 105).length; rw [k105, hL 105 (by decide)]; rfl)) (by show (l110).length = (A 110).length; rw [k110, hL 110 (by decide)]; rfl)) (by show (l111).length = (A 111).length; rw [k111, hL 111 (by decide)]; rfl)) (by show (l108).length = (A 108).length; rw [k108, hL 108 (by decide)]; rfl)) (by show (l107).length = (A 107).length; rw [k107, hL 107 (by decide)]; rfl)), hR0.2.1, hR0.2.2.1, hR0.2.2.2.1, hR0.2.2.2.2.1, hR0.2.2.2.2.2.1, hR0.2.2.2.2.2.2.1, hR0.2.2.2.2.2.2.2.1, hR0.2.2.2.2.2.2.2.2.1, (REFU_c hR0.2.2.2.2.2.2.2.2.2)⟩⟩

theorem op_manager_4 {c : Int} {A : Nat → List Int} {F : Nat → Int} (hR : REL c A F) (hc : c < 512) (hd : (4 : Int) < F 0) : R 75 (0, L0 75 [vR 1, vI 4], [], LAY (shA A) (shF F), 0, 0) (fun r G => (∃ x, r = some (vI x)) ∧ (∃ (A1 : Nat → List Int) (F1 : Nat → Int), G = LAY A1 F1 ∧ A1 0 = A 0) ∧ R 149 (0, L0 149 [vR 88, vI 4], [], G, 0, 0) (fun r2 G2 => r2 = r ∧ ∃ (A' : Nat → List Int) (F' : Nat → Int), G2 = LAY (shA A') (shF F') ∧ A' 0 = A 0 ∧ REL (c + 1) A' F')) := by
  have hR0 := hR
  obtain ⟨hL, hPE, hTH, hTP, hDE, hLE, hNO, hAC, hRO, hRE⟩ := hR
  have h87 : (A 87).length = 9 := hL 87 (by decide)
  have h99 : (A 99).length = 6 := hL 99 (by decide)
  have r2 := REFU_at hRE (k := 2) (by decide) (by decide) hc
  have r3 := REFU_at hRE (k := 3) (by decide) (by decide) hc
  have r4 := REFU_at hRE (k := 4) (by decide) (by decide) hc
  have r5 := REFU_at hRE (k := 5) (by decide) (by decide) hc
  have r6 := REFU_at hRE (k := 6) (by decide) (by decide) hc
  have r7 := REFU_at hRE (k := 7) (by decide) (by decide) hc
  have r8 := REFU_at hRE (k := 8) (by decide) (by decide) hc
  obtain ⟨t1, t2, t3, t4, t5, t6⟩ := hTH
  obtain ⟨p1, p2, p3, p4, p5, p6⟩ := hPE
  have hD := D_at4 hR0 hd
  have he1 := hD.1.1
  have he2 := hD.1.2.1
  have hme : rd (A 99) 4 = F 12 := by
    have := hD.2.2.2.2.1
    omega
  obtain ⟨so, te, tp, mg, pm, lo, hS⟩ := SPL_ex A F (N_al A F) (N_Q A 57) (F 12).toNat (N_Y A F 4)
  refine R_s (P := True) (f' := (2, [some (vR 1), some (vI 4), none], [vI 4, vR 1], LAY (shA A) (shF F), 0, 0)) hc75 2 rfl trivial ?_
  refine R_cv hc75 rfl rfl ?_ (fun r G h => h)
  refine R_s (P := True) (f' := (2, [some (vR 1), some (vI 4)], [vI 4, vR 1], LAY (shA A) (shF F), 0, 0)) hc99 2 rfl trivial ?_
  refine R_cv hc99 rfl rfl ?_ (fun r G h => h)
  refine R_s (P := True) (f' := (1, [some (vR 1), some (vI 4)], [vI 4], LAY (shA A) (shF F), 0, 0)) hc98 1 rfl trivial ?_
  refine R_if (t := 16) hc98 rfl rfl (fun (z : 4 < 0) => absurd z (by decide)) (fun (_ : ¬ (4 < 0)) => ?_)
  refine R_s (P := True) (f' := (9, [some (vR 1), some (vI 4)], [vI (F 0), vI 4], LAY (shA A) (shF F), 0, 0)) hc98 3 rfl trivial ?_
  refine R_ic (t := 16) hc98 rfl rfl (fun (z : F 0 ≤ 4) => absurd z (by omega)) (fun (_ : ¬ (F 0 ≤ 4)) => ?_)
  refine R_s (P := True) (f' := (17, [some (vR 1), some (vI 4)], [vI 1], LAY (shA A) (shF F), 0, 0)) hc98 2 rfl trivial ?_
  refine R_retz hc98 rfl rfl (Or.inr rfl) ?_
  refine R_s (f' := (5, [some (vR 1), some (vI 4)], [vI 1], LAY (shA A) (shF F), 0, 0)) hc99 0 rfl trivial ?_
  refine R_if (t := 17) hc99 rfl rfl (fun (z : 1 = 0) => absurd z (by decide)) (fun (_ : ¬ (1 = 0)) => ?_)
  refine R_s (P := (0 ≤ (4 : Int) ∧ (4 : Int) < (([some 20, some 29, some 38, some 47, some 56, some 65] : List (Option Nat)).length : Int)) ∧ True) (f' := (18, [some (vR 1), some (vI 4)], [vR 56], LAY (shA A) (shF F), 0, 0)) hc99 5 rfl ⟨(by decide), trivial⟩ ?_
  refine R_reta hc99 rfl rfl ?_
  refine R_s (f' := (5, [some (vR 1), some (vI 4), none], [vR 56], LAY (shA A) (shF F), 0, 0)) hc75 0 rfl trivial ?_
  refine R_s (P := True) (f' := (20, [some (vR 1), some (vI 4), some (vR 56)], [vI 4, vR 56, vR 1], LAY (shA A) (shF F), 0, 0)) hc75 6 rfl trivial ?_
  refine R_cv hc75 rfl rfl (l_now4 hR0 hd hS) (fun r G9 hp9 => ?_)
  obtain ⟨rfl, l8, l9, l10, l11, l75, l76, l77, l78, rfl, k8, k9, k10, k11, k75, k76, k77, k78, v75, v76, v77⟩ := hp9
  refine R_s (f' := (23, [some (vR 1), some (vI 4), some (vR 56)], [], LAY (u (u (u (u (u (u (u (u (shA A) 8 l8) 9 l9) 10 l10) 11 l11) 75 l75) 76 l76) 77 l77) 78 l78) (u (u (shF F) 14 mg) 15 lo), 0, 0)) hc75 0 rfl trivial ?_
  refine R_s (P := True) (f' := (30, [some (vR 1), some (vI 4), some (vR 56)], [vI mg], LAY (u (u (u (u (u (u (u (u (shA A) 8 l8) 9 l9) 10 l10) 11 l11) 75 l75) 76 l76) 77 l77) 78 l78) (u (u (shF F) 14 mg) 15 lo), 0, 0)) hc75 3 rfl trivial ?_
  refine R_reti hc75 rfl rfl ⟨⟨_, rfl⟩, ⟨_, _, rfl, rfl⟩, ?_⟩
  refine R_s (P := True) (f' := (2, [some (vR 88), some (vI 4)], [vI 4, vR 88], LAY (u (u (u (u (u (u (u (u (shA A) 8 l8) 9 l9) 10 l10) 11 l11) 75 l75) 76 l76) 77 l77) 78 l78) (u (u (shF F) 14 mg) 15 lo), 0, 0)) hc149 2 rfl trivial ?_
  refine R_cv hc149 rfl rfl ?_ (fun r G h => h)
  refine R_s (P := inI ((F 0) - 1) ∧ True) (f' := (8, [some (vR 88), some (vI 4)], [vI ((F 0) - 1), vI 0, vI 4], LAY (u (u (u (u (u (u (u (u (shA A) 8 l8) 9 l9) 10 l10) 11 l11) 75 l75) 76 l76) 77 l77) 78 l78) (u (u (shF F) 14 mg) 15 lo), 0, 0)) hc108 6 rfl ⟨⟨by omega, by omega⟩, trivial⟩ ?_
  refine R_cs hc108 rfl rfl ?_ (fun r G h => h)
  refine R_s (P := True) (f' := (2, [some (vI 4), some (vI 0), some (vI ((F 0) - 1))], [vI 0, vI 4], LAY (u (u (u (u (u (u (u (u (shA A) 8 l8) 9 l9) 10 l10) 11 l11) 75 l75) 76 l76) 77 l77) 78 l78) (u (u (shF F) 14 mg) 15 lo), 0, 0)) hc104 2 rfl trivial ?_
  refine R_ic (t := 14) hc104 rfl rfl (fun (z : 4 < 0) => absurd z (by decide)) (fun (_ : ¬ (4 < 0)) => ?_)
  refine R_s (P := True) (f' := (7, [some (vI 4), some (vI 0), some (vI ((F 0) - 1))], [vI ((F 0) - 1), vI 4], LAY (u (u (u (u (u (u (u (u (shA A) 8 l8) 9 l9) 10 l10) 11 l11) 75 l75) 76 l76) 77 l77) 78 l78) (u (u (shF F) 14 mg) 15 lo), 0, 0)) hc104 2 rfl trivial ?_
  refine R_ic (t := 14) hc104 rfl rfl (fun (z : (F 0) - 1 < 4) => absurd z (by omega)) (fun (_ : ¬ ((F 0) - 1 < 4)) => ?_)
  refine R_s (P := True) (f' := (15, [some (vI 4), some (vI 0), some (vI ((F 0) - 1))], [vI 1], LAY (u (u (u (u (u (u (u (u (shA A) 8 l8) 9 l9) 10 l10) 11 l11) 75 l75) 76 l76) 77 l77) 78 l78) (u (u (shF F) 14 mg) 15 lo), 0, 0)) hc104 2 rfl trivial ?_
  refine R_retz hc104 rfl rfl (Or.inr rfl) ?_
  refine R_s (f' := (11, [some (vR 88), some (vI 4)], [vI 1], LAY (u (u (u (u (u (u (u (u (shA A) 8 l8) 9 l9) 10 l10) 11 l11) 75 l75) 76 l76) 77 l77) 78 l78) (u (u (shF F) 14 mg) 15 lo), 0, 0)) hc108 0 rfl trivial ?_
  refine R_retz hc108 rfl rfl (Or.inr rfl) ?_
  refine R_s (f' := (5, [some (vR 88), some (vI 4)], [vI 1], LAY (u (u (u (u (u (u (u (u (shA A) 8 l8) 9 l9) 10 l10) 11 l11) 75 l75) 76 l76) 77 l77) 78 l78) (u (u (shF F) 14 mg) 15 lo), 0, 0)) hc149 0 rfl trivial ?_
  refine R_if (t := 15) hc149 rfl rfl (fun (_ : ¬ 1 = 0) => ?_) (fun (z : ¬ (¬ 1 = 0)) => absurd (by decide) z)
  refine R_s (P := True) (f' := (17, [some (vR 88), some (vI 4)], [vI 4, vR 88], LAY (u (u (u (u (u (u (u (u (shA A) 8 l8) 9 l9) 10 l10) 11 l11) 75 l75) 76 l76) 77 l77) 78 l78) (u (u (shF F) 14 mg) 15 lo), 0, 0)) hc149 2 rfl trivial ?_
  refine R_cv hc149 rfl rfl (l_worksR hR0 (A1 := (u (u (u (u (u (u (u (u (shA A) 8 l8) 9 l9) 10 l10) 11 l11) 75 l75) 76 l76) 77 l77) 78 l78)) (F1 := (u (u (shF F) 14 mg) 15 lo)) rfl rfl rfl rfl rfl rfl rfl rfl rfl rfl rfl rfl rfl (hL 104 (by decide)) (hL 105 (by decide)) (hL 107 (by decide)) (hL 108 (by decide)) (hL 109 (by decide)) (hL 110 (by decide)) (hL 111 (by decide)) hD.1 hD.2 rfl hS) (fun r G9 hp9 => ?_)
  obtain ⟨rfl, l104, l105, l107, l108, l109, l110, l111, ac, rfl, k104, k105, k107, k108, k109, k110, k111, hac, w107, w108⟩ := hp9
  refine R_s (f' := (20, [some (vR 88), some (vI 4)], [], LAY (u (u (u (u (u (u (u (u (u (u (u (u (u (u (u (shA A) 8 l8) 9 l9) 10 l10) 11 l11) 75 l75) 76 l76) 77 l77) 78 l78) 109 l109) 104 l104) 105 l105) 110 l110) 111 l111) 108 l108) 107 l107) (u (u (u (u (u (u (shF F) 14 mg) 15 lo) 28 (N_Y A F 4)) 29 ac) 30 mg) 31 lo), 0, 0)) hc149 0 rfl trivial ?_
  refine R_s (P := True) (f' := (24, [some (vR 88), some (vI 4)], [vI mg], LAY (u (u (u (u (u (u (u (u (u (u (u (u (u (u (u (shA A) 8 l8) 9 l9) 10 l10) 11 l11) 75 l75) 76 l76) 77 l77) 78 l78) 109 l109) 104 l104) 105 l105) 110 l110) 111 l111) 108 l108) 107 l107) (u (u (u (u (u (u (shF F) 14 mg) 15 lo) 28 (N_Y A F 4)) 29 ac) 30 mg) 31 lo), 0, 0)) hc149 2 rfl trivial ?_
  refine R_reti hc149 rfl rfl ?_
  first
    | (exfalso; omega; done)
    | exact ⟨rfl, (u (u (u (u (u (u (u (u (u (u (u (u (u (u (u A 8 l8) 9 l9) 10 l10) 11 l11) 75 l75) 76 l76) 77 l77) 78 l78) 109 l109) 104 l104) 105 l105) 110 l110) 111 l111) 108 l108) 107 l107), (u (u (u (u (u (u F 14 mg) 15 lo) 28 (N_Y A F 4)) 29 ac) 30 mg) 31 lo), rfl, rfl, ⟨(LENS_u (LENS_u (LENS_u (LENS_u (LENS_u (LENS_u (LENS_u (LENS_u (LENS_u (LENS_u (LENS_u (LENS_u (LENS_u (LENS_u (LENS_u hL (by show (l8).length = (A 8).length; rw [k8, hL 8 (by decide)]; rfl)) (by show (l9).length = (A 9).length; rw [k9, hL 9 (by decide)]; rfl)) (by show (l10).length = (A 10).length; rw [k10, hL 10 (by decide)]; rfl)) (by show (l11).length = (A 11).length; rw [k11, hL 11 (by decide)]; rfl)) (by show (l75).length = (A 75).length; rw [k75, hL 75 (by decide)]; rfl)) (by show (l76).length = (A 76).length; rw [k76, hL 76 (by decide)]; rfl)) (by show (l77).length = (A 77).length; rw [k77, hL 77 (by decide)]; rfl)) (by show (l78).length = (A 78).length; rw [k78, hL 78 (by decide)]; rfl)) (by show (l109).length = (A 109).length; rw [k109, hL 109 (by decide)]; rfl)) (by show (l104).length = (A 104).length; rw [k104, hL 104 (by decide)]; rfl)) (by show (l105).length = (A 105).length; rw [k105, hL 105 (by decide)]; rfl)) (by show (l110).length = (A 110).length; rw [k110, hL 110 (by decide)]; rfl)) (by show (l111).length = (A 111).length; rw [k111, hL 111 (by decide)]; rfl)) (by show (l108).length = (A 108).length; rw [k108, hL 108 (by decide)]; rfl)) (by show (l107).length = (A 107).length; rw [k107, hL 107 (by decide)]; rfl)), hR0.2.1, hR0.2.2.1, hR0.2.2.2.1, hR0.2.2.2.2.1, hR0.2.2.2.2.2.1, hR0.2.2.2.2.2.2.1, hR0.2.2.2.2.2.2.2.1, hR0.2.2.2.2.2.2.2.2.1, (REFU_c hR0.2.2.2.2.2.2.2.2.2)⟩⟩

theorem op_manager_5 {c : Int} {A : Nat → List Int} {F : Nat → Int} (hR : REL c A F) (hc : c < 512) (hd : (5 : Int) < F 0) : R 75 (0, L0 75 [vR 1, vI 5], [], LAY (shA A) (shF F), 0, 0) (fun r G => (∃ x, r = some (vI x)) ∧ (∃ (A1 : Nat → List Int) (F1 : Nat → Int), G = LAY A1 F1 ∧ A1 0 = A 0) ∧ R 149 (0, L0 149 [vR 88, vI 5], [], G, 0, 0) (fun r2 G2 => r2 = r ∧ ∃ (A' : Nat → List Int) (F' : Nat → Int), G2 = LAY (shA A') (shF F') ∧ A' 0 = A 0 ∧ REL (c + 1) A' F')) := by
  have hR0 := hR
  obtain ⟨hL, hPE, hTH, hTP, hDE, hLE, hNO, hAC, hRO, hRE⟩ := hR
  have h87 : (A 87).length = 9 := hL 87 (by decide)
  have h99 : (A 99).length = 6 := hL 99 (by decide)
  have r2 := REFU_at hRE (k := 2) (by decide) (by decide) hc
  have r3 := REFU_at hRE (k := 3) (by decide) (by decide) hc
  have r4 := REFU_at hRE (k := 4) (by decide) (by decide) hc
  have r5 := REFU_at hRE (k := 5) (by decide) (by decide) hc
  have r6 := REFU_at hRE (k := 6) (by decide) (by decide) hc
  have r7 := REFU_at hRE (k := 7) (by decide) (by decide) hc
  have r8 := REFU_at hRE (k := 8) (by decide) (by decide) hc
  obtain ⟨t1, t2, t3, t4, t5, t6⟩ := hTH
  obtain ⟨p1, p2, p3, p4, p5, p6⟩ := hPE
  have hD := D_at5 hR0 hd
  have he1 := hD.1.1
  have he2 := hD.1.2.1
  have hme : rd (A 99) 5 = F 13 := by
    have := hD.2.2.2.2.1
    omega
  obtain ⟨so, te, tp, mg, pm, lo, hS⟩ := SPL_ex A F (N_al A F) (N_Q A 66) (F 13).toNat (N_Y A F 5)
  refine R_s (P := True) (f' := (2, [some (vR 1), some (vI 5), none], [vI 5, vR 1], LAY (shA A) (shF F), 0, 0)) hc75 2 rfl trivial ?_
  refine R_cv hc75 rfl rfl ?_ (fun r G h => h)
  refine R_s (P := True) (f' := (2, [some (vR 1), some (vI 5)], [vI 5, vR 1], LAY (shA A) (shF F), 0, 0)) hc99 2 rfl trivial ?_
  refine R_cv hc99 rfl rfl ?_ (fun r G h => h)
  refine R_s (P := True) (f' := (1, [some (vR 1), some (vI 5)], [vI 5], LAY (shA A) (shF F), 0, 0)) hc98 1 rfl trivial ?_
  refine R_if (t := 16) hc98 rfl rfl (fun (z : 5 < 0) => absurd z (by decide)) (fun (_ : ¬ (5 < 0)) => ?_)
  refine R_s (P := True) (f' := (9, [some (vR 1), some (vI 5)], [vI (F 0), vI 5], LAY (shA A) (shF F), 0, 0)) hc98 3 rfl trivial ?_
  refine R_ic (t := 16) hc98 rfl rfl (fun (z : F 0 ≤ 5) => absurd z (by omega)) (fun (_ : ¬ (F 0 ≤ 5)) => ?_)
  refine R_s (P := True) (f' := (17, [some (vR 1), some (vI 5)], [vI 1], LAY (shA A) (shF F), 0, 0)) hc98 2 rfl trivial ?_
  refine R_retz hc98 rfl rfl (Or.inr rfl) ?_
  refine R_s (f' := (5, [some (vR 1), some (vI 5)], [vI 1], LAY (shA A) (shF F), 0, 0)) hc99 0 rfl trivial ?_
  refine R_if (t := 17) hc99 rfl rfl (fun (z : 1 = 0) => absurd z (by decide)) (fun (_ : ¬ (1 = 0)) => ?_)
  refine R_s (P := (0 ≤ (5 : Int) ∧ (5 : Int) < (([some 20, some 29, some 38, some 47, some 56, some 65] : List (Option Nat)).length : Int)) ∧ True) (f' := (18, [some (vR 1), some (vI 5)], [vR 65], LAY (shA A) (shF F), 0, 0)) hc99 5 rfl ⟨(by decide), trivial⟩ ?_
  refine R_reta hc99 rfl rfl ?_
  refine R_s (f' := (5, [some (vR 1), some (vI 5), none], [vR 65], LAY (shA A) (shF F), 0, 0)) hc75 0 rfl trivial ?_
  refine R_s (P := True) (f' := (20, [some (vR 1), some (vI 5), some (vR 65)], [vI 5, vR 65, vR 1], LAY (shA A) (shF F), 0, 0)) hc75 6 rfl trivial ?_
  refine R_cv hc75 rfl rfl (l_now5 hR0 hd hS) (fun r G9 hp9 => ?_)
  obtain ⟨rfl, l8, l9, l10, l11, l75, l76, l77, l78, rfl, k8, k9, k10, k11, k75, k76, k77, k78, v75, v76, v77⟩ := hp9
  refine R_s (f' := (23, [some (vR 1), some (vI 5), some (vR 65)], [], LAY (u (u (u (u (u (u (u (u (shA A) 8 l8) 9 l9) 10 l10) 11 l11) 75 l75) 76 l76) 77 l77) 78 l78) (u (u (shF F) 14 mg) 15 lo), 0, 0)) hc75 0 rfl trivial ?_
  refine R_s (P := True) (f' := (30, [some (vR 1), some (vI 5), some (vR 65)], [vI mg], LAY (u (u (u (u (u (u (u (u (shA A) 8 l8) 9 l9) 10 l10) 11 l11) 75 l75) 76 l76) 77 l77) 78 l78) (u (u (shF F) 14 mg) 15 lo), 0, 0)) hc75 3 rfl trivial ?_
  refine R_reti hc75 rfl rfl ⟨⟨_, rfl⟩, ⟨_, _, rfl, rfl⟩, ?_⟩
  refine R_s (P := True) (f' := (2, [some (vR 88), some (vI 5)], [vI 5, vR 88], LAY (u (u (u (u (u (u (u (u (shA A) 8 l8) 9 l9) 10 l10) 11 l11) 75 l75) 76 l76) 77 l77) 78 l78) (u (u (shF F) 14 mg) 15 lo), 0, 0)) hc149 2 rfl trivial ?_
  refine R_cv hc149 rfl rfl ?_ (fun r G h => h)
  refine R_s (P := inI ((F 0) - 1) ∧ True) (f' := (8, [some (vR 88), some (vI 5)], [vI ((F 0) - 1), vI 0, vI 5], LAY (u (u (u (u (u (u (u (u (shA A) 8 l8) 9 l9) 10 l10) 11 l11) 75 l75) 76 l76) 77 l77) 78 l78) (u (u (shF F) 14 mg) 15 lo), 0, 0)) hc108 6 rfl ⟨⟨by omega, by omega⟩, trivial⟩ ?_
  refine R_cs hc108 rfl rfl ?_ (fun r G h => h)
  refine R_s (P := True) (f' := (2, [some (vI 5), some (vI 0), some (vI ((F 0) - 1))], [vI 0, vI 5], LAY (u (u (u (u (u (u (u (u (shA A) 8 l8) 9 l9) 10 l10) 11 l11) 75 l75) 76 l76) 77 l77) 78 l78) (u (u (shF F) 14 mg) 15 lo), 0, 0)) hc104 2 rfl trivial ?_
  refine R_ic (t := 14) hc104 rfl rfl (fun (z : 5 < 0) => absurd z (by decide)) (fun (_ : ¬ (5 < 0)) => ?_)
  refine R_s (P := True) (f' := (7, [some (vI 5), some (vI 0), some (vI ((F 0) - 1))], [vI ((F 0) - 1), vI 5], LAY (u (u (u (u (u (u (u (u (shA A) 8 l8) 9 l9) 10 l10) 11 l11) 75 l75) 76 l76) 77 l77) 78 l78) (u (u (shF F) 14 mg) 15 lo), 0, 0)) hc104 2 rfl trivial ?_
  refine R_ic (t := 14) hc104 rfl rfl (fun (z : (F 0) - 1 < 5) => absurd z (by omega)) (fun (_ : ¬ ((F 0) - 1 < 5)) => ?_)
  refine R_s (P := True) (f' := (15, [some (vI 5), some (vI 0), some (vI ((F 0) - 1))], [vI 1], LAY (u (u (u (u (u (u (u (u (shA A) 8 l8) 9 l9) 10 l10) 11 l11) 75 l75) 76 l76) 77 l77) 78 l78) (u (u (shF F) 14 mg) 15 lo), 0, 0)) hc104 2 rfl trivial ?_
  refine R_retz hc104 rfl rfl (Or.inr rfl) ?_
  refine R_s (f' := (11, [some (vR 88), some (vI 5)], [vI 1], LAY (u (u (u (u (u (u (u (u (shA A) 8 l8) 9 l9) 10 l10) 11 l11) 75 l75) 76 l76) 77 l77) 78 l78) (u (u (shF F) 14 mg) 15 lo), 0, 0)) hc108 0 rfl trivial ?_
  refine R_retz hc108 rfl rfl (Or.inr rfl) ?_
  refine R_s (f' := (5, [some (vR 88), some (vI 5)], [vI 1], LAY (u (u (u (u (u (u (u (u (shA A) 8 l8) 9 l9) 10 l10) 11 l11) 75 l75) 76 l76) 77 l77) 78 l78) (u (u (shF F) 14 mg) 15 lo), 0, 0)) hc149 0 rfl trivial ?_
  refine R_if (t := 15) hc149 rfl rfl (fun (_ : ¬ 1 = 0) => ?_) (fun (z : ¬ (¬ 1 = 0)) => absurd (by decide) z)
  refine R_s (P := True) (f' := (17, [some (vR 88), some (vI 5)], [vI 5, vR 88], LAY (u (u (u (u (u (u (u (u (shA A) 8 l8) 9 l9) 10 l10) 11 l11) 75 l75) 76 l76) 77 l77) 78 l78) (u (u (shF F) 14 mg) 15 lo), 0, 0)) hc149 2 rfl trivial ?_
  refine R_cv hc149 rfl rfl (l_worksR hR0 (A1 := (u (u (u (u (u (u (u (u (shA A) 8 l8) 9 l9) 10 l10) 11 l11) 75 l75) 76 l76) 77 l77) 78 l78)) (F1 := (u (u (shF F) 14 mg) 15 lo)) rfl rfl rfl rfl rfl rfl rfl rfl rfl rfl rfl rfl rfl (hL 104 (by decide)) (hL 105 (by decide)) (hL 107 (by decide)) (hL 108 (by decide)) (hL 109 (by decide)) (hL 110 (by decide)) (hL 111 (by decide)) hD.1 hD.2 rfl hS) (fun r G9 hp9 => ?_)
  obtain ⟨rfl, l104, l105, l107, l108, l109, l110, l111, ac, rfl, k104, k105, k107, k108, k109, k110, k111, hac, w107, w108⟩ := hp9
  refine R_s (f' := (20, [some (vR 88), some (vI 5)], [], LAY (u (u (u (u (u (u (u (u (u (u (u (u (u (u (u (shA A) 8 l8) 9 l9) 10 l10) 11 l11) 75 l75) 76 l76) 77 l77) 78 l78) 109 l109) 104 l104) 105 l105) 110 l110) 111 l111) 108 l108) 107 l107) (u (u (u (u (u (u (shF F) 14 mg) 15 lo) 28 (N_Y A F 5)) 29 ac) 30 mg) 31 lo), 0, 0)) hc149 0 rfl trivial ?_
  refine R_s (P := True) (f' := (24, [some (vR 88), some (vI 5)], [vI mg], LAY (u (u (u (u (u (u (u (u (u (u (u (u (u (u (u (shA A) 8 l8) 9 l9) 10 l10) 11 l11) 75 l75) 76 l76) 77 l77) 78 l78) 109 l109) 104 l104) 105 l105) 110 l110) 111 l111) 108 l108) 107 l107) (u (u (u (u (u (u (shF F) 14 mg) 15 lo) 28 (N_Y A F 5)) 29 ac) 30 mg) 31 lo), 0, 0)) hc149 2 rfl trivial ?_
  refine R_reti hc149 rfl rfl ?_
  first
    | (exfalso; omega; done)
    | exact ⟨rfl, (u (u (u (u (u (u (u (u (u (u (u (u (u (u (u A 8 l8) 9 l9) 10 l10) 11 l11) 75 l75) 76 l76) 77 l77) 78 l78) 109 l109) 104 l104) 105 l105) 110 l110) 111 l111) 108 l108) 107 l107), (u (u (u (u (u (u F 14 mg) 15 lo) 28 (N_Y A F 5)) 29 ac) 30 mg) 31 lo), rfl, rfl, ⟨(LENS_u (LENS_u (LENS_u (LENS_u (LENS_u (LENS_u (LENS_u (LENS_u (LENS_u (LENS_u (LENS_u (LENS_u (LENS_u (LENS_u (LENS_u hL (by show (l8).length = (A 8).length; rw [k8, hL 8 (by decide)]; rfl)) (by show (l9).length = (A 9).length; rw [k9, hL 9 (by decide)]; rfl)) (by show (l10).length = (A 10).length; rw [k10, hL 10 (by decide)]; rfl)) (by show (l11).length = (A 11).length; rw [k11, hL 11 (by decide)]; rfl)) (by show (l75).length = (A 75).length; rw [k75, hL 75 (by decide)]; rfl)) (by show (l76).length = (A 76).length; rw [k76, hL 76 (by decide)]; rfl)) (by show (l77).length = (A 77).length; rw [k77, hL 77 (by decide)]; rfl)) (by show (l78).length = (A 78).length; rw [k78, hL 78 (by decide)]; rfl)) (by show (l109).length = (A 109).length; rw [k109, hL 109 (by decide)]; rfl)) (by show (l104).length = (A 104).length; rw [k104, hL 104 (by decide)]; rfl)) (by show (l105).length = (A 105).length; rw [k105, hL 105 (by decide)]; rfl)) (by show (l110).length = (A 110).length; rw [k110, hL 110 (by decide)]; rfl)) (by show (l111).length = (A 111).length; rw [k111, hL 111 (by decide)]; rfl)) (by show (l108).length = (A 108).length; rw [k108, hL 108 (by decide)]; rfl)) (by show (l107).length = (A 107).length; rw [k107, hL 107 (by decide)]; rfl)), hR0.2.1, hR0.2.2.1, hR0.2.2.2.1, hR0.2.2.2.2.1, hR0.2.2.2.2.2.1, hR0.2.2.2.2.2.2.1, hR0.2.2.2.2.2.2.2.1, hR0.2.2.2.2.2.2.2.2.1, (REFU_c hR0.2.2.2.2.2.2.2.2.2)⟩⟩

theorem op_manager {c : Int} {A : Nat → List Int} {F : Nat → Int} (hR : REL c A F) (hc : c < 512) (d : Int) (i_d : inI d) : R 75 (0, L0 75 [vR 1, vI d], [], LAY (shA A) (shF F), 0, 0) (fun r G => (∃ x, r = some (vI x)) ∧ (∃ (A1 : Nat → List Int) (F1 : Nat → Int), G = LAY A1 F1 ∧ A1 0 = A 0) ∧ R 149 (0, L0 149 [vR 88, vI d], [], G, 0, 0) (fun r2 G2 => r2 = r ∧ ∃ (A' : Nat → List Int) (F' : Nat → Int), G2 = LAY (shA A') (shF F') ∧ A' 0 = A 0 ∧ REL (c + 1) A' F')) := by
  by_cases h0 : d < 0
  · exact op_manager_n hR hc d i_d h0
  by_cases h1 : F 0 ≤ d
  · exact op_manager_b hR hc d i_d ⟨by omega, h1⟩
  have h6 := hR.2.2.2.2.1.1.2
  obtain e | e | e | e | e | e : d = 0 ∨ d = 1 ∨ d = 2 ∨ d = 3 ∨ d = 4 ∨ d = 5 := by omega
  all_goals subst e
  · exact op_manager_0 hR hc   (by omega)
  · exact op_manager_1 hR hc   (by omega)
  · exact op_manager_2 hR hc   (by omega)
  · exact op_manager_3 hR hc   (by omega)
  · exact op_manager_4 hR hc   (by omega)
  · exact op_manager_5 hR hc   (by omega)

theorem op_left_n {c : Int} {A : Nat → List Int} {F : Nat → Int} (hR : REL c A F) (hc : c < 512) (d : Int) (i_d : inI d) (hd : d < 0) : R 76 (0, L0 76 [vR 1, vI d], [], LAY (shA A) (shF F), 0, 0) (fun r G => (∃ x, r = some (vI x)) ∧ (∃ (A1 : Nat → List Int) (F1 : Nat → Int), G = LAY A1 F1 ∧ A1 0 = A 0) ∧ R 150 (0, L0 150 [vR 88, vI d], [], G, 0, 0) (fun r2 G2 => r2 = r ∧ ∃ (A' : Nat → List Int) (F' : Nat → Int), G2 = LAY (shA A') (shF F') ∧ A' 0 = A 0 ∧ REL (c + 1) A' F')) := by
  have hR0 := hR
  obtain ⟨hL, hPE, hTH, hTP, hDE, hLE, hNO, hAC, hRO, hRE⟩ := hR
  have j_d := i_d
  unfold inI at j_d
  have h87 : (A 87).length = 9 := hL 87 (by decide)
  have r2 := REFU_at hRE (k := 2) (by decide) (by decide) hc
  have r3 := REFU_at hRE (k := 3) (by decide) (by decide) hc
  have r4 := REFU_at hRE (k := 4) (by decide) (by decide) hc
  have r5 := REFU_at hRE (k := 5) (by decide) (by decide) hc
  have r6 := REFU_at hRE (k := 6) (by decide) (by decide) hc
  have r7 := REFU_at hRE (k := 7) (by decide) (by decide) hc
  have r8 := REFU_at hRE (k := 8) (by decide) (by decide) hc
  obtain ⟨t1, t2, t3, t4, t5, t6⟩ := hTH
  obtain ⟨p1, p2, p3, p4, p5, p6⟩ := hPE
  refine R_s (P := True) (f' := (2, [some (vR 1), some (vI d), none], [vI d, vR 1], LAY (shA A) (shF F), 0, 0)) hc76 2 rfl trivial ?_
  refine R_cv hc76 rfl rfl ?_ (fun r G h => h)
  refine R_s (P := True) (f' := (2, [some (vR 1), some (vI d)], [vI d, vR 1], LAY (shA A) (shF F), 0, 0)) hc99 2 rfl trivial ?_
  refine R_cv hc99 rfl rfl ?_ (fun r G h => h)
  refine R_s (P := True) (f' := (1, [some (vR 1), some (vI d)], [vI d], LAY (shA A) (shF F), 0, 0)) hc98 1 rfl trivial ?_
  refine R_if (t := 16) hc98 rfl rfl (fun (_ : d < 0) => ?_) (fun (z : ¬ (d < 0)) => absurd (show d < 0 by omega) z)
  refine R_s (P := True) (f' := (17, [some (vR 1), some (vI d)], [vI 0], LAY (shA A) (shF F), 0, 0)) hc98 1 rfl trivial ?_
  refine R_retz hc98 rfl rfl (Or.inl rfl) ?_
  refine R_s (f' := (5, [some (vR 1), some (vI d)], [vI 0], LAY (shA A) (shF F), 0, 0)) hc99 0 rfl trivial ?_
  refine R_if (t := 17) hc99 rfl rfl (fun (_ : 0 = 0) => ?_) (fun (z : ¬ (0 = 0)) => absurd (by decide) z)
  refine R_s (P := True) (f' := (18, [some (vR 1), some (vI d)], [vN], LAY (shA A) (shF F), 0, 0)) hc99 1 rfl trivial ?_
  refine R_reta hc99 rfl rfl ?_
  refine R_s (f' := (5, [some (vR 1), some (vI d), none], [vN], LAY (shA A) (shF F), 0, 0)) hc76 0 rfl trivial ?_
  refine R_s (P := True) (f' := (13, [some (vR 1), some (vI d), some (vN)], [vI (-3), vR 1], LAY (shA A) (shF F), 0, 0)) hc76 5 rfl trivial ?_
  refine R_cv hc76 rfl rfl ?_ (fun r G h => h)
  refine R_s (P := True) (f' := (3, [some (vR 1), some (vI (-3))], [vI (-2), vI (-3)], LAY (shA A) (shF F), 0, 0)) hc93 2 rfl trivial ?_
  refine R_ic (t := 23) hc93 rfl rfl (fun (z : (-2) < (-3)) => absurd z (by decide)) (fun (_ : ¬ ((-2) < (-3))) => ?_)
  refine R_s (P := True) (f' := (9, [some (vR 1), some (vI (-3))], [vI (-8), vI (-3)], LAY (shA A) (shF F), 0, 0)) hc93 2 rfl trivial ?_
  refine R_ic (t := 23) hc93 rfl rfl (fun (z : (-3) < (-8)) => absurd z (by decide)) (fun (_ : ¬ ((-3) < (-8))) => ?_)
  refine R_s (P := inI 3 ∧ (0 ≤ 3 ∧ 3 < ((A 87).length : Int)) ∧ inI ((rd (A 87) 3) + 1) ∧ (0 ≤ 3 ∧ 3 < ((A 87).length : Int)) ∧ True) (f' := (24, [some (vR 1), some (vI (-3))], [vI (-3)], LAY (u (shA A) 87 (wr (A 87) 3 ((rd (A 87) 3) + 1))) (shF F), 0, 0)) hc93 10 rfl ⟨⟨by omega, by omega⟩, ⟨by omega, by omega⟩, ⟨by omega, by omega⟩, ⟨by omega, by omega⟩, trivial⟩ ?_
  refine R_reti hc93 rfl rfl ?_
  refine R_s (f' := (16, [some (vR 1), some (vI d), some (vN)], [vI (-3)], LAY (u (shA A) 87 (wr (A 87) 3 ((rd (A 87) 3) + 1))) (shF F), 0, 0)) hc76 0 rfl trivial ?_
  refine R_reti hc76 rfl rfl ⟨⟨_, rfl⟩, ⟨_, _, rfl, rfl⟩, ?_⟩
  refine R_s (P := True) (f' := (2, [some (vR 88), some (vI d)], [vI d, vR 88], LAY (u (shA A) 87 (wr (A 87) 3 ((rd (A 87) 3) + 1))) (shF F), 0, 0)) hc150 2 rfl trivial ?_
  refine R_cv hc150 rfl rfl ?_ (fun r G h => h)
  refine R_s (P := inI ((F 0) - 1) ∧ True) (f' := (8, [some (vR 88), some (vI d)], [vI ((F 0) - 1), vI 0, vI d], LAY (u (shA A) 87 (wr (A 87) 3 ((rd (A 87) 3) + 1))) (shF F), 0, 0)) hc108 6 rfl ⟨⟨by omega, by omega⟩, trivial⟩ ?_
  refine R_cs hc108 rfl rfl ?_ (fun r G h => h)
  refine R_s (P := True) (f' := (2, [some (vI d), some (vI 0), some (vI ((F 0) - 1))], [vI 0, vI d], LAY (u (shA A) 87 (wr (A 87) 3 ((rd (A 87) 3) + 1))) (shF F), 0, 0)) hc104 2 rfl trivial ?_
  refine R_ic (t := 14) hc104 rfl rfl (fun (_ : d < 0) => ?_) (fun (z : ¬ (d < 0)) => absurd (show d < 0 by omega) z)
  refine R_s (P := True) (f' := (15, [some (vI d), some (vI 0), some (vI ((F 0) - 1))], [vI 0], LAY (u (shA A) 87 (wr (A 87) 3 ((rd (A 87) 3) + 1))) (shF F), 0, 0)) hc104 1 rfl trivial ?_
  refine R_retz hc104 rfl rfl (Or.inl rfl) ?_
  refine R_s (f' := (11, [some (vR 88), some (vI d)], [vI 0], LAY (u (shA A) 87 (wr (A 87) 3 ((rd (A 87) 3) + 1))) (shF F), 0, 0)) hc108 0 rfl trivial ?_
  refine R_retz hc108 rfl rfl (Or.inl rfl) ?_
  refine R_s (f' := (5, [some (vR 88), some (vI d)], [vI 0], LAY (u (shA A) 87 (wr (A 87) 3 ((rd (A 87) 3) + 1))) (shF F), 0, 0)) hc150 0 rfl trivial ?_
  refine R_if (t := 15) hc150 rfl rfl (fun (z : ¬ 0 = 0) => absurd z (by decide)) (fun (_ : ¬ (¬ 0 = 0)) => ?_)
  refine R_s (P := True) (f' := (11, [some (vR 88), some (vI d)], [vI (-3), vR 88], LAY (u (shA A) 87 (wr (A 87) 3 ((rd (A 87) 3) + 1))) (shF F), 0, 0)) hc150 2 rfl trivial ?_
  refine R_cv hc150 rfl rfl ?_ (fun r G h => h)
  refine R_s (P := inI 3 ∧ (0 ≤ 3 ∧ 3 < ((A 87).length : Int)) ∧ inI ((rd (A 87) 3) + 1) ∧ (0 ≤ 3 ∧ 3 < ((A 87).length : Int)) ∧ True) (f' := (12, [some (vR 88), some (vI (-3))], [vI (-3)], LAY (u (u (shA A) 87 (wr (A 87) 3 ((rd (A 87) 3) + 1))) 89 (wr (A 87) 3 ((rd (A 87) 3) + 1))) (shF F), 0, 0)) hc105 10 rfl ⟨⟨by omega, by omega⟩, ⟨by omega, by omega⟩, ⟨by omega, by omega⟩, ⟨by omega, by omega⟩, trivial⟩ ?_
  refine R_reti hc105 rfl rfl ?_
  refine R_s (f' := (14, [some (vR 88), some (vI d)], [vI (-3)], LAY (u (u (shA A) 87 (wr (A 87) 3 ((rd (A 87) 3) + 1))) 89 (wr (A 87) 3 ((rd (A 87) 3) + 1))) (shF F), 0, 0)) hc150 0 rfl trivial ?_
  refine R_reti hc150 rfl rfl ?_
  first
    | (exfalso; omega; done)
    | exact ⟨rfl, (u A 87 (wr (A 87) 3 ((rd (A 87) 3) + 1))), F, rfl, rfl, REL_ref hR0 (by decide) (by decide)⟩

theorem op_left_b {c : Int} {A : Nat → List Int} {F : Nat → Int} (hR : REL c A F) (hc : c < 512) (d : Int) (i_d : inI d) (hd : 0 ≤ d ∧ F 0 ≤ d) : R 76 (0, L0 76 [vR 1, vI d], [], LAY (shA A) (shF F), 0, 0) (fun r G => (∃ x, r = some (vI x)) ∧ (∃ (A1 : Nat → List Int) (F1 : Nat → Int), G = LAY A1 F1 ∧ A1 0 = A 0) ∧ R 150 (0, L0 150 [vR 88, vI d], [], G, 0, 0) (fun r2 G2 => r2 = r ∧ ∃ (A' : Nat → List Int) (F' : Nat → Int), G2 = LAY (shA A') (shF F') ∧ A' 0 = A 0 ∧ REL (c + 1) A' F')) := by
  have hR0 := hR
  obtain ⟨hL, hPE, hTH, hTP, hDE, hLE, hNO, hAC, hRO, hRE⟩ := hR
  have j_d := i_d
  unfold inI at j_d
  have h87 : (A 87).length = 9 := hL 87 (by decide)
  have r2 := REFU_at hRE (k := 2) (by decide) (by decide) hc
  have r3 := REFU_at hRE (k := 3) (by decide) (by decide) hc
  have r4 := REFU_at hRE (k := 4) (by decide) (by decide) hc
  have r5 := REFU_at hRE (k := 5) (by decide) (by decide) hc
  have r6 := REFU_at hRE (k := 6) (by decide) (by decide) hc
  have r7 := REFU_at hRE (k := 7) (by decide) (by decide) hc
  have r8 := REFU_at hRE (k := 8) (by decide) (by decide) hc
  obtain ⟨t1, t2, t3, t4, t5, t6⟩ := hTH
  obtain ⟨p1, p2, p3, p4, p5, p6⟩ := hPE
  refine R_s (P := True) (f' := (2, [some (vR 1), some (vI d), none], [vI d, vR 1], LAY (shA A) (shF F), 0, 0)) hc76 2 rfl trivial ?_
  refine R_cv hc76 rfl rfl ?_ (fun r G h => h)
  refine R_s (P := True) (f' := (2, [some (vR 1), some (vI d)], [vI d, vR 1], LAY (shA A) (shF F), 0, 0)) hc99 2 rfl trivial ?_
  refine R_cv hc99 rfl rfl ?_ (fun r G h => h)
  refine R_s (P := True) (f' := (1, [some (vR 1), some (vI d)], [vI d], LAY (shA A) (shF F), 0, 0)) hc98 1 rfl trivial ?_
  refine R_if (t := 16) hc98 rfl rfl (fun (z : d < 0) => absurd z (by omega)) (fun (_ : ¬ (d < 0)) => ?_)
  refine R_s (P := True) (f' := (9, [some (vR 1), some (vI d)], [vI (F 0), vI d], LAY (shA A) (shF F), 0, 0)) hc98 3 rfl trivial ?_
  refine R_ic (t := 16) hc98 rfl rfl (fun (_ : F 0 ≤ d) => ?_) (fun (z : ¬ (F 0 ≤ d)) => absurd (show F 0 ≤ d by omega) z)
  refine R_s (P := True) (f' := (17, [some (vR 1), some (vI d)], [vI 0], LAY (shA A) (shF F), 0, 0)) hc98 1 rfl trivial ?_
  refine R_retz hc98 rfl rfl (Or.inl rfl) ?_
  refine R_s (f' := (5, [some (vR 1), some (vI d)], [vI 0], LAY (shA A) (shF F), 0, 0)) hc99 0 rfl trivial ?_
  refine R_if (t := 17) hc99 rfl rfl (fun (_ : 0 = 0) => ?_) (fun (z : ¬ (0 = 0)) => absurd (by decide) z)
  refine R_s (P := True) (f' := (18, [some (vR 1), some (vI d)], [vN], LAY (shA A) (shF F), 0, 0)) hc99 1 rfl trivial ?_
  refine R_reta hc99 rfl rfl ?_
  refine R_s (f' := (5, [some (vR 1), some (vI d), none], [vN], LAY (shA A) (shF F), 0, 0)) hc76 0 rfl trivial ?_
  refine R_s (P := True) (f' := (13, [some (vR 1), some (vI d), some (vN)], [vI (-3), vR 1], LAY (shA A) (shF F), 0, 0)) hc76 5 rfl trivial ?_
  refine R_cv hc76 rfl rfl ?_ (fun r G h => h)
  refine R_s (P := True) (f' := (3, [some (vR 1), some (vI (-3))], [vI (-2), vI (-3)], LAY (shA A) (shF F), 0, 0)) hc93 2 rfl trivial ?_
  refine R_ic (t := 23) hc93 rfl rfl (fun (z : (-2) < (-3)) => absurd z (by decide)) (fun (_ : ¬ ((-2) < (-3))) => ?_)
  refine R_s (P := True) (f' := (9, [some (vR 1), some (vI (-3))], [vI (-8), vI (-3)], LAY (shA A) (shF F), 0, 0)) hc93 2 rfl trivial ?_
  refine R_ic (t := 23) hc93 rfl rfl (fun (z : (-3) < (-8)) => absurd z (by decide)) (fun (_ : ¬ ((-3) < (-8))) => ?_)
  refine R_s (P := inI 3 ∧ (0 ≤ 3 ∧ 3 < ((A 87).length : Int)) ∧ inI ((rd (A 87) 3) + 1) ∧ (0 ≤ 3 ∧ 3 < ((A 87).length : Int)) ∧ True) (f' := (24, [some (vR 1), some (vI (-3))], [vI (-3)], LAY (u (shA A) 87 (wr (A 87) 3 ((rd (A 87) 3) + 1))) (shF F), 0, 0)) hc93 10 rfl ⟨⟨by omega, by omega⟩, ⟨by omega, by omega⟩, ⟨by omega, by omega⟩, ⟨by omega, by omega⟩, trivial⟩ ?_
  refine R_reti hc93 rfl rfl ?_
  refine R_s (f' := (16, [some (vR 1), some (vI d), some (vN)], [vI (-3)], LAY (u (shA A) 87 (wr (A 87) 3 ((rd (A 87) 3) + 1))) (shF F), 0, 0)) hc76 0 rfl trivial ?_
  refine R_reti hc76 rfl rfl ⟨⟨_, rfl⟩, ⟨_, _, rfl, rfl⟩, ?_⟩
  refine R_s (P := True) (f' := (2, [some (vR 88), some (vI d)], [vI d, vR 88], LAY (u (shA A) 87 (wr (A 87) 3 ((rd (A 87) 3) + 1))) (shF F), 0, 0)) hc150 2 rfl trivial ?_
  refine R_cv hc150 rfl rfl ?_ (fun r G h => h)
  refine R_s (P := inI ((F 0) - 1) ∧ True) (f' := (8, [some (vR 88), some (vI d)], [vI ((F 0) - 1), vI 0, vI d], LAY (u (shA A) 87 (wr (A 87) 3 ((rd (A 87) 3) + 1))) (shF F), 0, 0)) hc108 6 rfl ⟨⟨by omega, by omega⟩, trivial⟩ ?_
  refine R_cs hc108 rfl rfl ?_ (fun r G h => h)
  refine R_s (P := True) (f' := (2, [some (vI d), some (vI 0), some (vI ((F 0) - 1))], [vI 0, vI d], LAY (u (shA A) 87 (wr (A 87) 3 ((rd (A 87) 3) + 1))) (shF F), 0, 0)) hc104 2 rfl trivial ?_
  refine R_ic (t := 14) hc104 rfl rfl (fun (z : d < 0) => absurd z (by omega)) (fun (_ : ¬ (d < 0)) => ?_)
  refine R_s (P := True) (f' := (7, [some (vI d), some (vI 0), some (vI ((F 0) - 1))], [vI ((F 0) - 1), vI d], LAY (u (shA A) 87 (wr (A 87) 3 ((rd (A 87) 3) + 1))) (shF F), 0, 0)) hc104 2 rfl trivial ?_
  refine R_ic (t := 14) hc104 rfl rfl (fun (_ : (F 0) - 1 < d) => ?_) (fun (z : ¬ ((F 0) - 1 < d)) => absurd (show (F 0) - 1 < d by omega) z)
  refine R_s (P := True) (f' := (15, [some (vI d), some (vI 0), some (vI ((F 0) - 1))], [vI 0], LAY (u (shA A) 87 (wr (A 87) 3 ((rd (A 87) 3) + 1))) (shF F), 0, 0)) hc104 1 rfl trivial ?_
  refine R_retz hc104 rfl rfl (Or.inl rfl) ?_
  refine R_s (f' := (11, [some (vR 88), some (vI d)], [vI 0], LAY (u (shA A) 87 (wr (A 87) 3 ((rd (A 87) 3) + 1))) (shF F), 0, 0)) hc108 0 rfl trivial ?_
  refine R_retz hc108 rfl rfl (Or.inl rfl) ?_
  refine R_s (f' := (5, [some (vR 88), some (vI d)], [vI 0], LAY (u (shA A) 87 (wr (A 87) 3 ((rd (A 87) 3) + 1))) (shF F), 0, 0)) hc150 0 rfl trivial ?_
  refine R_if (t := 15) hc150 rfl rfl (fun (z : ¬ 0 = 0) => absurd z (by decide)) (fun (_ : ¬ (¬ 0 = 0)) => ?_)
  refine R_s (P := True) (f' := (11, [some (vR 88), some (vI d)], [vI (-3), vR 88], LAY (u (shA A) 87 (wr (A 87) 3 ((rd (A 87) 3) + 1))) (shF F), 0, 0)) hc150 2 rfl trivial ?_
  refine R_cv hc150 rfl rfl ?_ (fun r G h => h)
  refine R_s (P := inI 3 ∧ (0 ≤ 3 ∧ 3 < ((A 87).length : Int)) ∧ inI ((rd (A 87) 3) + 1) ∧ (0 ≤ 3 ∧ 3 < ((A 87).length : Int)) ∧ True) (f' := (12, [some (vR 88), some (vI (-3))], [vI (-3)], LAY (u (u (shA A) 87 (wr (A 87) 3 ((rd (A 87) 3) + 1))) 89 (wr (A 87) 3 ((rd (A 87) 3) + 1))) (shF F), 0, 0)) hc105 10 rfl ⟨⟨by omega, by omega⟩, ⟨by omega, by omega⟩, ⟨by omega, by omega⟩, ⟨by omega, by omega⟩, trivial⟩ ?_
  refine R_reti hc105 rfl rfl ?_
  refine R_s (f' := (14, [some (vR 88), some (vI d)], [vI (-3)], LAY (u (u (shA A) 87 (wr (A 87) 3 ((rd (A 87) 3) + 1))) 89 (wr (A 87) 3 ((rd (A 87) 3) + 1))) (shF F), 0, 0)) hc150 0 rfl trivial ?_
  refine R_reti hc150 rfl rfl ?_
  first
    | (exfalso; omega; done)
    | exact ⟨rfl, (u A 87 (wr (A 87) 3 ((rd (A 87) 3) + 1))), F, rfl, rfl, REL_ref hR0 (by decide) (by decide)⟩

theorem op_left_0 {c : Int} {A : Nat → List Int} {F : Nat → Int} (hR : REL c A F) (hc : c < 512) (hd : (0 : Int) < F 0) : R 76 (0, L0 76 [vR 1, vI 0], [], LAY (shA A) (shF F), 0, 0) (fun r G => (∃ x, r = some (vI x)) ∧ (∃ (A1 : Nat → List Int) (F1 : Nat → Int), G = LAY A1 F1 ∧ A1 0 = A 0) ∧ R 150 (0, L0 150 [vR 88, vI 0], [], G, 0, 0) (fun r2 G2 => r2 = r ∧ ∃ (A' : Nat → List Int) (F' : Nat → Int), G2 = LAY (shA A') (shF F') ∧ A' 0 = A 0 ∧ REL (c + 1) A' F')) := by
  have hR0 := hR
  obtain ⟨hL, hPE, hTH, hTP, hDE, hLE, hNO, hAC, hRO, hRE⟩ := hR
  have h87 : (A 87).length = 9 := hL 87 (by decide)
  have h99 : (A 99).length = 6 := hL 99 (by decide)
  have r2 := REFU_at hRE (k := 2) (by decide) (by decide) hc
  have r3 := REFU_at hRE (k := 3) (by decide) (by decide) hc
  have r4 := REFU_at hRE (k := 4) (by decide) (by decide) hc
  have r5 := REFU_at hRE (k := 5) (by decide) (by decide) hc
  have r6 := REFU_at hRE (k := 6) (by decide) (by decide) hc
  have r7 := REFU_at hRE (k := 7) (by decide) (by decide) hc
  have r8 := REFU_at hRE (k := 8) (by decide) (by decide) hc
  obtain ⟨t1, t2, t3, t4, t5, t6⟩ := hTH
  obtain ⟨p1, p2, p3, p4, p5, p6⟩ := hPE
  have hD := D_at0 hR0 hd
  have he1 := hD.1.1
  have he2 := hD.1.2.1
  have hme : rd (A 99) 0 = F 8 := by
    have := hD.2.2.2.2.1
    omega
  obtain ⟨so, te, tp, mg, pm, lo, hS⟩ := SPL_ex A F (N_al A F) (N_Q A 21) (F 8).toNat (N_Y A F 0)
  refine R_s (P := True) (f' := (2, [some (vR 1), some (vI 0), none], [vI 0, vR 1], LAY (shA A) (shF F), 0, 0)) hc76 2 rfl trivial ?_
  refine R_cv hc76 rfl rfl ?_ (fun r G h => h)
  refine R_s (P := True) (f' := (2, [some (vR 1), some (vI 0)], [vI 0, vR 1], LAY (shA A) (shF F), 0, 0)) hc99 2 rfl trivial ?_
  refine R_cv hc99 rfl rfl ?_ (fun r G h => h)
  refine R_s (P := True) (f' := (1, [some (vR 1), some (vI 0)], [vI 0], LAY (shA A) (shF F), 0, 0)) hc98 1 rfl trivial ?_
  refine R_if (t := 16) hc98 rfl rfl (fun (z : 0 < 0) => absurd z (by decide)) (fun (_ : ¬ (0 < 0)) => ?_)
  refine R_s (P := True) (f' := (9, [some (vR 1), some (vI 0)], [vI (F 0), vI 0], LAY (shA A) (shF F), 0, 0)) hc98 3 rfl trivial ?_
  refine R_ic (t := 16) hc98 rfl rfl (fun (z : F 0 ≤ 0) => absurd z (by omega)) (fun (_ : ¬ (F 0 ≤ 0)) => ?_)
  refine R_s (P := True) (f' := (17, [some (vR 1), some (vI 0)], [vI 1], LAY (shA A) (shF F), 0, 0)) hc98 2 rfl trivial ?_
  refine R_retz hc98 rfl rfl (Or.inr rfl) ?_
  refine R_s (f' := (5, [some (vR 1), some (vI 0)], [vI 1], LAY (shA A) (shF F), 0, 0)) hc99 0 rfl trivial ?_
  refine R_if (t := 17) hc99 rfl rfl (fun (z : 1 = 0) => absurd z (by decide)) (fun (_ : ¬ (1 = 0)) => ?_)
  refine R_s (P := (0 ≤ (0 : Int) ∧ (0 : Int) < (([some 20, some 29, some 38, some 47, some 56, some 65] : List (Option Nat)).length : Int)) ∧ True) (f' := (18, [some (vR 1), some (vI 0)], [vR 20], LAY (shA A) (shF F), 0, 0)) hc99 5 rfl ⟨(by decide), trivial⟩ ?_
  refine R_reta hc99 rfl rfl ?_
  refine R_s (f' := (5, [some (vR 1), some (vI 0), none], [vR 20], LAY (shA A) (shF F), 0, 0)) hc76 0 rfl trivial ?_
  refine R_s (P := True) (f' := (20, [some (vR 1), some (vI 0), some (vR 20)], [vI 0, vR 20, vR 1], LAY (shA A) (shF F), 0, 0)) hc76 6 rfl trivial ?_
  refine R_cv hc76 rfl rfl (l_now0 hR0 hd hS) (fun r G9 hp9 => ?_)
  obtain ⟨rfl, l8, l9, l10, l11, l75, l76, l77, l78, rfl, k8, k9, k10, k11, k75, k76, k77, k78, v75, v76, v77⟩ := hp9
  refine R_s (f' := (23, [some (vR 1), some (vI 0), some (vR 20)], [], LAY (u (u (u (u (u (u (u (u (shA A) 8 l8) 9 l9) 10 l10) 11 l11) 75 l75) 76 l76) 77 l77) 78 l78) (u (u (shF F) 14 mg) 15 lo), 0, 0)) hc76 0 rfl trivial ?_
  refine R_s (P := True) (f' := (30, [some (vR 1), some (vI 0), some (vR 20)], [vI lo], LAY (u (u (u (u (u (u (u (u (shA A) 8 l8) 9 l9) 10 l10) 11 l11) 75 l75) 76 l76) 77 l77) 78 l78) (u (u (shF F) 14 mg) 15 lo), 0, 0)) hc76 3 rfl trivial ?_
  refine R_reti hc76 rfl rfl ⟨⟨_, rfl⟩, ⟨_, _, rfl, rfl⟩, ?_⟩
  refine R_s (P := True) (f' := (2, [some (vR 88), some (vI 0)], [vI 0, vR 88], LAY (u (u (u (u (u (u (u (u (shA A) 8 l8) 9 l9) 10 l10) 11 l11) 75 l75) 76 l76) 77 l77) 78 l78) (u (u (shF F) 14 mg) 15 lo), 0, 0)) hc150 2 rfl trivial ?_
  refine R_cv hc150 rfl rfl ?_ (fun r G h => h)
  refine R_s (P := inI ((F 0) - 1) ∧ True) (f' := (8, [some (vR 88), some (vI 0)], [vI ((F 0) - 1), vI 0, vI 0], LAY (u (u (u (u (u (u (u (u (shA A) 8 l8) 9 l9) 10 l10) 11 l11) 75 l75) 76 l76) 77 l77) 78 l78) (u (u (shF F) 14 mg) 15 lo), 0, 0)) hc108 6 rfl ⟨⟨by omega, by omega⟩, trivial⟩ ?_
  refine R_cs hc108 rfl rfl ?_ (fun r G h => h)
  refine R_s (P := True) (f' := (2, [some (vI 0), some (vI 0), some (vI ((F 0) - 1))], [vI 0, vI 0], LAY (u (u (u (u (u (u (u (u (shA A) 8 l8) 9 l9) 10 l10) 11 l11) 75 l75) 76 l76) 77 l77) 78 l78) (u (u (shF F) 14 mg) 15 lo), 0, 0)) hc104 2 rfl trivial ?_
  refine R_ic (t := 14) hc104 rfl rfl (fun (z : 0 < 0) => absurd z (by decide)) (fun (_ : ¬ (0 < 0)) => ?_)
  refine R_s (P := True) (f' := (7, [some (vI 0), some (vI 0), some (vI ((F 0) - 1))], [vI ((F 0) - 1), vI 0], LAY (u (u (u (u (u (u (u (u (shA A) 8 l8) 9 l9) 10 l10) 11 l11) 75 l75) 76 l76) 77 l77) 78 l78) (u (u (shF F) 14 mg) 15 lo), 0, 0)) hc104 2 rfl trivial ?_
  refine R_ic (t := 14) hc104 rfl rfl (fun (z : (F 0) - 1 < 0) => absurd z (by omega)) (fun (_ : ¬ ((F 0) - 1 < 0)) => ?_)
  refine R_s (P := True) (f' := (15, [some (vI 0), some (vI 0), some (vI ((F 0) - 1))], [vI 1], LAY (u (u (u (u (u (u (u (u (shA A) 8 l8) 9 l9) 10 l10) 11 l11) 75 l75) 76 l76) 77 l77) 78 l78) (u (u (shF F) 14 mg) 15 lo), 0, 0)) hc104 2 rfl trivial ?_
  refine R_retz hc104 rfl rfl (Or.inr rfl) ?_
  refine R_s (f' := (11, [some (vR 88), some (vI 0)], [vI 1], LAY (u (u (u (u (u (u (u (u (shA A) 8 l8) 9 l9) 10 l10) 11 l11) 75 l75) 76 l76) 77 l77) 78 l78) (u (u (shF F) 14 mg) 15 lo), 0, 0)) hc108 0 rfl trivial ?_
  refine R_retz hc108 rfl rfl (Or.inr rfl) ?_
  refine R_s (f' := (5, [some (vR 88), some (vI 0)], [vI 1], LAY (u (u (u (u (u (u (u (u (shA A) 8 l8) 9 l9) 10 l10) 11 l11) 75 l75) 76 l76) 77 l77) 78 l78) (u (u (shF F) 14 mg) 15 lo), 0, 0)) hc150 0 rfl trivial ?_
  refine R_if (t := 15) hc150 rfl rfl (fun (_ : ¬ 1 = 0) => ?_) (fun (z : ¬ (¬ 1 = 0)) => absurd (by decide) z)
  refine R_s (P := True) (f' := (17, [some (vR 88), some (vI 0)], [vI 0, vR 88], LAY (u (u (u (u (u (u (u (u (shA A) 8 l8) 9 l9) 10 l10) 11 l11) 75 l75) 76 l76) 77 l77) 78 l78) (u (u (shF F) 14 mg) 15 lo), 0, 0)) hc150 2 rfl trivial ?_
  refine R_cv hc150 rfl rfl (l_worksR hR0 (A1 := (u (u (u (u (u (u (u (u (shA A) 8 l8) 9 l9) 10 l10) 11 l11) 75 l75) 76 l76) 77 l77) 78 l78)) (F1 := (u (u (shF F) 14 mg) 15 lo)) rfl rfl rfl rfl rfl rfl rfl rfl rfl rfl rfl rfl rfl (hL 104 (by decide)) (hL 105 (by decide)) (hL 107 (by decide)) (hL 108 (by decide)) (hL 109 (by decide)) (hL 110 (by decide)) (hL 111 (by decide)) hD.1 hD.2 rfl hS) (fun r G9 hp9 => ?_)
  obtain ⟨rfl, l104, l105, l107, l108, l109, l110, l111, ac, rfl, k104, k105, k107, k108, k109, k110, k111, hac, w107, w108⟩ := hp9
  refine R_s (f' := (20, [some (vR 88), some (vI 0)], [], LAY (u (u (u (u (u (u (u (u (u (u (u (u (u (u (u (shA A) 8 l8) 9 l9) 10 l10) 11 l11) 75 l75) 76 l76) 77 l77) 78 l78) 109 l109) 104 l104) 105 l105) 110 l110) 111 l111) 108 l108) 107 l107) (u (u (u (u (u (u (shF F) 14 mg) 15 lo) 28 (N_Y A F 0)) 29 ac) 30 mg) 31 lo), 0, 0)) hc150 0 rfl trivial ?_
  refine R_s (P := True) (f' := (24, [some (vR 88), some (vI 0)], [vI lo], LAY (u (u (u (u (u (u (u (u (u (u (u (u (u (u (u (shA A) 8 l8) 9 l9) 10 l10) 11 l11) 75 l75) 76 l76) 77 l77) 78 l78) 109 l109) 104 l104) 105 l105) 110 l110) 111 l111) 108 l108) 107 l107) (u (u (u (u (u (u (shF F) 14 mg) 15 lo) 28 (N_Y A F 0)) 29 ac) 30 mg) 31 lo), 0, 0)) hc150 2 rfl trivial ?_
  refine R_reti hc150 rfl rfl ?_
  first
    | (exfalso; omega; done)
    | exact ⟨rfl, (u (u (u (u (u (u (u (u (u (u (u (u (u (u (u A 8 l8) 9 l9) 10 l10) 11 l11) 75 l75) 76 l76) 77 l77) 78 l78) 109 l109) 104 l104) 105 l105) 110 l110) 111 l111) 108 l108) 107 l107), (u (u (u (u (u (u F 14 mg) 15 lo) 28 (N_Y A F 0)) 29 ac) 30 mg) 31 lo), rfl, rfl, ⟨(LENS_u (LENS_u (LENS_u (LENS_u (LENS_u (LENS_u (LENS_u (LENS_u (LENS_u (LENS_u (LENS_u (LENS_u (LENS_u (LENS_u (LENS_u hL (by show (l8).length = (A 8).length; rw [k8, hL 8 (by decide)]; rfl)) (by show (l9).length = (A 9).length; rw [k9, hL 9 (by decide)]; rfl)) (by show (l10).length = (A 10).length; rw [k10, hL 10 (by decide)]; rfl)) (by show (l11).length = (A 11).length; rw [k11, hL 11 (by decide)]; rfl)) (by show (l75).length = (A 75).length; rw [k75, hL 75 (by decide)]; rfl)) (by show (l76).length = (A 76).length; rw [k76, hL 76 (by decide)]; rfl)) (by show (l77).length = (A 77).length; rw [k77, hL 77 (by decide)]; rfl)) (by show (l78).length = (A 78).length; rw [k78, hL 78 (by decide)]; rfl)) (by show (l109).length = (A 109).length; rw [k109, hL 109 (by decide)]; rfl)) (by show (l104).length = (A 104).length; rw [k104, hL 104 (by decide)]; rfl)) (by show (l105).length = (A 105).length; rw [k105, hL 105 (by decide)]; rfl)) (by show (l110).length = (A 110).length; rw [k110, hL 110 (by decide)]; rfl)) (by show (l111).length = (A 111).length; rw [k111, hL 111 (by decide)]; rfl)) (by show (l108).length = (A 108).length; rw [k108, hL 108 (by decide)]; rfl)) (by show (l107).length = (A 107).length; rw [k107, hL 107 (by decide)]; rfl)), hR0.2.1, hR0.2.2.1, hR0.2.2.2.1, hR0.2.2.2.2.1, hR0.2.2.2.2.2.1, hR0.2.2.2.2.2.2.1, hR0.2.2.2.2.2.2.2.1, hR0.2.2.2.2.2.2.2.2.1, (REFU_c hR0.2.2.2.2.2.2.2.2.2)⟩⟩

theorem op_left_1 {c : Int} {A : Nat → List Int} {F : Nat → Int} (hR : REL c A F) (hc : c < 512) (hd : (1 : Int) < F 0) : R 76 (0, L0 76 [vR 1, vI 1], [], LAY (shA A) (shF F), 0, 0) (fun r G => (∃ x, r = some (vI x)) ∧ (∃ (A1 : Nat → List Int) (F1 : Nat → Int), G = LAY A1 F1 ∧ A1 0 = A 0) ∧ R 150 (0, L0 150 [vR 88, vI 1], [], G, 0, 0) (fun r2 G2 => r2 = r ∧ ∃ (A' : Nat → List Int) (F' : Nat → Int), G2 = LAY (shA A') (shF F') ∧ A' 0 = A 0 ∧ REL (c + 1) A' F')) := by
  have hR0 := hR
  obtain ⟨hL, hPE, hTH, hTP, hDE, hLE, hNO, hAC, hRO, hRE⟩ := hR
  have h87 : (A 87).length = 9 := hL 87 (by decide)
  have h99 : (A 99).length = 6 := hL 99 (by decide)
  have r2 := REFU_at hRE (k := 2) (by decide) (by decide) hc
  have r3 := REFU_at hRE (k := 3) (by decide) (by decide) hc
  have r4 := REFU_at hRE (k := 4) (by decide) (by decide) hc
  have r5 := REFU_at hRE (k := 5) (by decide) (by decide) hc
  have r6 := REFU_at hRE (k := 6) (by decide) (by decide) hc
  have r7 := REFU_at hRE (k := 7) (by decide) (by decide) hc
  have r8 := REFU_at hRE (k := 8) (by decide) (by decide) hc
  obtain ⟨t1, t2, t3, t4, t5, t6⟩ := hTH
  obtain ⟨p1, p2, p3, p4, p5, p6⟩ := hPE
  have hD := D_at1 hR0 hd
  have he1 := hD.1.1
  have he2 := hD.1.2.1
  have hme : rd (A 99) 1 = F 9 := by
    have := hD.2.2.2.2.1
    omega
  obtain ⟨so, te, tp, mg, pm, lo, hS⟩ := SPL_ex A F (N_al A F) (N_Q A 30) (F 9).toNat (N_Y A F 1)
  refine R_s (P := True) (f' := (2, [some (vR 1), some (vI 1), none], [vI 1, vR 1], LAY (shA A) (shF F), 0, 0)) hc76 2 rfl trivial ?_
  refine R_cv hc76 rfl rfl ?_ (fun r G h => h)
  refine R_s (P := True) (f' := (2, [some (vR 1), some (vI 1)], [vI 1, vR 1], LAY (shA A) (shF F), 0, 0)) hc99 2 rfl trivial ?_
  refine R_cv hc99 rfl rfl ?_ (fun r G h => h)
  refine R_s (P := True) (f' := (1, [some (vR 1), some (vI 1)], [vI 1], LAY (shA A) (shF F), 0, 0)) hc98 1 rfl trivial ?_
  refine R_if (t := 16) hc98 rfl rfl (fun (z : 1 < 0) => absurd z (by decide)) (fun (_ : ¬ (1 < 0)) => ?_)
  refine R_s (P := True) (f' := (9, [some (vR 1), some (vI 1)], [vI (F 0), vI 1], LAY (shA A) (shF F), 0, 0)) hc98 3 rfl trivial ?_
  refine R_ic (t := 16) hc98 rfl rfl (fun (z : F 0 ≤ 1) => absurd z (by omega)) (fun (_ : ¬ (F 0 ≤ 1)) => ?_)
  refine R_s (P := True) (f' := (17, [some (vR 1), some (vI 1)], [vI 1], LAY (shA A) (shF F), 0, 0)) hc98 2 rfl trivial ?_
  refine R_retz hc98 rfl rfl (Or.inr rfl) ?_
  refine R_s (f' := (5, [some (vR 1), some (vI 1)], [vI 1], LAY (shA A) (shF F), 0, 0)) hc99 0 rfl trivial ?_
  refine R_if (t := 17) hc99 rfl rfl (fun (z : 1 = 0) => absurd z (by decide)) (fun (_ : ¬ (1 = 0)) => ?_)
  refine R_s (P := (0 ≤ (1 : Int) ∧ (1 : Int) < (([some 20, some 29, some 38, some 47, some 56, some 65] : List (Option Nat)).length : Int)) ∧ True) (f' := (18, [some (vR 1), some (vI 1)], [vR 29], LAY (shA A) (shF F), 0, 0)) hc99 5 rfl ⟨(by decide), trivial⟩ ?_
  refine R_reta hc99 rfl rfl ?_
  refine R_s (f' := (5, [some (vR 1), some (vI 1), none], [vR 29], LAY (shA A) (shF F), 0, 0)) hc76 0 rfl trivial ?_
  refine R_s (P := True) (f' := (20, [some (vR 1), some (vI 1), some (vR 29)], [vI 1, vR 29, vR 1], LAY (shA A) (shF F), 0, 0)) hc76 6 rfl trivial ?_
  refine R_cv hc76 rfl rfl (l_now1 hR0 hd hS) (fun r G9 hp9 => ?_)
  obtain ⟨rfl, l8, l9, l10, l11, l75, l76, l77, l78, rfl, k8, k9, k10, k11, k75, k76, k77, k78, v75, v76, v77⟩ := hp9
  refine R_s (f' := (23, [some (vR 1), some (vI 1), some (vR 29)], [], LAY (u (u (u (u (u (u (u (u (shA A) 8 l8) 9 l9) 10 l10) 11 l11) 75 l75) 76 l76) 77 l77) 78 l78) (u (u (shF F) 14 mg) 15 lo), 0, 0)) hc76 0 rfl trivial ?_
  refine R_s (P := True) (f' := (30, [some (vR 1), some (vI 1), some (vR 29)], [vI lo], LAY (u (u (u (u (u (u (u (u (shA A) 8 l8) 9 l9) 10 l10) 11 l11) 75 l75) 76 l76) 77 l77) 78 l78) (u (u (shF F) 14 mg) 15 lo), 0, 0)) hc76 3 rfl trivial ?_
  refine R_reti hc76 rfl rfl ⟨⟨_, rfl⟩, ⟨_, _, rfl, rfl⟩, ?_⟩
  refine R_s (P := True) (f' := (2, [some (vR 88), some (vI 1)], [vI 1, vR 88], LAY (u (u (u (u (u (u (u (u (shA A) 8 l8) 9 l9) 10 l10) 11 l11) 75 l75) 76 l76) 77 l77) 78 l78) (u (u (shF F) 14 mg) 15 lo), 0, 0)) hc150 2 rfl trivial ?_
  refine R_cv hc150 rfl rfl ?_ (fun r G h => h)
  refine R_s (P := inI ((F 0) - 1) ∧ True) (f' := (8, [some (vR 88), some (vI 1)], [vI ((F 0) - 1), vI 0, vI 1], LAY (u (u (u (u (u (u (u (u (shA A) 8 l8) 9 l9) 10 l10) 11 l11) 75 l75) 76 l76) 77 l77) 78 l78) (u (u (shF F) 14 mg) 15 lo), 0, 0)) hc108 6 rfl ⟨⟨by omega, by omega⟩, trivial⟩ ?_
  refine R_cs hc108 rfl rfl ?_ (fun r G h => h)
  refine R_s (P := True) (f' := (2, [some (vI 1), some (vI 0), some (vI ((F 0) - 1))], [vI 0, vI 1], LAY (u (u (u (u (u (u (u (u (shA A) 8 l8) 9 l9) 10 l10) 11 l11) 75 l75) 76 l76) 77 l77) 78 l78) (u (u (shF F) 14 mg) 15 lo), 0, 0)) hc104 2 rfl trivial ?_
  refine R_ic (t := 14) hc104 rfl rfl (fun (z : 1 < 0) => absurd z (by decide)) (fun (_ : ¬ (1 < 0)) => ?_)
  refine R_s (P := True) (f' := (7, [some (vI 1), some (vI 0), some (vI ((F 0) - 1))], [vI ((F 0) - 1), vI 1], LAY (u (u (u (u (u (u (u (u (shA A) 8 l8) 9 l9) 10 l10) 11 l11) 75 l75) 76 l76) 77 l77) 78 l78) (u (u (shF F) 14 mg) 15 lo), 0, 0)) hc104 2 rfl trivial ?_
  refine R_ic (t := 14) hc104 rfl rfl (fun (z : (F 0) - 1 < 1) => absurd z (by omega)) (fun (_ : ¬ ((F 0) - 1 < 1)) => ?_)
  refine R_s (P := True) (f' := (15, [some (vI 1), some (vI 0), some (vI ((F 0) - 1))], [vI 1], LAY (u (u (u (u (u (u (u (u (shA A) 8 l8) 9 l9) 10 l10) 11 l11) 75 l75) 76 l76) 77 l77) 78 l78) (u (u (shF F) 14 mg) 15 lo), 0, 0)) hc104 2 rfl trivial ?_
  refine R_retz hc104 rfl rfl (Or.inr rfl) ?_
  refine R_s (f' := (11, [some (vR 88), some (vI 1)], [vI 1], LAY (u (u (u (u (u (u (u (u (shA A) 8 l8) 9 l9) 10 l10) 11 l11) 75 l75) 76 l76) 77 l77) 78 l78) (u (u (shF F) 14 mg) 15 lo), 0, 0)) hc108 0 rfl trivial ?_
  refine R_retz hc108 rfl rfl (Or.inr rfl) ?_
  refine R_s (f' := (5, [some (vR 88), some (vI 1)], [vI 1], LAY (u (u (u (u (u (u (u (u (shA A) 8 l8) 9 l9) 10 l10) 11 l11) 75 l75) 76 l76) 77 l77) 78 l78) (u (u (shF F) 14 mg) 15 lo), 0, 0)) hc150 0 rfl trivial ?_
  refine R_if (t := 15) hc150 rfl rfl (fun (_ : ¬ 1 = 0) => ?_) (fun (z : ¬ (¬ 1 = 0)) => absurd (by decide) z)
  refine R_s (P := True) (f' := (17, [some (vR 88), some (vI 1)], [vI 1, vR 88], LAY (u (u (u (u (u (u (u (u (shA A) 8 l8) 9 l9) 10 l10) 11 l11) 75 l75) 76 l76) 77 l77) 78 l78) (u (u (shF F) 14 mg) 15 lo), 0, 0)) hc150 2 rfl trivial ?_
  refine R_cv hc150 rfl rfl (l_worksR hR0 (A1 := (u (u (u (u (u (u (u (u (shA A) 8 l8) 9 l9) 10 l10) 11 l11) 75 l75) 76 l76) 77 l77) 78 l78)) (F1 := (u (u (shF F) 14 mg) 15 lo)) rfl rfl rfl rfl rfl rfl rfl rfl rfl rfl rfl rfl rfl (hL 104 (by decide)) (hL 105 (by decide)) (hL 107 (by decide)) (hL 108 (by decide)) (hL 109 (by decide)) (hL 110 (by decide)) (hL 111 (by decide)) hD.1 hD.2 rfl hS) (fun r G9 hp9 => ?_)
  obtain ⟨rfl, l104, l105, l107, l108, l109, l110, l111, ac, rfl, k104, k105, k107, k108, k109, k110, k111, hac, w107, w108⟩ := hp9
  refine R_s (f' := (20, [some (vR 88), some (vI 1)], [], LAY (u (u (u (u (u (u (u (u (u (u (u (u (u (u (u (shA A) 8 l8) 9 l9) 10 l10) 11 l11) 75 l75) 76 l76) 77 l77) 78 l78) 109 l109) 104 l104) 105 l105) 110 l110) 111 l111) 108 l108) 107 l107) (u (u (u (u (u (u (shF F) 14 mg) 15 lo) 28 (N_Y A F 1)) 29 ac) 30 mg) 31 lo), 0, 0)) hc150 0 rfl trivial ?_
  refine R_s (P := True) (f' := (24, [some (vR 88), some (vI 1)], [vI lo], LAY (u (u (u (u (u (u (u (u (u (u (u (u (u (u (u (shA A) 8 l8) 9 l9) 10 l10) 11 l11) 75 l75) 76 l76) 77 l77) 78 l78) 109 l109) 104 l104) 105 l105) 110 l110) 111 l111) 108 l108) 107 l107) (u (u (u (u (u (u (shF F) 14 mg) 15 lo) 28 (N_Y A F 1)) 29 ac) 30 mg) 31 lo), 0, 0)) hc150 2 rfl trivial ?_
  refine R_reti hc150 rfl rfl ?_
  first
    | (exfalso; omega; done)
    | exact ⟨rfl, (u (u (u (u (u (u (u (u (u (u (u (u (u (u (u A 8 l8) 9 l9) 10 l10) 11 l11) 75 l75) 76 l76) 77 l77) 78 l78) 109 l109) 104 l104) 105 l105) 110 l110) 111 l111) 108 l108) 107 l107), (u (u (u (u (u (u F 14 mg) 15 lo) 28 (N_Y A F 1)) 29 ac) 30 mg) 31 lo), rfl, rfl, ⟨(LENS_u (LENS_u (LENS_u (LENS_u (LENS_u (LENS_u (LENS_u (LENS_u (LENS_u (LENS_u (LENS_u (LENS_u (LENS_u (LENS_u (LENS_u hL (by show (l8).length = (A 8).length; rw [k8, hL 8 (by decide)]; rfl)) (by show (l9).length = (A 9).length; rw [k9, hL 9 (by decide)]; rfl)) (by show (l10).length = (A 10).length; rw [k10, hL 10 (by decide)]; rfl)) (by show (l11).length = (A 11).length; rw [k11, hL 11 (by decide)]; rfl)) (by show (l75).length = (A 75).length; rw [k75, hL 75 (by decide)]; rfl)) (by show (l76).length = (A 76).length; rw [k76, hL 76 (by decide)]; rfl)) (by show (l77).length = (A 77).length; rw [k77, hL 77 (by decide)]; rfl)) (by show (l78).length = (A 78).length; rw [k78, hL 78 (by decide)]; rfl)) (by show (l109).length = (A 109).length; rw [k109, hL 109 (by decide)]; rfl)) (by show (l104).length = (A 104).length; rw [k104, hL 104 (by decide)]; rfl)) (by show (l105).length = (A 105).length; rw [k105, hL 105 (by decide)]; rfl)) (by show (l110).length = (A 110).length; rw [k110, hL 110 (by decide)]; rfl)) (by show (l111).length = (A 111).length; rw [k111, hL 111 (by decide)]; rfl)) (by show (l108).length = (A 108).length; rw [k108, hL 108 (by decide)]; rfl)) (by show (l107).length = (A 107).length; rw [k107, hL 107 (by decide)]; rfl)), hR0.2.1, hR0.2.2.1, hR0.2.2.2.1, hR0.2.2.2.2.1, hR0.2.2.2.2.2.1, hR0.2.2.2.2.2.2.1, hR0.2.2.2.2.2.2.2.1, hR0.2.2.2.2.2.2.2.2.1, (REFU_c hR0.2.2.2.2.2.2.2.2.2)⟩⟩

theorem op_left_2 {c : Int} {A : Nat → List Int} {F : Nat → Int} (hR : REL c A F) (hc : c < 512) (hd : (2 : Int) < F 0) : R 76 (0, L0 76 [vR 1, vI 2], [], LAY (shA A) (shF F), 0, 0) (fun r G => (∃ x, r = some (vI x)) ∧ (∃ (A1 : Nat → List Int) (F1 : Nat → Int), G = LAY A1 F1 ∧ A1 0 = A 0) ∧ R 150 (0, L0 150 [vR 88, vI 2], [], G, 0, 0) (fun r2 G2 => r2 = r ∧ ∃ (A' : Nat → List Int) (F' : Nat → Int), G2 = LAY (shA A') (shF F') ∧ A' 0 = A 0 ∧ REL (c + 1) A' F')) := by
  have hR0 := hR
  obtain ⟨hL, hPE, hTH, hTP, hDE, hLE, hNO, hAC, hRO, hRE⟩ := hR
  have h87 : (A 87).length = 9 := hL 87 (by decide)
  have h99 : (A 99).length = 6 := hL 99 (by decide)
  have r2 := REFU_at hRE (k := 2) (by decide) (by decide) hc
  have r3 := REFU_at hRE (k := 3) (by decide) (by decide) hc
  have r4 := REFU_at hRE (k := 4) (by decide) (by decide) hc
  have r5 := REFU_at hRE (k := 5) (by decide) (by decide) hc
  have r6 := REFU_at hRE (k := 6) (by decide) (by decide) hc
  have r7 := REFU_at hRE (k := 7) (by decide) (by decide) hc
  have r8 := REFU_at hRE (k := 8) (by decide) (by decide) hc
  obtain ⟨t1, t2, t3, t4, t5, t6⟩ := hTH
  obtain ⟨p1, p2, p3, p4, p5, p6⟩ := hPE
  have hD := D_at2 hR0 hd
  have he1 := hD.1.1
  have he2 := hD.1.2.1
  have hme : rd (A 99) 2 = F 10 := by
    have := hD.2.2.2.2.1
    omega
  obtain ⟨so, te, tp, mg, pm, lo, hS⟩ := SPL_ex A F (N_al A F) (N_Q A 39) (F 10).toNat (N_Y A F 2)
  refine R_s (P := True) (f' := (2, [some (vR 1), some (vI 2), none], [vI 2, vR 1], LAY (shA A) (shF F), 0, 0)) hc76 2 rfl trivial ?_
  refine R_cv hc76 rfl rfl ?_ (fun r G h => h)
  refine R_s (P := True) (f' := (2, [some (vR 1), some (vI 2)], [vI 2, vR 1], LAY (shA A) (shF F), 0, 0)) hc99 2 rfl trivial ?_
  refine R_cv hc99 rfl rfl ?_ (fun r G h => h)
  refine R_s (P := True) (f' := (1, [some (vR 1), some (vI 2)], [vI 2], LAY (shA A) (shF F), 0, 0)) hc98 1 rfl trivial ?_
  refine R_if (t := 16) hc98 rfl rfl (fun (z : 2 < 0) => absurd z (by decide)) (fun (_ : ¬ (2 < 0)) => ?_)
  refine R_s (P := True) (f' := (9, [some (vR 1), some (vI 2)], [vI (F 0), vI 2], LAY (shA A) (shF F), 0, 0)) hc98 3 rfl trivial ?_
  refine R_ic (t := 16) hc98 rfl rfl (fun (z : F 0 ≤ 2) => absurd z (by omega)) (fun (_ : ¬ (F 0 ≤ 2)) => ?_)
  refine R_s (P := True) (f' := (17, [some (vR 1), some (vI 2)], [vI 1], LAY (shA A) (shF F), 0, 0)) hc98 2 rfl trivial ?_
  refine R_retz hc98 rfl rfl (Or.inr rfl) ?_
  refine R_s (f' := (5, [some (vR 1), some (vI 2)], [vI 1], LAY (shA A) (shF F), 0, 0)) hc99 0 rfl trivial ?_
  refine R_if (t := 17) hc99 rfl rfl (fun (z : 1 = 0) => absurd z (by decide)) (fun (_ : ¬ (1 = 0)) => ?_)
  refine R_s (P := (0 ≤ (2 : Int) ∧ (2 : Int) < (([some 20, some 29, some 38, some 47, some 56, some 65] : List (Option Nat)).length : Int)) ∧ True) (f' := (18, [some (vR 1), some (vI 2)], [vR 38], LAY (shA A) (shF F), 0, 0)) hc99 5 rfl ⟨(by decide), trivial⟩ ?_
  refine R_reta hc99 rfl rfl ?_
  refine R_s (f' := (5, [some (vR 1), some (vI 2), none], [vR 38], LAY (shA A) (shF F), 0, 0)) hc76 0 rfl trivial ?_
  refine R_s (P := True) (f' := (20, [some (vR 1), some (vI 2), some (vR 38)], [vI 2, vR 38, vR 1], LAY (shA A) (shF F), 0, 0)) hc76 6 rfl trivial ?_
  refine R_cv hc76 rfl rfl (l_now2 hR0 hd hS) (fun r G9 hp9 => ?_)
  obtain ⟨rfl, l8, l9, l10, l11, l75, l76, l77, l78, rfl, k8, k9, k10, k11, k75, k76, k77, k78, v75, v76, v77⟩ := hp9
  refine R_s (f' := (23, [some (vR 1), some (vI 2), some (vR 38)], [], LAY (u (u (u (u (u (u (u (u (shA A) 8 l8) 9 l9) 10 l10) 11 l11) 75 l75) 76 l76) 77 l77) 78 l78) (u (u (shF F) 14 mg) 15 lo), 0, 0)) hc76 0 rfl trivial ?_
  refine R_s (P := True) (f' := (30, [some (vR 1), some (vI 2), some (vR 38)], [vI lo], LAY (u (u (u (u (u (u (u (u (shA A) 8 l8) 9 l9) 10 l10) 11 l11) 75 l75) 76 l76) 77 l77) 78 l78) (u (u (shF F) 14 mg) 15 lo), 0, 0)) hc76 3 rfl trivial ?_
  refine R_reti hc76 rfl rfl ⟨⟨_, rfl⟩, ⟨_, _, rfl, rfl⟩, ?_⟩
  refine R_s (P := True) (f' := (2, [some (vR 88), some (vI 2)], [vI 2, vR 88], LAY (u (u (u (u (u (u (u (u (shA A) 8 l8) 9 l9) 10 l10) 11 l11) 75 l75) 76 l76) 77 l77) 78 l78) (u (u (shF F) 14 mg) 15 lo), 0, 0)) hc150 2 rfl trivial ?_
  refine R_cv hc150 rfl rfl ?_ (fun r G h => h)
  refine R_s (P := inI ((F 0) - 1) ∧ True) (f' := (8, [some (vR 88), some (vI 2)], [vI ((F 0) - 1), vI 0, vI 2], LAY (u (u (u (u (u (u (u (u (shA A) 8 l8) 9 l9) 10 l10) 11 l11) 75 l75) 76 l76) 77 l77) 78 l78) (u (u (shF F) 14 mg) 15 lo), 0, 0)) hc108 6 rfl ⟨⟨by omega, by omega⟩, trivial⟩ ?_
  refine R_cs hc108 rfl rfl ?_ (fun r G h => h)
  refine R_s (P := True) (f' := (2, [some (vI 2), some (vI 0), some (vI ((F 0) - 1))], [vI 0, vI 2], LAY (u (u (u (u (u (u (u (u (shA A) 8 l8) 9 l9) 10 l10) 11 l11) 75 l75) 76 l76) 77 l77) 78 l78) (u (u (shF F) 14 mg) 15 lo), 0, 0)) hc104 2 rfl trivial ?_
  refine R_ic (t := 14) hc104 rfl rfl (fun (z : 2 < 0) => absurd z (by decide)) (fun (_ : ¬ (2 < 0)) => ?_)
  refine R_s (P := True) (f' := (7, [some (vI 2), some (vI 0), some (vI ((F 0) - 1))], [vI ((F 0) - 1), vI 2], LAY (u (u (u (u (u (u (u (u (shA A) 8 l8) 9 l9) 10 l10) 11 l11) 75 l75) 76 l76) 77 l77) 78 l78) (u (u (shF F) 14 mg) 15 lo), 0, 0)) hc104 2 rfl trivial ?_
  refine R_ic (t := 14) hc104 rfl rfl (fun (z : (F 0) - 1 < 2) => absurd z (by omega)) (fun (_ : ¬ ((F 0) - 1 < 2)) => ?_)
  refine R_s (P := True) (f' := (15, [some (vI 2), some (vI 0), some (vI ((F 0) - 1))], [vI 1], LAY (u (u (u (u (u (u (u (u (shA A) 8 l8) 9 l9) 10 l10) 11 l11) 75 l75) 76 l76) 77 l77) 78 l78) (u (u (shF F) 14 mg) 15 lo), 0, 0)) hc104 2 rfl trivial ?_
  refine R_retz hc104 rfl rfl (Or.inr rfl) ?_
  refine R_s (f' := (11, [some (vR 88), some (vI 2)], [vI 1], LAY (u (u (u (u (u (u (u (u (shA A) 8 l8) 9 l9) 10 l10) 11 l11) 75 l75) 76 l76) 77 l77) 78 l78) (u (u (shF F) 14 mg) 15 lo), 0, 0)) hc108 0 rfl trivial ?_
  refine R_retz hc108 rfl rfl (Or.inr rfl) ?_
  refine R_s (f' := (5, [some (vR 88), some (vI 2)], [vI 1], LAY (u (u (u (u (u (u (u (u (shA A) 8 l8) 9 l9) 10 l10) 11 l11) 75 l75) 76 l76) 77 l77) 78 l78) (u (u (shF F) 14 mg) 15 lo), 0, 0)) hc150 0 rfl trivial ?_
  refine R_if (t := 15) hc150 rfl rfl (fun (_ : ¬ 1 = 0) => ?_) (fun (z : ¬ (¬ 1 = 0)) => absurd (by decide) z)
  refine R_s (P := True) (f' := (17, [some (vR 88), some (vI 2)], [vI 2, vR 88], LAY (u (u (u (u (u (u (u (u (shA A) 8 l8) 9 l9) 10 l10) 11 l11) 75 l75) 76 l76) 77 l77) 78 l78) (u (u (shF F) 14 mg) 15 lo), 0, 0)) hc150 2 rfl trivial ?_
  refine R_cv hc150 rfl rfl (l_worksR hR0 (A1 := (u (u (u (u (u (u (u (u (shA A) 8 l8) 9 l9) 10 l10) 11 l11) 75 l75) 76 l76) 77 l77) 78 l78)) (F1 := (u (u (shF F) 14 mg) 15 lo)) rfl rfl rfl rfl rfl rfl rfl rfl rfl rfl rfl rfl rfl (hL 104 (by decide)) (hL 105 (by decide)) (hL 107 (by decide)) (hL 108 (by decide)) (hL 109 (by decide)) (hL 110 (by decide)) (hL 111 (by decide)) hD.1 hD.2 rfl hS) (fun r G9 hp9 => ?_)
  obtain ⟨rfl, l104, l105, l107, l108, l109, l110, l111, ac, rfl, k104, k105, k107, k108, k109, k110, k111, hac, w107, w108⟩ := hp9
  refine R_s (f' := (20, [some (vR 88), some (vI 2)], [], LAY (u (u (u (u (u (u (u (u (u (u (u (u (u (u (u (shA A) 8 l8) 9 l9) 10 l10) 11 l11) 75 l75) 76 l76) 77 l77) 78 l78) 109 l109) 104 l104) 105 l105) 110 l110) 111 l111) 108 l108) 107 l107) (u (u (u (u (u (u (shF F) 14 mg) 15 lo) 28 (N_Y A F 2)) 29 ac) 30 mg) 31 lo), 0, 0)) hc150 0 rfl trivial ?_
  refine R_s (P := True) (f' := (24, [some (vR 88), some (vI 2)], [vI lo], LAY (u (u (u (u (u (u (u (u (u (u (u (u (u (u (u (shA A) 8 l8) 9 l9) 10 l10) 11 l11) 75 l75) 76 l76) 77 l77) 78 l78) 109 l109) 104 l104) 105 l105) 110 l110) 111 l111) 108 l108) 107 l107) (u (u (u (u (u (u (shF F) 14 mg) 15 lo) 28 (N_Y A F 2)) 29 ac) 30 mg) 31 lo), 0, 0)) hc150 2 rfl trivial ?_
  refine R_reti hc150 rfl rfl ?_
  first
    | (exfalso; omega; done)
    | exact ⟨rfl, (u (u (u (u (u (u (u (u (u (u (u (u (u (u (u A 8 l8) 9 l9) 10 l10) 11 l11) 75 l75) 76 l76) 77 l77) 78 l78) 109 l109) 104 l104) 105 l105) 110 l110) 111 l111) 108 l108) 107 l107), (u (u (u (u (u (u F 14 mg) 15 lo) 28 (N_Y A F 2)) 29 ac) 30 mg) 31 lo), rfl, rfl, ⟨(LENS_u (LENS_u (LENS_u (LENS_u (LENS_u (LENS_u (LENS_u (LENS_u (LENS_u (LENS_u (LENS_u (LENS_u (LENS_u (LENS_u (LENS_u hL (by show (l8).length = (A 8).length; rw [k8, hL 8 (by decide)]; rfl)) (by show (l9).length = (A 9).length; rw [k9, hL 9 (by decide)]; rfl)) (by show (l10).length = (A 10).length; rw [k10, hL 10 (by decide)]; rfl)) (by show (l11).length = (A 11).length; rw [k11, hL 11 (by decide)]; rfl)) (by show (l75).length = (A 75).length; rw [k75, hL 75 (by decide)]; rfl)) (by show (l76).length = (A 76).length; rw [k76, hL 76 (by decide)]; rfl)) (by show (l77).length = (A 77).length; rw [k77, hL 77 (by decide)]; rfl)) (by show (l78).length = (A 78).length; rw [k78, hL 78 (by decide)]; rfl)) (by show (l109).length = (A 109).length; rw [k109, hL 109 (by decide)]; rfl)) (by show (l104).length = (A 104).length; rw [k104, hL 104 (by decide)]; rfl)) (by show (l105).length = (A 105).length; rw [k105, hL 105 (by decide)]; rfl)) (by show (l110).length = (A 110).length; rw [k110, hL 110 (by decide)]; rfl)) (by show (l111).length = (A 111).length; rw [k111, hL 111 (by decide)]; rfl)) (by show (l108).length = (A 108).length; rw [k108, hL 108 (by decide)]; rfl)) (by show (l107).length = (A 107).length; rw [k107, hL 107 (by decide)]; rfl)), hR0.2.1, hR0.2.2.1, hR0.2.2.2.1, hR0.2.2.2.2.1, hR0.2.2.2.2.2.1, hR0.2.2.2.2.2.2.1, hR0.2.2.2.2.2.2.2.1, hR0.2.2.2.2.2.2.2.2.1, (REFU_c hR0.2.2.2.2.2.2.2.2.2)⟩⟩

theorem op_left_3 {c : Int} {A : Nat → List Int} {F : Nat → Int} (hR : REL c A F) (hc : c < 512) (hd : (3 : Int) < F 0) : R 76 (0, L0 76 [vR 1, vI 3], [], LAY (shA A) (shF F), 0, 0) (fun r G => (∃ x, r = some (vI x)) ∧ (∃ (A1 : Nat → List Int) (F1 : Nat → Int), G = LAY A1 F1 ∧ A1 0 = A 0) ∧ R 150 (0, L0 150 [vR 88, vI 3], [], G, 0, 0) (fun r2 G2 => r2 = r ∧ ∃ (A' : Nat → List Int) (F' : Nat → Int), G2 = LAY (shA A') (shF F') ∧ A' 0 = A 0 ∧ REL (c + 1) A' F')) := by
  have hR0 := hR
  obtain ⟨hL, hPE, hTH, hTP, hDE, hLE, hNO, hAC, hRO, hRE⟩ := hR
  have h87 : (A 87).length = 9 := hL 87 (by decide)
  have h99 : (A 99).length = 6 := hL 99 (by decide)
  have r2 := REFU_at hRE (k := 2) (by decide) (by decide) hc
  have r3 := REFU_at hRE (k := 3) (by decide) (by decide) hc
  have r4 := REFU_at hRE (k := 4) (by decide) (by decide) hc
  have r5 := REFU_at hRE (k := 5) (by decide) (by decide) hc
  have r6 := REFU_at hRE (k := 6) (by decide) (by decide) hc
  have r7 := REFU_at hRE (k := 7) (by decide) (by decide) hc
  have r8 := REFU_at hRE (k := 8) (by decide) (by decide) hc
  obtain ⟨t1, t2, t3, t4, t5, t6⟩ := hTH
  obtain ⟨p1, p2, p3, p4, p5, p6⟩ := hPE
  have hD := D_at3 hR0 hd
  have he1 := hD.1.1
  have he2 := hD.1.2.1
  have hme : rd (A 99) 3 = F 11 := by
    have := hD.2.2.2.2.1
    omega
  obtain ⟨so, te, tp, mg, pm, lo, hS⟩ := SPL_ex A F (N_al A F) (N_Q A 48) (F 11).toNat (N_Y A F 3)
  refine R_s (P := True) (f' := (2, [some (vR 1), some (vI 3), none], [vI 3, vR 1], LAY (shA A) (shF F), 0, 0)) hc76 2 rfl trivial ?_
  refine R_cv hc76 rfl rfl ?_ (fun r G h => h)
  refine R_s (P := True) (f' := (2, [some (vR 1), some (vI 3)], [vI 3, vR 1], LAY (shA A) (shF F), 0, 0)) hc99 2 rfl trivial ?_
  refine R_cv hc99 rfl rfl ?_ (fun r G h => h)
  refine R_s (P := True) (f' := (1, [some (vR 1), some (vI 3)], [vI 3], LAY (shA A) (shF F), 0, 0)) hc98 1 rfl trivial ?_
  refine R_if (t := 16) hc98 rfl rfl (fun (z : 3 < 0) => absurd z (by decide)) (fun (_ : ¬ (3 < 0)) => ?_)
  refine R_s (P := True) (f' := (9, [some (vR 1), some (vI 3)], [vI (F 0), vI 3], LAY (shA A) (shF F), 0, 0)) hc98 3 rfl trivial ?_
  refine R_ic (t := 16) hc98 rfl rfl (fun (z : F 0 ≤ 3) => absurd z (by omega)) (fun (_ : ¬ (F 0 ≤ 3)) => ?_)
  refine R_s (P := True) (f' := (17, [some (vR 1), some (vI 3)], [vI 1], LAY (shA A) (shF F), 0, 0)) hc98 2 rfl trivial ?_
  refine R_retz hc98 rfl rfl (Or.inr rfl) ?_
  refine R_s (f' := (5, [some (vR 1), some (vI 3)], [vI 1], LAY (shA A) (shF F), 0, 0)) hc99 0 rfl trivial ?_
  refine R_if (t := 17) hc99 rfl rfl (fun (z : 1 = 0) => absurd z (by decide)) (fun (_ : ¬ (1 = 0)) => ?_)
  refine R_s (P := (0 ≤ (3 : Int) ∧ (3 : Int) < (([some 20, some 29, some 38, some 47, some 56, some 65] : List (Option Nat)).length : Int)) ∧ True) (f' := (18, [some (vR 1), some (vI 3)], [vR 47], LAY (shA A) (shF F), 0, 0)) hc99 5 rfl ⟨(by decide), trivial⟩ ?_
  refine R_reta hc99 rfl rfl ?_
  refine R_s (f' := (5, [some (vR 1), some (vI 3), none], [vR 47], LAY (shA A) (shF F), 0, 0)) hc76 0 rfl trivial ?_
  refine R_s (P := True) (f' := (20, [some (vR 1), some (vI 3), some (vR 47)], [vI 3, vR 47, vR 1], LAY (shA A) (shF F), 0, 0)) hc76 6 rfl trivial ?_
  refine R_cv hc76 rfl rfl (l_now3 hR0 hd hS) (fun r G9 hp9 => ?_)
  obtain ⟨rfl, l8, l9, l10, l11, l75, l76, l77, l78, rfl, k8, k9, k10, k11, k75, k76, k77, k78, v75, v76, v77⟩ := hp9
  refine R_s (f' := (23, [some (vR 1), some (vI 3), some (vR 47)], [], LAY (u (u (u (u (u (u (u (u (shA A) 8 l8) 9 l9) 10 l10) 11 l11) 75 l75) 76 l76) 77 l77) 78 l78) (u (u (shF F) 14 mg) 15 lo), 0, 0)) hc76 0 rfl trivial ?_
  refine R_s (P := True) (f' := (30, [some (vR 1), some (vI 3), some (vR 47)], [vI lo], LAY (u (u (u (u (u (u (u (u (shA A) 8 l8) 9 l9) 10 l10) 11 l11) 75 l75) 76 l76) 77 l77) 78 l78) (u (u (shF F) 14 mg) 15 lo), 0, 0)) hc76 3 rfl trivial ?_
  refine R_reti hc76 rfl rfl ⟨⟨_, rfl⟩, ⟨_, _, rfl, rfl⟩, ?_⟩
  refine R_s (P := True) (f' := (2, [some (vR 88), some (vI 3)], [vI 3, vR 88], LAY (u (u (u (u (u (u (u (u (shA A) 8 l8) 9 l9) 10 l10) 11 l11) 75 l75) 76 l76) 77 l77) 78 l78) (u (u (shF F) 14 mg) 15 lo), 0, 0)) hc150 2 rfl trivial ?_
  refine R_cv hc150 rfl rfl ?_ (fun r G h => h)
  refine R_s (P := inI ((F 0) - 1) ∧ True) (f' := (8, [some (vR 88), some (vI 3)], [vI ((F 0) - 1), vI 0, vI 3], LAY (u (u (u (u (u (u (u (u (shA A) 8 l8) 9 l9) 10 l10) 11 l11) 75 l75) 76 l76) 77 l77) 78 l78) (u (u (shF F) 14 mg) 15 lo), 0, 0)) hc108 6 rfl ⟨⟨by omega, by omega⟩, trivial⟩ ?_
  refine R_cs hc108 rfl rfl ?_ (fun r G h => h)
  refine R_s (P := True) (f' := (2, [some (vI 3), some (vI 0), some (vI ((F 0) - 1))], [vI 0, vI 3], LAY (u (u (u (u (u (u (u (u (shA A) 8 l8) 9 l9) 10 l10) 11 l11) 75 l75) 76 l76) 77 l77) 78 l78) (u (u (shF F) 14 mg) 15 lo), 0, 0)) hc104 2 rfl trivial ?_
  refine R_ic (t := 14) hc104 rfl rfl (fun (z : 3 < 0) => absurd z (by decide)) (fun (_ : ¬ (3 < 0)) => ?_)
  refine R_s (P := True) (f' := (7, [some (vI 3), some (vI 0), some (vI ((F 0) - 1))], [vI ((F 0) - 1), vI 3], LAY (u (u (u (u (u (u (u (u (shA A) 8 l8) 9 l9) 10 l10) 11 l11) 75 l75) 76 l76) 77 l77) 78 l78) (u (u (shF F) 14 mg) 15 lo), 0, 0)) hc104 2 rfl trivial ?_
  refine R_ic (t := 14) hc104 rfl rfl (fun (z : (F 0) - 1 < 3) => absurd z (by omega)) (fun (_ : ¬ ((F 0) - 1 < 3)) => ?_)
  refine R_s (P := True) (f' := (15, [some (vI 3), some (vI 0), some (vI ((F 0) - 1))], [vI 1], LAY (u (u (u (u (u (u (u (u (shA A) 8 l8) 9 l9) 10 l10) 11 l11) 75 l75) 76 l76) 77 l77) 78 l78) (u (u (shF F) 14 mg) 15 lo), 0, 0)) hc104 2 rfl trivial ?_
  refine R_retz hc104 rfl rfl (Or.inr rfl) ?_
  refine R_s (f' := (11, [some (vR 88), some (vI 3)], [vI 1], LAY (u (u (u (u (u (u (u (u (shA A) 8 l8) 9 l9) 10 l10) 11 l11) 75 l75) 76 l76) 77 l77) 78 l78) (u (u (shF F) 14 mg) 15 lo), 0, 0)) hc108 0 rfl trivial ?_
  refine R_retz hc108 rfl rfl (Or.inr rfl) ?_
  refine R_s (f' := (5, [some (vR 88), some (vI 3)], [vI 1], LAY (u (u (u (u (u (u (u (u (shA A) 8 l8) 9 l9) 10 l10) 11 l11) 75 l75) 76 l76) 77 l77) 78 l78) (u (u (shF F) 14 mg) 15 lo), 0, 0)) hc150 0 rfl trivial ?_
  refine R_if (t := 15) hc150 rfl rfl (fun (_ : ¬ 1 = 0) => ?_) (fun (z : ¬ (¬ 1 = 0)) => absurd (by decide) z)
  refine R_s (P := True) (f' := (17, [some (vR 88), some (vI 3)], [vI 3, vR 88], LAY (u (u (u (u (u (u (u (u (shA A) 8 l8) 9 l9) 10 l10) 11 l11) 75 l75) 76 l76) 77 l77) 78 l78) (u (u (shF F) 14 mg) 15 lo), 0, 0)) hc150 2 rfl trivial ?_
  refine R_cv hc150 rfl rfl (l_worksR hR0 (A1 := (u (u (u (u (u (u (u (u (shA A) 8 l8) 9 l9) 10 l10) 11 l11) 75 l75) 76 l76) 77 l77) 78 l78)) (F1 := (u (u (shF F) 14 mg) 15 lo)) rfl rfl rfl rfl rfl rfl rfl rfl rfl rfl rfl rfl rfl (hL 104 (by decide)) (hL 105 (by decide)) (hL 107 (by decide)) (hL 108 (by decide)) (hL 109 (by decide)) (hL 110 (by decide)) (hL 111 (by decide)) hD.1 hD.2 rfl hS) (fun r G9 hp9 => ?_)
  obtain ⟨rfl, l104, l105, l107, l108, l109, l110, l111, ac, rfl, k104, k105, k107, k108, k109, k110, k111, hac, w107, w108⟩ := hp9
  refine R_s (f' := (20, [some (vR 88), some (vI 3)], [], LAY (u (u (u (u (u (u (u (u (u (u (u (u (u (u (u (shA A) 8 l8) 9 l9) 10 l10) 11 l11) 75 l75) 76 l76) 77 l77) 78 l78) 109 l109) 104 l104) 105 l105) 110 l110) 111 l111) 108 l108) 107 l107) (u (u (u (u (u (u (shF F) 14 mg) 15 lo) 28 (N_Y A F 3)) 29 ac) 30 mg) 31 lo), 0, 0)) hc150 0 rfl trivial ?_
  refine R_s (P := True) (f' := (24, [some (vR 88), some (vI 3)], [vI lo], LAY (u (u (u (u (u (u (u (u (u (u (u (u (u (u (u (shA A) 8 l8) 9 l9) 10 l10) 11 l11) 75 l75) 76 l76) 77 l77) 78 l78) 109 l109) 104 l104) 105 l105) 110 l110) 111 l111) 108 l108) 107 l107) (u (u (u (u (u (u (shF F) 14 mg) 15 lo) 28 (N_Y A F 3)) 29 ac) 30 mg) 31 lo), 0, 0)) hc150 2 rfl trivial ?_
  refine R_reti hc150 rfl rfl ?_
  first
    | (exfalso; omega; done)
    | exact ⟨rfl, (u (u (u (u (u (u (u (u (u (u (u (u (u (u (u A 8 l8) 9 l9) 10 l10) 11 l11) 75 l75) 76 l76) 77 l77) 78 l78) 109 l109) 104 l104) 105 l105) 110 l110) 111 l111) 108 l108) 107 l107), (u (u (u (u (u (u F 14 mg) 15 lo) 28 (N_Y A F 3)) 29 ac) 30 mg) 31 lo), rfl, rfl, ⟨(LENS_u (LENS_u (LENS_u (LENS_u (LENS_u (LENS_u (LENS_u (LENS_u (LENS_u (LENS_u (LENS_u (LENS_u (LENS_u (LENS_u (LENS_u hL (by show (l8).length = (A 8).length; rw [k8, hL 8 (by decide)]; rfl)) (by show (l9).length = (A 9).length; rw [k9, hL 9 (by decide)]; rfl)) (by show (l10).length = (A 10).length; rw [k10, hL 10 (by decide)]; rfl)) (by show (l11).length = (A 11).length; rw [k11, hL 11 (by decide)]; rfl)) (by show (l75).length = (A 75).length; rw [k75, hL 75 (by decide)]; rfl)) (by show (l76).length = (A 76).length; rw [k76, hL 76 (by decide)]; rfl)) (by show (l77).length = (A 77).length; rw [k77, hL 77 (by decide)]; rfl)) (by show (l78).length = (A 78).length; rw [k78, hL 78 (by decide)]; rfl)) (by show (l109).length = (A 109).length; rw [k109, hL 109 (by decide)]; rfl)) (by show (l104).length = (A 104).length; rw [k104, hL 104 (by decide)]; rfl)) (by show (l105).length = (A 105).length; rw [k105, hL 105 (by decide)]; rfl)) (by show (l110).length = (A 110).length; rw [k110, hL 110 (by decide)]; rfl)) (by show (l111).length = (A 111).length; rw [k111, hL 111 (by decide)]; rfl)) (by show (l108).length = (A 108).length; rw [k108, hL 108 (by decide)]; rfl)) (by show (l107).length = (A 107).length; rw [k107, hL 107 (by decide)]; rfl)), hR0.2.1, hR0.2.2.1, hR0.2.2.2.1, hR0.2.2.2.2.1, hR0.2.2.2.2.2.1, hR0.2.2.2.2.2.2.1, hR0.2.2.2.2.2.2.2.1, hR0.2.2.2.2.2.2.2.2.1, (REFU_c hR0.2.2.2.2.2.2.2.2.2)⟩⟩

theorem op_left_4 {c : Int} {A : Nat → List Int} {F : Nat → Int} (hR : REL c A F) (hc : c < 512) (hd : (4 : Int) < F 0) : R 76 (0, L0 76 [vR 1, vI 4], [], LAY (shA A) (shF F), 0, 0) (fun r G => (∃ x, r = some (vI x)) ∧ (∃ (A1 : Nat → List Int) (F1 : Nat → Int), G = LAY A1 F1 ∧ A1 0 = A 0) ∧ R 150 (0, L0 150 [vR 88, vI 4], [], G, 0, 0) (fun r2 G2 => r2 = r ∧ ∃ (A' : Nat → List Int) (F' : Nat → Int), G2 = LAY (shA A') (shF F') ∧ A' 0 = A 0 ∧ REL (c + 1) A' F')) := by
  have hR0 := hR
  obtain ⟨hL, hPE, hTH, hTP, hDE, hLE, hNO, hAC, hRO, hRE⟩ := hR
  have h87 : (A 87).length = 9 := hL 87 (by decide)
  have h99 : (A 99).length = 6 := hL 99 (by decide)
  have r2 := REFU_at hRE (k := 2) (by decide) (by decide) hc
  have r3 := REFU_at hRE (k := 3) (by decide) (by decide) hc
  have r4 := REFU_at hRE (k := 4) (by decide) (by decide) hc
  have r5 := REFU_at hRE (k := 5) (by decide) (by decide) hc
  have r6 := REFU_at hRE (k := 6) (by decide) (by decide) hc
  have r7 := REFU_at hRE (k := 7) (by decide) (by decide) hc
  have r8 := REFU_at hRE (k := 8) (by decide) (by decide) hc
  obtain ⟨t1, t2, t3, t4, t5, t6⟩ := hTH
  obtain ⟨p1, p2, p3, p4, p5, p6⟩ := hPE
  have hD := D_at4 hR0 hd
  have he1 := hD.1.1
  have he2 := hD.1.2.1
  have hme : rd (A 99) 4 = F 12 := by
    have := hD.2.2.2.2.1
    omega
  obtain ⟨so, te, tp, mg, pm, lo, hS⟩ := SPL_ex A F (N_al A F) (N_Q A 57) (F 12).toNat (N_Y A F 4)
  refine R_s (P := True) (f' := (2, [some (vR 1), some (vI 4), none], [vI 4, vR 1], LAY (shA A) (shF F), 0, 0)) hc76 2 rfl trivial ?_
  refine R_cv hc76 rfl rfl ?_ (fun r G h => h)
  refine R_s (P := True) (f' := (2, [some (vR 1), some (vI 4)], [vI 4, vR 1], LAY (shA A) (shF F), 0, 0)) hc99 2 rfl trivial ?_
  refine R_cv hc99 rfl rfl ?_ (fun r G h => h)
  refine R_s (P := True) (f' := (1, [some (vR 1), some (vI 4)], [vI 4], LAY (shA A) (shF F), 0, 0)) hc98 1 rfl trivial ?_
  refine R_if (t := 16) hc98 rfl rfl (fun (z : 4 < 0) => absurd z (by decide)) (fun (_ : ¬ (4 < 0)) => ?_)
  refine R_s (P := True) (f' := (9, [some (vR 1), some (vI 4)], [vI (F 0), vI 4], LAY (shA A) (shF F), 0, 0)) hc98 3 rfl trivial ?_
  refine R_ic (t := 16) hc98 rfl rfl (fun (z : F 0 ≤ 4) => absurd z (by omega)) (fun (_ : ¬ (F 0 ≤ 4)) => ?_)
  refine R_s (P := True) (f' := (17, [some (vR 1), some (vI 4)], [vI 1], LAY (shA A) (shF F), 0, 0)) hc98 2 rfl trivial ?_
  refine R_retz hc98 rfl rfl (Or.inr rfl) ?_
  refine R_s (f' := (5, [some (vR 1), some (vI 4)], [vI 1], LAY (shA A) (shF F), 0, 0)) hc99 0 rfl trivial ?_
  refine R_if (t := 17) hc99 rfl rfl (fun (z : 1 = 0) => absurd z (by decide)) (fun (_ : ¬ (1 = 0)) => ?_)
  refine R_s (P := (0 ≤ (4 : Int) ∧ (4 : Int) < (([some 20, some 29, some 38, some 47, some 56, some 65] : List (Option Nat)).length : Int)) ∧ True) (f' := (18, [some (vR 1), some (vI 4)], [vR 56], LAY (shA A) (shF F), 0, 0)) hc99 5 rfl ⟨(by decide), trivial⟩ ?_
  refine R_reta hc99 rfl rfl ?_
  refine R_s (f' := (5, [some (vR 1), some (vI 4), none], [vR 56], LAY (shA A) (shF F), 0, 0)) hc76 0 rfl trivial ?_
  refine R_s (P := True) (f' := (20, [some (vR 1), some (vI 4), some (vR 56)], [vI 4, vR 56, vR 1], LAY (shA A) (shF F), 0, 0)) hc76 6 rfl trivial ?_
  refine R_cv hc76 rfl rfl (l_now4 hR0 hd hS) (fun r G9 hp9 => ?_)
  obtain ⟨rfl, l8, l9, l10, l11, l75, l76, l77, l78, rfl, k8, k9, k10, k11, k75, k76, k77, k78, v75, v76, v77⟩ := hp9
  refine R_s (f' := (23, [some (vR 1), some (vI 4), some (vR 56)], [], LAY (u (u (u (u (u (u (u (u (shA A) 8 l8) 9 l9) 10 l10) 11 l11) 75 l75) 76 l76) 77 l77) 78 l78) (u (u (shF F) 14 mg) 15 lo), 0, 0)) hc76 0 rfl trivial ?_
  refine R_s (P := True) (f' := (30, [some (vR 1), some (vI 4), some (vR 56)], [vI lo], LAY (u (u (u (u (u (u (u (u (shA A) 8 l8) 9 l9) 10 l10) 11 l11) 75 l75) 76 l76) 77 l77) 78 l78) (u (u (shF F) 14 mg) 15 lo), 0, 0)) hc76 3 rfl trivial ?_
  refine R_reti hc76 rfl rfl ⟨⟨_, rfl⟩, ⟨_, _, rfl, rfl⟩, ?_⟩
  refine R_s (P := True) (f' := (2, [some (vR 88), some (vI 4)], [vI 4, vR 88], LAY (u (u (u (u (u (u (u (u (shA A) 8 l8) 9 l9) 10 l10) 11 l11) 75 l75) 76 l76) 77 l77) 78 l78) (u (u (shF F) 14 mg) 15 lo), 0, 0)) hc150 2 rfl trivial ?_
  refine R_cv hc150 rfl rfl ?_ (fun r G h => h)
  refine R_s (P := inI ((F 0) - 1) ∧ True) (f' := (8, [some (vR 88), some (vI 4)], [vI ((F 0) - 1), vI 0, vI 4], LAY (u (u (u (u (u (u (u (u (shA A) 8 l8) 9 l9) 10 l10) 11 l11) 75 l75) 76 l76) 77 l77) 78 l78) (u (u (shF F) 14 mg) 15 lo), 0, 0)) hc108 6 rfl ⟨⟨by omega, by omega⟩, trivial⟩ ?_
  refine R_cs hc108 rfl rfl ?_ (fun r G h => h)
  refine R_s (P := True) (f' := (2, [some (vI 4), some (vI 0), some (vI ((F 0) - 1))], [vI 0, vI 4], LAY (u (u (u (u (u (u (u (u (shA A) 8 l8) 9 l9) 10 l10) 11 l11) 75 l75) 76 l76) 77 l77) 78 l78) (u (u (shF F) 14 mg) 15 lo), 0, 0)) hc104 2 rfl trivial ?_
  refine R_ic (t := 14) hc104 rfl rfl (fun (z : 4 < 0) => absurd z (by decide)) (fun (_ : ¬ (4 < 0)) => ?_)
  refine R_s (P := True) (f' := (7, [some (vI 4), some (vI 0), some (vI ((F 0) - 1))], [vI ((F 0) - 1), vI 4], LAY (u (u (u (u (u (u (u (u (shA A) 8 l8) 9 l9) 10 l10) 11 l11) 75 l75) 76 l76) 77 l77) 78 l78) (u (u (shF F) 14 mg) 15 lo), 0, 0)) hc104 2 rfl trivial ?_
  refine R_ic (t := 14) hc104 rfl rfl (fun (z : (F 0) - 1 < 4) => absurd z (by omega)) (fun (_ : ¬ ((F 0) - 1 < 4)) => ?_)
  refine R_s (P := True) (f' := (15, [some (vI 4), some (vI 0), some (vI ((F 0) - 1))], [vI 1], LAY (u (u (u (u (u (u (u (u (shA A) 8 l8) 9 l9) 10 l10) 11 l11) 75 l75) 76 l76) 77 l77) 78 l78) (u (u (shF F) 14 mg) 15 lo), 0, 0)) hc104 2 rfl trivial ?_
  refine R_retz hc104 rfl rfl (Or.inr rfl) ?_
  refine R_s (f' := (11, [some (vR 88), some (vI 4)], [vI 1], LAY (u (u (u (u (u (u (u (u (shA A) 8 l8) 9 l9) 10 l10) 11 l11) 75 l75) 76 l76) 77 l77) 78 l78) (u (u (shF F) 14 mg) 15 lo), 0, 0)) hc108 0 rfl trivial ?_
  refine R_retz hc108 rfl rfl (Or.inr rfl) ?_
  refine R_s (f' := (5, [some (vR 88), some (vI 4)], [vI 1], LAY (u (u (u (u (u (u (u (u (shA A) 8 l8) 9 l9) 10 l10) 11 l11) 75 l75) 76 l76) 77 l77) 78 l78) (u (u (shF F) 14 mg) 15 lo), 0, 0)) hc150 0 rfl trivial ?_
  refine R_if (t := 15) hc150 rfl rfl (fun (_ : ¬ 1 = 0) => ?_) (fun (z : ¬ (¬ 1 = 0)) => absurd (by decide) z)
  refine R_s (P := True) (f' := (17, [some (vR 88), some (vI 4)], [vI 4, vR 88], LAY (u (u (u (u (u (u (u (u (shA A) 8 l8) 9 l9) 10 l10) 11 l11) 75 l75) 76 l76) 77 l77) 78 l78) (u (u (shF F) 14 mg) 15 lo), 0, 0)) hc150 2 rfl trivial ?_
  refine R_cv hc150 rfl rfl (l_worksR hR0 (A1 := (u (u (u (u (u (u (u (u (shA A) 8 l8) 9 l9) 10 l10) 11 l11) 75 l75) 76 l76) 77 l77) 78 l78)) (F1 := (u (u (shF F) 14 mg) 15 lo)) rfl rfl rfl rfl rfl rfl rfl rfl rfl rfl rfl rfl rfl (hL 104 (by decide)) (hL 105 (by decide)) (hL 107 (by decide)) (hL 108 (by decide)) (hL 109 (by decide)) (hL 110 (by decide)) (hL 111 (by decide)) hD.1 hD.2 rfl hS) (fun r G9 hp9 => ?_)
  obtain ⟨rfl, l104, l105, l107, l108, l109, l110, l111, ac, rfl, k104, k105, k107, k108, k109, k110, k111, hac, w107, w108⟩ := hp9
  refine R_s (f' := (20, [some (vR 88), some (vI 4)], [], LAY (u (u (u (u (u (u (u (u (u (u (u (u (u (u (u (shA A) 8 l8) 9 l9) 10 l10) 11 l11) 75 l75) 76 l76) 77 l77) 78 l78) 109 l109) 104 l104) 105 l105) 110 l110) 111 l111) 108 l108) 107 l107) (u (u (u (u (u (u (shF F) 14 mg) 15 lo) 28 (N_Y A F 4)) 29 ac) 30 mg) 31 lo), 0, 0)) hc150 0 rfl trivial ?_
  refine R_s (P := True) (f' := (24, [some (vR 88), some (vI 4)], [vI lo], LAY (u (u (u (u (u (u (u (u (u (u (u (u (u (u (u (shA A) 8 l8) 9 l9) 10 l10) 11 l11) 75 l75) 76 l76) 77 l77) 78 l78) 109 l109) 104 l104) 105 l105) 110 l110) 111 l111) 108 l108) 107 l107) (u (u (u (u (u (u (shF F) 14 mg) 15 lo) 28 (N_Y A F 4)) 29 ac) 30 mg) 31 lo), 0, 0)) hc150 2 rfl trivial ?_
  refine R_reti hc150 rfl rfl ?_
  first
    | (exfalso; omega; done)
    | exact ⟨rfl, (u (u (u (u (u (u (u (u (u (u (u (u (u (u (u A 8 l8) 9 l9) 10 l10) 11 l11) 75 l75) 76 l76) 77 l77) 78 l78) 109 l109) 104 l104) 105 l105) 110 l110) 111 l111) 108 l108) 107 l107), (u (u (u (u (u (u F 14 mg) 15 lo) 28 (N_Y A F 4)) 29 ac) 30 mg) 31 lo), rfl, rfl, ⟨(LENS_u (LENS_u (LENS_u (LENS_u (LENS_u (LENS_u (LENS_u (LENS_u (LENS_u (LENS_u (LENS_u (LENS_u (LENS_u (LENS_u (LENS_u hL (by show (l8).length = (A 8).length; rw [k8, hL 8 (by decide)]; rfl)) (by show (l9).length = (A 9).length; rw [k9, hL 9 (by decide)]; rfl)) (by show (l10).length = (A 10).length; rw [k10, hL 10 (by decide)]; rfl)) (by show (l11).length = (A 11).length; rw [k11, hL 11 (by decide)]; rfl)) (by show (l75).length = (A 75).length; rw [k75, hL 75 (by decide)]; rfl)) (by show (l76).length = (A 76).length; rw [k76, hL 76 (by decide)]; rfl)) (by show (l77).length = (A 77).length; rw [k77, hL 77 (by decide)]; rfl)) (by show (l78).length = (A 78).length; rw [k78, hL 78 (by decide)]; rfl)) (by show (l109).length = (A 109).length; rw [k109, hL 109 (by decide)]; rfl)) (by show (l104).length = (A 104).length; rw [k104, hL 104 (by decide)]; rfl)) (by show (l105).length = (A 105).length; rw [k105, hL 105 (by decide)]; rfl)) (by show (l110).length = (A 110).length; rw [k110, hL 110 (by decide)]; rfl)) (by show (l111).length = (A 111).length; rw [k111, hL 111 (by decide)]; rfl)) (by show (l108).length = (A 108).length; rw [k108, hL 108 (by decide)]; rfl)) (by show (l107).length = (A 107).length; rw [k107, hL 107 (by decide)]; rfl)), hR0.2.1, hR0.2.2.1, hR0.2.2.2.1, hR0.2.2.2.2.1, hR0.2.2.2.2.2.1, hR0.2.2.2.2.2.2.1, hR0.2.2.2.2.2.2.2.1, hR0.2.2.2.2.2.2.2.2.1, (REFU_c hR0.2.2.2.2.2.2.2.2.2)⟩⟩

theorem op_left_5 {c : Int} {A : Nat → List Int} {F : Nat → Int} (hR : REL c A F) (hc : c < 512) (hd : (5 : Int) < F 0) : R 76 (0, L0 76 [vR 1, vI 5], [], LAY (shA A) (shF F), 0, 0) (fun r G => (∃ x, r = some (vI x)) ∧ (∃ (A1 : Nat → List Int) (F1 : Nat → Int), G = LAY A1 F1 ∧ A1 0 = A 0) ∧ R 150 (0, L0 150 [vR 88, vI 5], [], G, 0, 0) (fun r2 G2 => r2 = r ∧ ∃ (A' : Nat → List Int) (F' : Nat → Int), G2 = LAY (shA A') (shF F') ∧ A' 0 = A 0 ∧ REL (c + 1) A' F')) := by
  have hR0 := hR
  obtain ⟨hL, hPE, hTH, hTP, hDE, hLE, hNO, hAC, hRO, hRE⟩ := hR
  have h87 : (A 87).length = 9 := hL 87 (by decide)
  have h99 : (A 99).length = 6 := hL 99 (by decide)
  have r2 := REFU_at hRE (k := 2) (by decide) (by decide) hc
  have r3 := REFU_at hRE (k := 3) (by decide) (by decide) hc
  have r4 := REFU_at hRE (k := 4) (by decide) (by decide) hc
  have r5 := REFU_at hRE (k := 5) (by decide) (by decide) hc
  have r6 := REFU_at hRE (k := 6) (by decide) (by decide) hc
  have r7 := REFU_at hRE (k := 7) (by decide) (by decide) hc
  have r8 := REFU_at hRE (k := 8) (by decide) (by decide) hc
  obtain ⟨t1, t2, t3, t4, t5, t6⟩ := hTH
  obtain ⟨p1, p2, p3, p4, p5, p6⟩ := hPE
  have hD := D_at5 hR0 hd
  have he1 := hD.1.1
  have he2 := hD.1.2.1
  have hme : rd (A 99) 5 = F 13 := by
    have := hD.2.2.2.2.1
    omega
  obtain ⟨so, te, tp, mg, pm, lo, hS⟩ := SPL_ex A F (N_al A F) (N_Q A 66) (F 13).toNat (N_Y A F 5)
  refine R_s (P := True) (f' := (2, [some (vR 1), some (vI 5), none], [vI 5, vR 1], LAY (shA A) (shF F), 0, 0)) hc76 2 rfl trivial ?_
  refine R_cv hc76 rfl rfl ?_ (fun r G h => h)
  refine R_s (P := True) (f' := (2, [some (vR 1), some (vI 5)], [vI 5, vR 1], LAY (shA A) (shF F), 0, 0)) hc99 2 rfl trivial ?_
  refine R_cv hc99 rfl rfl ?_ (fun r G h => h)
  refine R_s (P := True) (f' := (1, [some (vR 1), some (vI 5)], [vI 5], LAY (shA A) (shF F), 0, 0)) hc98 1 rfl trivial ?_
  refine R_if (t := 16) hc98 rfl rfl (fun (z : 5 < 0) => absurd z (by decide)) (fun (_ : ¬ (5 < 0)) => ?_)
  refine R_s (P := True) (f' := (9, [some (vR 1), some (vI 5)], [vI (F 0), vI 5], LAY (shA A) (shF F), 0, 0)) hc98 3 rfl trivial ?_
  refine R_ic (t := 16) hc98 rfl rfl (fun (z : F 0 ≤ 5) => absurd z (by omega)) (fun (_ : ¬ (F 0 ≤ 5)) => ?_)
  refine R_s (P := True) (f' := (17, [some (vR 1), some (vI 5)], [vI 1], LAY (shA A) (shF F), 0, 0)) hc98 2 rfl trivial ?_
  refine R_retz hc98 rfl rfl (Or.inr rfl) ?_
  refine R_s (f' := (5, [some (vR 1), some (vI 5)], [vI 1], LAY (shA A) (shF F), 0, 0)) hc99 0 rfl trivial ?_
  refine R_if (t := 17) hc99 rfl rfl (fun (z : 1 = 0) => absurd z (by decide)) (fun (_ : ¬ (1 = 0)) => ?_)
  refine R_s (P := (0 ≤ (5 : Int) ∧ (5 : Int) < (([some 20, some 29, some 38, some 47, some 56, some 65] : List (Option Nat)).length : Int)) ∧ True) (f' := (18, [some (vR 1), some (vI 5)], [vR 65], LAY (shA A) (shF F), 0, 0)) hc99 5 rfl ⟨(by decide), trivial⟩ ?_
  refine R_reta hc99 rfl rfl ?_
  refine R_s (f' := (5, [some (vR 1), some (vI 5), none], [vR 65], LAY (shA A) (shF F), 0, 0)) hc76 0 rfl trivial ?_
  refine R_s (P := True) (f' := (20, [some (vR 1), some (vI 5), some (vR 65)], [vI 5, vR 65, vR 1], LAY (shA A) (shF F), 0, 0)) hc76 6 rfl trivial ?_
  refine R_cv hc76 rfl rfl (l_now5 hR0 hd hS) (fun r G9 hp9 => ?_)
  obtain ⟨rfl, l8, l9, l10, l11, l75, l76, l77, l78, rfl, k8, k9, k10, k11, k75, k76, k77, k78, v75, v76, v77⟩ := hp9
  refine R_s (f' := (23, [some (vR 1), some (vI 5), some (vR 65)], [], LAY (u (u (u (u (u (u (u (u (shA A) 8 l8) 9 l9) 10 l10) 11 l11) 75 l75) 76 l76) 77 l77) 78 l78) (u (u (shF F) 14 mg) 15 lo), 0, 0)) hc76 0 rfl trivial ?_
  refine R_s (P := True) (f' := (30, [some (vR 1), some (vI 5), some (vR 65)], [vI lo], LAY (u (u (u (u (u (u (u (u (shA A) 8 l8) 9 l9) 10 l10) 11 l11) 75 l75) 76 l76) 77 l77) 78 l78) (u (u (shF F) 14 mg) 15 lo), 0, 0)) hc76 3 rfl trivial ?_
  refine R_reti hc76 rfl rfl ⟨⟨_, rfl⟩, ⟨_, _, rfl, rfl⟩, ?_⟩
  refine R_s (P := True) (f' := (2, [some (vR 88), some (vI 5)], [vI 5, vR 88], LAY (u (u (u (u (u (u (u (u (shA A) 8 l8) 9 l9) 10 l10) 11 l11) 75 l75) 76 l76) 77 l77) 78 l78) (u (u (shF F) 14 mg) 15 lo), 0, 0)) hc150 2 rfl trivial ?_
  refine R_cv hc150 rfl rfl ?_ (fun r G h => h)
  refine R_s (P := inI ((F 0) - 1) ∧ True) (f' := (8, [some (vR 88), some (vI 5)], [vI ((F 0) - 1), vI 0, vI 5], LAY (u (u (u (u (u (u (u (u (shA A) 8 l8) 9 l9) 10 l10) 11 l11) 75 l75) 76 l76) 77 l77) 78 l78) (u (u (shF F) 14 mg) 15 lo), 0, 0)) hc108 6 rfl ⟨⟨by omega, by omega⟩, trivial⟩ ?_
  refine R_cs hc108 rfl rfl ?_ (fun r G h => h)
  refine R_s (P := True) (f' := (2, [some (vI 5), some (vI 0), some (vI ((F 0) - 1))], [vI 0, vI 5], LAY (u (u (u (u (u (u (u (u (shA A) 8 l8) 9 l9) 10 l10) 11 l11) 75 l75) 76 l76) 77 l77) 78 l78) (u (u (shF F) 14 mg) 15 lo), 0, 0)) hc104 2 rfl trivial ?_
  refine R_ic (t := 14) hc104 rfl rfl (fun (z : 5 < 0) => absurd z (by decide)) (fun (_ : ¬ (5 < 0)) => ?_)
  refine R_s (P := True) (f' := (7, [some (vI 5), some (vI 0), some (vI ((F 0) - 1))], [vI ((F 0) - 1), vI 5], LAY (u (u (u (u (u (u (u (u (shA A) 8 l8) 9 l9) 10 l10) 11 l11) 75 l75) 76 l76) 77 l77) 78 l78) (u (u (shF F) 14 mg) 15 lo), 0, 0)) hc104 2 rfl trivial ?_
  refine R_ic (t := 14) hc104 rfl rfl (fun (z : (F 0) - 1 < 5) => absurd z (by omega)) (fun (_ : ¬ ((F 0) - 1 < 5)) => ?_)
  refine R_s (P := True) (f' := (15, [some (vI 5), some (vI 0), some (vI ((F 0) - 1))], [vI 1], LAY (u (u (u (u (u (u (u (u (shA A) 8 l8) 9 l9) 10 l10) 11 l11) 75 l75) 76 l76) 77 l77) 78 l78) (u (u (shF F) 14 mg) 15 lo), 0, 0)) hc104 2 rfl trivial ?_
  refine R_retz hc104 rfl rfl (Or.inr rfl) ?_
  refine R_s (f' := (11, [some (vR 88), some (vI 5)], [vI 1], LAY (u (u (u (u (u (u (u (u (shA A) 8 l8) 9 l9) 10 l10) 11 l11) 75 l75) 76 l76) 77 l77) 78 l78) (u (u (shF F) 14 mg) 15 lo), 0, 0)) hc108 0 rfl trivial ?_
  refine R_retz hc108 rfl rfl (Or.inr rfl) ?_
  refine R_s (f' := (5, [some (vR 88), some (vI 5)], [vI 1], LAY (u (u (u (u (u (u (u (u (shA A) 8 l8) 9 l9) 10 l10) 11 l11) 75 l75) 76 l76) 77 l77) 78 l78) (u (u (shF F) 14 mg) 15 lo), 0, 0)) hc150 0 rfl trivial ?_
  refine R_if (t := 15) hc150 rfl rfl (fun (_ : ¬ 1 = 0) => ?_) (fun (z : ¬ (¬ 1 = 0)) => absurd (by decide) z)
  refine R_s (P := True) (f' := (17, [some (vR 88), some (vI 5)], [vI 5, vR 88], LAY (u (u (u (u (u (u (u (u (shA A) 8 l8) 9 l9) 10 l10) 11 l11) 75 l75) 76 l76) 77 l77) 78 l78) (u (u (shF F) 14 mg) 15 lo), 0, 0)) hc150 2 rfl trivial ?_
  refine R_cv hc150 rfl rfl (l_worksR hR0 (A1 := (u (u (u (u (u (u (u (u (shA A) 8 l8) 9 l9) 10 l10) 11 l11) 75 l75) 76 l76) 77 l77) 78 l78)) (F1 := (u (u (shF F) 14 mg) 15 lo)) rfl rfl rfl rfl rfl rfl rfl rfl rfl rfl rfl rfl rfl (hL 104 (by decide)) (hL 105 (by decide)) (hL 107 (by decide)) (hL 108 (by decide)) (hL 109 (by decide)) (hL 110 (by decide)) (hL 111 (by decide)) hD.1 hD.2 rfl hS) (fun r G9 hp9 => ?_)
  obtain ⟨rfl, l104, l105, l107, l108, l109, l110, l111, ac, rfl, k104, k105, k107, k108, k109, k110, k111, hac, w107, w108⟩ := hp9
  refine R_s (f' := (20, [some (vR 88), some (vI 5)], [], LAY (u (u (u (u (u (u (u (u (u (u (u (u (u (u (u (shA A) 8 l8) 9 l9) 10 l10) 11 l11) 75 l75) 76 l76) 77 l77) 78 l78) 109 l109) 104 l104) 105 l105) 110 l110) 111 l111) 108 l108) 107 l107) (u (u (u (u (u (u (shF F) 14 mg) 15 lo) 28 (N_Y A F 5)) 29 ac) 30 mg) 31 lo), 0, 0)) hc150 0 rfl trivial ?_
  refine R_s (P := True) (f' := (24, [some (vR 88), some (vI 5)], [vI lo], LAY (u (u (u (u (u (u (u (u (u (u (u (u (u (u (u (shA A) 8 l8) 9 l9) 10 l10) 11 l11) 75 l75) 76 l76) 77 l77) 78 l78) 109 l109) 104 l104) 105 l105) 110 l110) 111 l111) 108 l108) 107 l107) (u (u (u (u (u (u (shF F) 14 mg) 15 lo) 28 (N_Y A F 5)) 29 ac) 30 mg) 31 lo), 0, 0)) hc150 2 rfl trivial ?_
  refine R_reti hc150 rfl rfl ?_
  first
    | (exfalso; omega; done)
    | exact ⟨rfl, (u (u (u (u (u (u (u (u (u (u (u (u (u (u (u A 8 l8) 9 l9) 10 l10) 11 l11) 75 l75) 76 l76) 77 l77) 78 l78) 109 l109) 104 l104) 105 l105) 110 l110) 111 l111) 108 l108) 107 l107), (u (u (u (u (u (u F 14 mg) 15 lo) 28 (N_Y A F 5)) 29 ac) 30 mg) 31 lo), rfl, rfl, ⟨(LENS_u (LENS_u (LENS_u (LENS_u (LENS_u (LENS_u (LENS_u (LENS_u (LENS_u (LENS_u (LENS_u (LENS_u (LENS_u (LENS_u (LENS_u hL (by show (l8).length = (A 8).length; rw [k8, hL 8 (by decide)]; rfl)) (by show (l9).length = (A 9).length; rw [k9, hL 9 (by decide)]; rfl)) (by show (l10).length = (A 10).length; rw [k10, hL 10 (by decide)]; rfl)) (by show (l11).length = (A 11).length; rw [k11, hL 11 (by decide)]; rfl)) (by show (l75).length = (A 75).length; rw [k75, hL 75 (by decide)]; rfl)) (by show (l76).length = (A 76).length; rw [k76, hL 76 (by decide)]; rfl)) (by show (l77).length = (A 77).length; rw [k77, hL 77 (by decide)]; rfl)) (by show (l78).length = (A 78).length; rw [k78, hL 78 (by decide)]; rfl)) (by show (l109).length = (A 109).length; rw [k109, hL 109 (by decide)]; rfl)) (by show (l104).length = (A 104).length; rw [k104, hL 104 (by decide)]; rfl)) (by show (l105).length = (A 105).length; rw [k105, hL 105 (by decide)]; rfl)) (by show (l110).length = (A 110).length; rw [k110, hL 110 (by decide)]; rfl)) (by show (l111).length = (A 111).length; rw [k111, hL 111 (by decide)]; rfl)) (by show (l108).length = (A 108).length; rw [k108, hL 108 (by decide)]; rfl)) (by show (l107).length = (A 107).length; rw [k107, hL 107 (by decide)]; rfl)), hR0.2.1, hR0.2.2.1, hR0.2.2.2.1, hR0.2.2.2.2.1, hR0.2.2.2.2.2.1, hR0.2.2.2.2.2.2.1, hR0.2.2.2.2.2.2.2.1, hR0.2.2.2.2.2.2.2.2.1, (REFU_c hR0.2.2.2.2.2.2.2.2.2)⟩⟩

theorem op_left {c : Int} {A : Nat → List Int} {F : Nat → Int} (hR : REL c A F) (hc : c < 512) (d : Int) (i_d : inI d) : R 76 (0, L0 76 [vR 1, vI d], [], LAY (shA A) (shF F), 0, 0) (fun r G => (∃ x, r = some (vI x)) ∧ (∃ (A1 : Nat → List Int) (F1 : Nat → Int), G = LAY A1 F1 ∧ A1 0 = A 0) ∧ R 150 (0, L0 150 [vR 88, vI d], [], G, 0, 0) (fun r2 G2 => r2 = r ∧ ∃ (A' : Nat → List Int) (F' : Nat → Int), G2 = LAY (shA A') (shF F') ∧ A' 0 = A 0 ∧ REL (c + 1) A' F')) := by
  by_cases h0 : d < 0
  · exact op_left_n hR hc d i_d h0
  by_cases h1 : F 0 ≤ d
  · exact op_left_b hR hc d i_d ⟨by omega, h1⟩
  have h6 := hR.2.2.2.2.1.1.2
  obtain e | e | e | e | e | e : d = 0 ∨ d = 1 ∨ d = 2 ∨ d = 3 ∨ d = 4 ∨ d = 5 := by omega
  all_goals subst e
  · exact op_left_0 hR hc   (by omega)
  · exact op_left_1 hR hc   (by omega)
  · exact op_left_2 hR hc   (by omega)
  · exact op_left_3 hR hc   (by omega)
  · exact op_left_4 hR hc   (by omega)
  · exact op_left_5 hR hc   (by omega)

theorem op_gets_n {c : Int} {A : Nat → List Int} {F : Nat → Int} (hR : REL c A F) (hc : c < 512) (d i : Int) (i_d : inI d) (i_i : inI i) (hd : d < 0) : R 77 (0, L0 77 [vR 1, vI d, vI i], [], LAY (shA A) (shF F), 0, 0) (fun r G => (∃ x, r = some (vI x)) ∧ (∃ (A1 : Nat → List Int) (F1 : Nat → Int), G = LAY A1 F1 ∧ A1 0 = A 0) ∧ R 151 (0, L0 151 [vR 88, vI d, vI i], [], G, 0, 0) (fun r2 G2 => r2 = r ∧ ∃ (A' : Nat → List Int) (F' : Nat → Int), G2 = LAY (shA A') (shF F') ∧ A' 0 = A 0 ∧ REL (c + 1) A' F')) := by
  have hR0 := hR
  obtain ⟨hL, hPE, hTH, hTP, hDE, hLE, hNO, hAC, hRO, hRE⟩ := hR
  have j_d := i_d
  unfold inI at j_d
  have j_i := i_i
  unfold inI at j_i
  have h87 : (A 87).length = 9 := hL 87 (by decide)
  have r2 := REFU_at hRE (k := 2) (by decide) (by decide) hc
  have r3 := REFU_at hRE (k := 3) (by decide) (by decide) hc
  have r4 := REFU_at hRE (k := 4) (by decide) (by decide) hc
  have r5 := REFU_at hRE (k := 5) (by decide) (by decide) hc
  have r6 := REFU_at hRE (k := 6) (by decide) (by decide) hc
  have r7 := REFU_at hRE (k := 7) (by decide) (by decide) hc
  have r8 := REFU_at hRE (k := 8) (by decide) (by decide) hc
  obtain ⟨t1, t2, t3, t4, t5, t6⟩ := hTH
  obtain ⟨p1, p2, p3, p4, p5, p6⟩ := hPE
  refine R_s (P := True) (f' := (2, [some (vR 1), some (vI d), some (vI i), none], [vI d, vR 1], LAY (shA A) (shF F), 0, 0)) hc77 2 rfl trivial ?_
  refine R_cv hc77 rfl rfl ?_ (fun r G h => h)
  refine R_s (P := True) (f' := (2, [some (vR 1), some (vI d)], [vI d, vR 1], LAY (shA A) (shF F), 0, 0)) hc99 2 rfl trivial ?_
  refine R_cv hc99 rfl rfl ?_ (fun r G h => h)
  refine R_s (P := True) (f' := (1, [some (vR 1), some (vI d)], [vI d], LAY (shA A) (shF F), 0, 0)) hc98 1 rfl trivial ?_
  refine R_if (t := 16) hc98 rfl rfl (fun (_ : d < 0) => ?_) (fun (z : ¬ (d < 0)) => absurd (show d < 0 by omega) z)
  refine R_s (P := True) (f' := (17, [some (vR 1), some (vI d)], [vI 0], LAY (shA A) (shF F), 0, 0)) hc98 1 rfl trivial ?_
  refine R_retz hc98 rfl rfl (Or.inl rfl) ?_
  refine R_s (f' := (5, [some (vR 1), some (vI d)], [vI 0], LAY (shA A) (shF F), 0, 0)) hc99 0 rfl trivial ?_
  refine R_if (t := 17) hc99 rfl rfl (fun (_ : 0 = 0) => ?_) (fun (z : ¬ (0 = 0)) => absurd (by decide) z)
  refine R_s (P := True) (f' := (18, [some (vR 1), some (vI d)], [vN], LAY (shA A) (shF F), 0, 0)) hc99 1 rfl trivial ?_
  refine R_reta hc99 rfl rfl ?_
  refine R_s (f' := (5, [some (vR 1), some (vI d), some (vI i), none], [vN], LAY (shA A) (shF F), 0, 0)) hc77 0 rfl trivial ?_
  refine R_s (P := True) (f' := (21, [some (vR 1), some (vI d), some (vI i), some (vN)], [vI (-3), vR 1], LAY (shA A) (shF F), 0, 0)) hc77 5 rfl trivial ?_
  refine R_cv hc77 rfl rfl ?_ (fun r G h => h)
  refine R_s (P := True) (f' := (3, [some (vR 1), some (vI (-3))], [vI (-2), vI (-3)], LAY (shA A) (shF F), 0, 0)) hc93 2 rfl trivial ?_
  refine R_ic (t := 23) hc93 rfl rfl (fun (z : (-2) < (-3)) => absurd z (by decide)) (fun (_ : ¬ ((-2) < (-3))) => ?_)
  refine R_s (P := True) (f' := (9, [some (vR 1), some (vI (-3))], [vI (-8), vI (-3)], LAY (shA A) (shF F), 0, 0)) hc93 2 rfl trivial ?_
  refine R_ic (t := 23) hc93 rfl rfl (fun (z : (-3) < (-8)) => absurd z (by decide)) (fun (_ : ¬ ((-3) < (-8))) => ?_)
  refine R_s (P := inI 3 ∧ (0 ≤ 3 ∧ 3 < ((A 87).length : Int)) ∧ inI ((rd (A 87) 3) + 1) ∧ (0 ≤ 3 ∧ 3 < ((A 87).length : Int)) ∧ True) (f' := (24, [some (vR 1), some (vI (-3))], [vI (-3)], LAY (u (shA A) 87 (wr (A 87) 3 ((rd (A 87) 3) + 1))) (shF F), 0, 0)) hc93 10 rfl ⟨⟨by omega, by omega⟩, ⟨by omega, by omega⟩, ⟨by omega, by omega⟩, ⟨by omega, by omega⟩, trivial⟩ ?_
  refine R_reti hc93 rfl rfl ?_
  refine R_s (f' := (24, [some (vR 1), some (vI d), some (vI i), some (vN)], [vI (-3)], LAY (u (shA A) 87 (wr (A 87) 3 ((rd (A 87) 3) + 1))) (shF F), 0, 0)) hc77 0 rfl trivial ?_
  refine R_reti hc77 rfl rfl ⟨⟨_, rfl⟩, ⟨_, _, rfl, rfl⟩, ?_⟩
  refine R_s (P := True) (f' := (2, [some (vR 88), some (vI d), some (vI i)], [vI d, vR 88], LAY (u (shA A) 87 (wr (A 87) 3 ((rd (A 87) 3) + 1))) (shF F), 0, 0)) hc151 2 rfl trivial ?_
  refine R_cv hc151 rfl rfl ?_ (fun r G h => h)
  refine R_s (P := inI ((F 0) - 1) ∧ True) (f' := (8, [some (vR 88), some (vI d)], [vI ((F 0) - 1), vI 0, vI d], LAY (u (shA A) 87 (wr (A 87) 3 ((rd (A 87) 3) + 1))) (shF F), 0, 0)) hc108 6 rfl ⟨⟨by omega, by omega⟩, trivial⟩ ?_
  refine R_cs hc108 rfl rfl ?_ (fun r G h => h)
  refine R_s (P := True) (f' := (2, [some (vI d), some (vI 0), some (vI ((F 0) - 1))], [vI 0, vI d], LAY (u (shA A) 87 (wr (A 87) 3 ((rd (A 87) 3) + 1))) (shF F), 0, 0)) hc104 2 rfl trivial ?_
  refine R_ic (t := 14) hc104 rfl rfl (fun (_ : d < 0) => ?_) (fun (z : ¬ (d < 0)) => absurd (show d < 0 by omega) z)
  refine R_s (P := True) (f' := (15, [some (vI d), some (vI 0), some (vI ((F 0) - 1))], [vI 0], LAY (u (shA A) 87 (wr (A 87) 3 ((rd (A 87) 3) + 1))) (shF F), 0, 0)) hc104 1 rfl trivial ?_
  refine R_retz hc104 rfl rfl (Or.inl rfl) ?_
  refine R_s (f' := (11, [some (vR 88), some (vI d)], [vI 0], LAY (u (shA A) 87 (wr (A 87) 3 ((rd (A 87) 3) + 1))) (shF F), 0, 0)) hc108 0 rfl trivial ?_
  refine R_retz hc108 rfl rfl (Or.inl rfl) ?_
  refine R_s (f' := (5, [some (vR 88), some (vI d), some (vI i)], [vI 0], LAY (u (shA A) 87 (wr (A 87) 3 ((rd (A 87) 3) + 1))) (shF F), 0, 0)) hc151 0 rfl trivial ?_
  refine R_if (t := 24) hc151 rfl rfl (fun (_ : 0 = 0) => ?_) (fun (z : ¬ (0 = 0)) => absurd (by decide) z)
  refine R_s (P := True) (f' := (27, [some (vR 88), some (vI d), some (vI i)], [vI (-3), vR 88], LAY (u (shA A) 87 (wr (A 87) 3 ((rd (A 87) 3) + 1))) (shF F), 0, 0)) hc151 2 rfl trivial ?_
  refine R_cv hc151 rfl rfl ?_ (fun r G h => h)
  refine R_s (P := inI 3 ∧ (0 ≤ 3 ∧ 3 < ((A 87).length : Int)) ∧ inI ((rd (A 87) 3) + 1) ∧ (0 ≤ 3 ∧ 3 < ((A 87).length : Int)) ∧ True) (f' := (12, [some (vR 88), some (vI (-3))], [vI (-3)], LAY (u (u (shA A) 87 (wr (A 87) 3 ((rd (A 87) 3) + 1))) 89 (wr (A 87) 3 ((rd (A 87) 3) + 1))) (shF F), 0, 0)) hc105 10 rfl ⟨⟨by omega, by omega⟩, ⟨by omega, by omega⟩, ⟨by omega, by omega⟩, ⟨by omega, by omega⟩, trivial⟩ ?_
  refine R_reti hc105 rfl rfl ?_
  refine R_s (f' := (30, [some (vR 88), some (vI d), some (vI i)], [vI (-3)], LAY (u (u (shA A) 87 (wr (A 87) 3 ((rd (A 87) 3) + 1))) 89 (wr (A 87) 3 ((rd (A 87) 3) + 1))) (shF F), 0, 0)) hc151 0 rfl trivial ?_
  refine R_reti hc151 rfl rfl ?_
  first
    | (exfalso; omega; done)
    | exact ⟨rfl, (u A 87 (wr (A 87) 3 ((rd (A 87) 3) + 1))), F, rfl, rfl, REL_ref hR0 (by decide) (by decide)⟩

theorem op_gets_b {c : Int} {A : Nat → List Int} {F : Nat → Int} (hR : REL c A F) (hc : c < 512) (d i : Int) (i_d : inI d) (i_i : inI i) (hd : 0 ≤ d ∧ F 0 ≤ d) : R 77 (0, L0 77 [vR 1, vI d, vI i], [], LAY (shA A) (shF F), 0, 0) (fun r G => (∃ x, r = some (vI x)) ∧ (∃ (A1 : Nat → List Int) (F1 : Nat → Int), G = LAY A1 F1 ∧ A1 0 = A 0) ∧ R 151 (0, L0 151 [vR 88, vI d, vI i], [], G, 0, 0) (fun r2 G2 => r2 = r ∧ ∃ (A' : Nat → List Int) (F' : Nat → Int), G2 = LAY (shA A') (shF F') ∧ A' 0 = A 0 ∧ REL (c + 1) A' F')) := by
  have hR0 := hR
  obtain ⟨hL, hPE, hTH, hTP, hDE, hLE, hNO, hAC, hRO, hRE⟩ := hR
  have j_d := i_d
  unfold inI at j_d
  have j_i := i_i
  unfold inI at j_i
  have h87 : (A 87).length = 9 := hL 87 (by decide)
  have r2 := REFU_at hRE (k := 2) (by decide) (by decide) hc
  have r3 := REFU_at hRE (k := 3) (by decide) (by decide) hc
  have r4 := REFU_at hRE (k := 4) (by decide) (by decide) hc
  have r5 := REFU_at hRE (k := 5) (by decide) (by decide) hc
  have r6 := REFU_at hRE (k := 6) (by decide) (by decide) hc
  have r7 := REFU_at hRE (k := 7) (by decide) (by decide) hc
  have r8 := REFU_at hRE (k := 8) (by decide) (by decide) hc
  obtain ⟨t1, t2, t3, t4, t5, t6⟩ := hTH
  obtain ⟨p1, p2, p3, p4, p5, p6⟩ := hPE
  refine R_s (P := True) (f' := (2, [some (vR 1), some (vI d), some (vI i), none], [vI d, vR 1], LAY (shA A) (shF F), 0, 0)) hc77 2 rfl trivial ?_
  refine R_cv hc77 rfl rfl ?_ (fun r G h => h)
  refine R_s (P := True) (f' := (2, [some (vR 1), some (vI d)], [vI d, vR 1], LAY (shA A) (shF F), 0, 0)) hc99 2 rfl trivial ?_
  refine R_cv hc99 rfl rfl ?_ (fun r G h => h)
  refine R_s (P := True) (f' := (1, [some (vR 1), some (vI d)], [vI d], LAY (shA A) (shF F), 0, 0)) hc98 1 rfl trivial ?_
  refine R_if (t := 16) hc98 rfl rfl (fun (z : d < 0) => absurd z (by omega)) (fun (_ : ¬ (d < 0)) => ?_)
  refine R_s (P := True) (f' := (9, [some (vR 1), some (vI d)], [vI (F 0), vI d], LAY (shA A) (shF F), 0, 0)) hc98 3 rfl trivial ?_
  refine R_ic (t := 16) hc98 rfl rfl (fun (_ : F 0 ≤ d) => ?_) (fun (z : ¬ (F 0 ≤ d)) => absurd (show F 0 ≤ d by omega) z)
  refine R_s (P := True) (f' := (17, [some (vR 1), some (vI d)], [vI 0], LAY (shA A) (shF F), 0, 0)) hc98 1 rfl trivial ?_
  refine R_retz hc98 rfl rfl (Or.inl rfl) ?_
  refine R_s (f' := (5, [some (vR 1), some (vI d)], [vI 0], LAY (shA A) (shF F), 0, 0)) hc99 0 rfl trivial ?_
  refine R_if (t := 17) hc99 rfl rfl (fun (_ : 0 = 0) => ?_) (fun (z : ¬ (0 = 0)) => absurd (by decide) z)
  refine R_s (P := True) (f' := (18, [some (vR 1), some (vI d)], [vN], LAY (shA A) (shF F), 0, 0)) hc99 1 rfl trivial ?_
  refine R_reta hc99 rfl rfl ?_
  refine R_s (f' := (5, [some (vR 1), some (vI d), some (vI i), none], [vN], LAY (shA A) (shF F), 0, 0)) hc77 0 rfl trivial ?_
  refine R_s (P := True) (f' := (21, [some (vR 1), some (vI d), some (vI i), some (vN)], [vI (-3), vR 1], LAY (shA A) (shF F), 0, 0)) hc77 5 rfl trivial ?_
  refine R_cv hc77 rfl rfl ?_ (fun r G h => h)
  refine R_s (P := True) (f' := (3, [some (vR 1), some (vI (-3))], [vI (-2), vI (-3)], LAY (shA A) (shF F), 0, 0)) hc93 2 rfl trivial ?_
  refine R_ic (t := 23) hc93 rfl rfl (fun (z : (-2) < (-3)) => absurd z (by decide)) (fun (_ : ¬ ((-2) < (-3))) => ?_)
  refine R_s (P := True) (f' := (9, [some (vR 1), some (vI (-3))], [vI (-8), vI (-3)], LAY (shA A) (shF F), 0, 0)) hc93 2 rfl trivial ?_
  refine R_ic (t := 23) hc93 rfl rfl (fun (z : (-3) < (-8)) => absurd z (by decide)) (fun (_ : ¬ ((-3) < (-8))) => ?_)
  refine R_s (P := inI 3 ∧ (0 ≤ 3 ∧ 3 < ((A 87).length : Int)) ∧ inI ((rd (A 87) 3) + 1) ∧ (0 ≤ 3 ∧ 3 < ((A 87).length : Int)) ∧ True) (f' := (24, [some (vR 1), some (vI (-3))], [vI (-3)], LAY (u (shA A) 87 (wr (A 87) 3 ((rd (A 87) 3) + 1))) (shF F), 0, 0)) hc93 10 rfl ⟨⟨by omega, by omega⟩, ⟨by omega, by omega⟩, ⟨by omega, by omega⟩, ⟨by omega, by omega⟩, trivial⟩ ?_
  refine R_reti hc93 rfl rfl ?_
  refine R_s (f' := (24, [some (vR 1), some (vI d), some (vI i), some (vN)], [vI (-3)], LAY (u (shA A) 87 (wr (A 87) 3 ((rd (A 87) 3) + 1))) (shF F), 0, 0)) hc77 0 rfl trivial ?_
  refine R_reti hc77 rfl rfl ⟨⟨_, rfl⟩, ⟨_, _, rfl, rfl⟩, ?_⟩
  refine R_s (P := True) (f' := (2, [some (vR 88), some (vI d), some (vI i)], [vI d, vR 88], LAY (u (shA A) 87 (wr (A 87) 3 ((rd (A 87) 3) + 1))) (shF F), 0, 0)) hc151 2 rfl trivial ?_
  refine R_cv hc151 rfl rfl ?_ (fun r G h => h)
  refine R_s (P := inI ((F 0) - 1) ∧ True) (f' := (8, [some (vR 88), some (vI d)], [vI ((F 0) - 1), vI 0, vI d], LAY (u (shA A) 87 (wr (A 87) 3 ((rd (A 87) 3) + 1))) (shF F), 0, 0)) hc108 6 rfl ⟨⟨by omega, by omega⟩, trivial⟩ ?_
  refine R_cs hc108 rfl rfl ?_ (fun r G h => h)
  refine R_s (P := True) (f' := (2, [some (vI d), some (vI 0), some (vI ((F 0) - 1))], [vI 0, vI d], LAY (u (shA A) 87 (wr (A 87) 3 ((rd (A 87) 3) + 1))) (shF F), 0, 0)) hc104 2 rfl trivial ?_
  refine R_ic (t := 14) hc104 rfl rfl (fun (z : d < 0) => absurd z (by omega)) (fun (_ : ¬ (d < 0)) => ?_)
  refine R_s (P := True) (f' := (7, [some (vI d), some (vI 0), some (vI ((F 0) - 1))], [vI ((F 0) - 1), vI d], LAY (u (shA A) 87 (wr (A 87) 3 ((rd (A 87) 3) + 1))) (shF F), 0, 0)) hc104 2 rfl trivial ?_
  refine R_ic (t := 14) hc104 rfl rfl (fun (_ : (F 0) - 1 < d) => ?_) (fun (z : ¬ ((F 0) - 1 < d)) => absurd (show (F 0) - 1 < d by omega) z)
  refine R_s (P := True) (f' := (15, [some (vI d), some (vI 0), some (vI ((F 0) - 1))], [vI 0], LAY (u (shA A) 87 (wr (A 87) 3 ((rd (A 87) 3) + 1))) (shF F), 0, 0)) hc104 1 rfl trivial ?_
  refine R_retz hc104 rfl rfl (Or.inl rfl) ?_
  refine R_s (f' := (11, [some (vR 88), some (vI d)], [vI 0], LAY (u (shA A) 87 (wr (A 87) 3 ((rd (A 87) 3) + 1))) (shF F), 0, 0)) hc108 0 rfl trivial ?_
  refine R_retz hc108 rfl rfl (Or.inl rfl) ?_
  refine R_s (f' := (5, [some (vR 88), some (vI d), some (vI i)], [vI 0], LAY (u (shA A) 87 (wr (A 87) 3 ((rd (A 87) 3) + 1))) (shF F), 0, 0)) hc151 0 rfl trivial ?_
  refine R_if (t := 24) hc151 rfl rfl (fun (_ : 0 = 0) => ?_) (fun (z : ¬ (0 = 0)) => absurd (by decide) z)
  refine R_s (P := True) (f' := (27, [some (vR 88), some (vI d), some (vI i)], [vI (-3), vR 88], LAY (u (shA A) 87 (wr (A 87) 3 ((rd (A 87) 3) + 1))) (shF F), 0, 0)) hc151 2 rfl trivial ?_
  refine R_cv hc151 rfl rfl ?_ (fun r G h => h)
  refine R_s (P := inI 3 ∧ (0 ≤ 3 ∧ 3 < ((A 87).length : Int)) ∧ inI ((rd (A 87) 3) + 1) ∧ (0 ≤ 3 ∧ 3 < ((A 87).length : Int)) ∧ True) (f' := (12, [some (vR 88), some (vI (-3))], [vI (-3)], LAY (u (u (shA A) 87 (wr (A 87) 3 ((rd (A 87) 3) + 1))) 89 (wr (A 87) 3 ((rd (A 87) 3) + 1))) (shF F), 0, 0)) hc105 10 rfl ⟨⟨by omega, by omega⟩, ⟨by omega, by omega⟩, ⟨by omega, by omega⟩, ⟨by omega, by omega⟩, trivial⟩ ?_
  refine R_reti hc105 rfl rfl ?_
  refine R_s (f' := (30, [some (vR 88), some (vI d), some (vI i)], [vI (-3)], LAY (u (u (shA A) 87 (wr (A 87) 3 ((rd (A 87) 3) + 1))) 89 (wr (A 87) 3 ((rd (A 87) 3) + 1))) (shF F), 0, 0)) hc151 0 rfl trivial ?_
  refine R_reti hc151 rfl rfl ?_
  first
    | (exfalso; omega; done)
    | exact ⟨rfl, (u A 87 (wr (A 87) 3 ((rd (A 87) 3) + 1))), F, rfl, rfl, REL_ref hR0 (by decide) (by decide)⟩

theorem op_gets_0 {c : Int} {A : Nat → List Int} {F : Nat → Int} (hR : REL c A F) (hc : c < 512) (i : Int) (i_i : inI i) (hd : (0 : Int) < F 0) : R 77 (0, L0 77 [vR 1, vI 0, vI i], [], LAY (shA A) (shF F), 0, 0) (fun r G => (∃ x, r = some (vI x)) ∧ (∃ (A1 : Nat → List Int) (F1 : Nat → Int), G = LAY A1 F1 ∧ A1 0 = A 0) ∧ R 151 (0, L0 151 [vR 88, vI 0, vI i], [], G, 0, 0) (fun r2 G2 => r2 = r ∧ ∃ (A' : Nat → List Int) (F' : Nat → Int), G2 = LAY (shA A') (shF F') ∧ A' 0 = A 0 ∧ REL (c + 1) A' F')) := by
  have hR0 := hR
  obtain ⟨hL, hPE, hTH, hTP, hDE, hLE, hNO, hAC, hRO, hRE⟩ := hR
  have j_i := i_i
  unfold inI at j_i
  have h87 : (A 87).length = 9 := hL 87 (by decide)
  have h99 : (A 99).length = 6 := hL 99 (by decide)
  have r2 := REFU_at hRE (k := 2) (by decide) (by decide) hc
  have r3 := REFU_at hRE (k := 3) (by decide) (by decide) hc
  have r4 := REFU_at hRE (k := 4) (by decide) (by decide) hc
  have r5 := REFU_at hRE (k := 5) (by decide) (by decide) hc
  have r6 := REFU_at hRE (k := 6) (by decide) (by decide) hc
  have r7 := REFU_at hRE (k := 7) (by decide) (by decide) hc
  have r8 := REFU_at hRE (k := 8) (by decide) (by decide) hc
  obtain ⟨t1, t2, t3, t4, t5, t6⟩ := hTH
  obtain ⟨p1, p2, p3, p4, p5, p6⟩ := hPE
  have hD := D_at0 hR0 hd
  have he1 := hD.1.1
  have he2 := hD.1.2.1
  have hme : rd (A 99) 0 = F 8 := by
    have := hD.2.2.2.2.1
    omega
  obtain ⟨so, te, tp, mg, pm, lo, hS⟩ := SPL_ex A F (N_al A F) (N_Q A 21) (F 8).toNat (N_Y A F 0)
  refine R_s (P := True) (f' := (2, [some (vR 1), some (vI 0), some (vI i), none], [vI 0, vR 1], LAY (shA A) (shF F), 0, 0)) hc77 2 rfl trivial ?_
  refine R_cv hc77 rfl rfl ?_ (fun r G h => h)
  refine R_s (P := True) (f' := (2, [some (vR 1), some (vI 0)], [vI 0, vR 1], LAY (shA A) (shF F), 0, 0)) hc99 2 rfl trivial ?_
  refine R_cv hc99 rfl rfl ?_ (fun r G h => h)
  refine R_s (P := True) (f' := (1, [some (vR 1), some (vI 0)], [vI 0], LAY (shA A) (shF F), 0, 0)) hc98 1 rfl trivial ?_
  refine R_if (t := 16) hc98 rfl rfl (fun (z : 0 < 0) => absurd z (by decide)) (fun (_ : ¬ (0 < 0)) => ?_)
  refine R_s (P := True) (f' := (9, [some (vR 1), some (vI 0)], [vI (F 0), vI 0], LAY (shA A) (shF F), 0, 0)) hc98 3 rfl trivial ?_
  refine R_ic (t := 16) hc98 rfl rfl (fun (z : F 0 ≤ 0) => absurd z (by omega)) (fun (_ : ¬ (F 0 ≤ 0)) => ?_)
  refine R_s (P := True) (f' := (17, [some (vR 1), some (vI 0)], [vI 1], LAY (shA A) (shF F), 0, 0)) hc98 2 rfl trivial ?_
  refine R_retz hc98 rfl rfl (Or.inr rfl) ?_
  refine R_s (f' := (5, [some (vR 1), some (vI 0)], [vI 1], LAY (shA A) (shF F), 0, 0)) hc99 0 rfl trivial ?_
  refine R_if (t := 17) hc99 rfl rfl (fun (z : 1 = 0) => absurd z (by decide)) (fun (_ : ¬ (1 = 0)) => ?_)
  refine R_s (P := (0 ≤ (0 : Int) ∧ (0 : Int) < (([some 20, some 29, some 38, some 47, some 56, some 65] : List (Option Nat)).length : Int)) ∧ True) (f' := (18, [some (vR 1), some (vI 0)], [vR 20], LAY (shA A) (shF F), 0, 0)) hc99 5 rfl ⟨(by decide), trivial⟩ ?_
  refine R_reta hc99 rfl rfl ?_
  refine R_s (f' := (5, [some (vR 1), some (vI 0), some (vI i), none], [vR 20], LAY (shA A) (shF F), 0, 0)) hc77 0 rfl trivial ?_
  refine R_s (P := True) (f' := (12, [some (vR 1), some (vI 0), some (vI i), some (vR 20)], [vI i, vR 20], LAY (shA A) (shF F), 0, 0)) hc77 5 rfl trivial ?_
  refine R_cv hc77 rfl rfl ?_ (fun r G h => h)
  refine R_s (P := True) (f' := (1, [some (vR 20), some (vI i)], [vI i], LAY (shA A) (shF F), 0, 0)) hc1 1 rfl trivial ?_
  refine R_if (t := 16) hc1 rfl rfl (fun (c4 : i < 0) => ?_) (fun (c4 : ¬ (i < 0)) => ?_)
  · refine R_s (P := True) (f' := (17, [some (vR 20), some (vI i)], [vI 0], LAY (shA A) (shF F), 0, 0)) hc1 1 rfl trivial ?_
    refine R_retz hc1 rfl rfl (Or.inl rfl) ?_
    refine R_s (f' := (15, [some (vR 1), some (vI 0), some (vI i), some (vR 20)], [vI 0], LAY (shA A) (shF F), 0, 0)) hc77 0 rfl trivial ?_
    refine R_if (t := 25) hc77 rfl rfl (fun (z : ¬ 0 = 0) => absurd z (by decide)) (fun (_ : ¬ (¬ 0 = 0)) => ?_)
    refine R_s (P := True) (f' := (21, [some (vR 1), some (vI 0), some (vI i), some (vR 20)], [vI (-3), vR 1], LAY (shA A) (shF F), 0, 0)) hc77 2 rfl trivial ?_
    refine R_cv hc77 rfl rfl ?_ (fun r G h => h)
    refine R_s (P := True) (f' := (3, [some (vR 1), some (vI (-3))], [vI (-2), vI (-3)], LAY (shA A) (shF F), 0, 0)) hc93 2 rfl trivial ?_
    refine R_ic (t := 23) hc93 rfl rfl (fun (z : (-2) < (-3)) => absurd z (by decide)) (fun (_ : ¬ ((-2) < (-3))) => ?_)
    refine R_s (P := True) (f' := (9, [some (vR 1), some (vI (-3))], [vI (-8), vI (-3)], LAY (shA A) (shF F), 0, 0)) hc93 2 rfl trivial ?_
    refine R_ic (t := 23) hc93 rfl rfl (fun (z : (-3) < (-8)) => absurd z (by decide)) (fun (_ : ¬ ((-3) < (-8))) => ?_)
    refine R_s (P := inI 3 ∧ (0 ≤ 3 ∧ 3 < ((A 87).length : Int)) ∧ inI ((rd (A 87) 3) + 1) ∧ (0 ≤ 3 ∧ 3 < ((A 87).length : Int)) ∧ True) (f' := (24, [some (vR 1), some (vI (-3))], [vI (-3)], LAY (u (shA A) 87 (wr (A 87) 3 ((rd (A 87) 3) + 1))) (shF F), 0, 0)) hc93 10 rfl ⟨⟨by omega, by omega⟩, ⟨by omega, by omega⟩, ⟨by omega, by omega⟩, ⟨by omega, by omega⟩, trivial⟩ ?_
    refine R_reti hc93 rfl rfl ?_
    refine R_s (f' := (24, [some (vR 1), some (vI 0), some (vI i), some (vR 20)], [vI (-3)], LAY (u (shA A) 87 (wr (A 87) 3 ((rd (A 87) 3) + 1))) (shF F), 0, 0)) hc77 0 rfl trivial ?_
    refine R_reti hc77 rfl rfl ⟨⟨_, rfl⟩, ⟨_, _, rfl, rfl⟩, ?_⟩
    refine R_s (P := True) (f' := (2, [some (vR 88), some (vI 0), some (vI i)], [vI 0, vR 88], LAY (u (shA A) 87 (wr (A 87) 3 ((rd (A 87) 3) + 1))) (shF F), 0, 0)) hc151 2 rfl trivial ?_
    refine R_cv hc151 rfl rfl ?_ (fun r G h => h)
    refine R_s (P := inI ((F 0) - 1) ∧ True) (f' := (8, [some (vR 88), some (vI 0)], [vI ((F 0) - 1), vI 0, vI 0], LAY (u (shA A) 87 (wr (A 87) 3 ((rd (A 87) 3) + 1))) (shF F), 0, 0)) hc108 6 rfl ⟨⟨by omega, by omega⟩, trivial⟩ ?_
    refine R_cs hc108 rfl rfl ?_ (fun r G h => h)
    refine R_s (P := True) (f' := (2, [some (vI 0), some (vI 0), some (vI ((F 0) - 1))], [vI 0, vI 0], LAY (u (shA A) 87 (wr (A 87) 3 ((rd (A 87) 3) + 1))) (shF F), 0, 0)) hc104 2 rfl trivial ?_
    refine R_ic (t := 14) hc104 rfl rfl (fun (z : 0 < 0) => absurd z (by decide)) (fun (_ : ¬ (0 < 0)) => ?_)
    refine R_s (P := True) (f' := (7, [some (vI 0), some (vI 0), some (vI ((F 0) - 1))], [vI ((F 0) - 1), vI 0], LAY (u (shA A) 87 (wr (A 87) 3 ((rd (A 87) 3) + 1))) (shF F), 0, 0)) hc104 2 rfl trivial ?_
    refine R_ic (t := 14) hc104 rfl rfl (fun (z : (F 0) - 1 < 0) => absurd z (by omega)) (fun (_ : ¬ ((F 0) - 1 < 0)) => ?_)
    refine R_s (P := True) (f' := (15, [some (vI 0), some (vI 0), some (vI ((F 0) - 1))], [vI 1], LAY (u (shA A) 87 (wr (A 87) 3 ((rd (A 87) 3) + 1))) (shF F), 0, 0)) hc104 2 rfl trivial ?_
    refine R_retz hc104 rfl rfl (Or.inr rfl) ?_
    refine R_s (f' := (11, [some (vR 88), some (vI 0)], [vI 1], LAY (u (shA A) 87 (wr (A 87) 3 ((rd (A 87) 3) + 1))) (shF F), 0, 0)) hc108 0 rfl trivial ?_
    refine R_retz hc108 rfl rfl (Or.inr rfl) ?_
    refine R_s (f' := (5, [some (vR 88), some (vI 0), some (vI i)], [vI 1], LAY (u (shA A) 87 (wr (A 87) 3 ((rd (A 87) 3) + 1))) (shF F), 0, 0)) hc151 0 rfl trivial ?_
    refine R_if (t := 24) hc151 rfl rfl (fun (z : 1 = 0) => absurd z (by decide)) (fun (_ : ¬ (1 = 0)) => ?_)
    refine R_s (P := (0 ≤ 0 ∧ 0 < ((A 99).length : Int)) ∧ inI ((rd (A 99) 0) - 1) ∧ True) (f' := (18, [some (vR 88), some (vI 0), some (vI i)], [vI ((rd (A 99) 0) - 1), vI 0, vI i], LAY (u (shA A) 87 (wr (A 87) 3 ((rd (A 87) 3) + 1))) (shF F), 0, 0)) hc151 8 rfl ⟨⟨by omega, by omega⟩, ⟨by omega, by omega⟩, trivial⟩ ?_
    refine R_cs hc151 rfl rfl ?_ (fun r G h => h)
    refine R_s (P := True) (f' := (2, [some (vI i), some (vI 0), some (vI ((rd (A 99) 0) - 1))], [vI 0, vI i], LAY (u (shA A) 87 (wr (A 87) 3 ((rd (A 87) 3) + 1))) (shF F), 0, 0)) hc104 2 rfl trivial ?_
    refine R_ic (t := 14) hc104 rfl rfl (fun (_ : i < 0) => ?_) (fun (z : ¬ (i < 0)) => absurd (show i < 0 by omega) z)
    refine R_s (P := True) (f' := (15, [some (vI i), some (vI 0), some (vI ((rd (A 99) 0) - 1))], [vI 0], LAY (u (shA A) 87 (wr (A 87) 3 ((rd (A 87) 3) + 1))) (shF F), 0, 0)) hc104 1 rfl trivial ?_
    refine R_retz hc104 rfl rfl (Or.inl rfl) ?_
    refine R_s (f' := (21, [some (vR 88), some (vI 0), some (vI i)], [vI 0], LAY (u (shA A) 87 (wr (A 87) 3 ((rd (A 87) 3) + 1))) (shF F), 0, 0)) hc151 0 rfl trivial ?_
    refine R_if (t := 31) hc151 rfl rfl (fun (z : ¬ 0 = 0) => absurd z (by decide)) (fun (_ : ¬ (¬ 0 = 0)) => ?_)
    refine R_s (P := True) (f' := (27, [some (vR 88), some (vI 0), some (vI i)], [vI (-3), vR 88], LAY (u (shA A) 87 (wr (A 87) 3 ((rd (A 87) 3) + 1))) (shF F), 0, 0)) hc151 2 rfl trivial ?_
    refine R_cv hc151 rfl rfl ?_ (fun r G h => h)
    refine R_s (P := inI 3 ∧ (0 ≤ 3 ∧ 3 < ((A 87).length : Int)) ∧ inI ((rd (A 87) 3) + 1) ∧ (0 ≤ 3 ∧ 3 < ((A 87).length : Int)) ∧ True) (f' := (12, [some (vR 88), some (vI (-3))], [vI (-3)], LAY (u (u (shA A) 87 (wr (A 87) 3 ((rd (A 87) 3) + 1))) 89 (wr (A 87) 3 ((rd (A 87) 3) + 1))) (shF F), 0, 0)) hc105 10 rfl ⟨⟨by omega, by omega⟩, ⟨by omega, by omega⟩, ⟨by omega, by omega⟩, ⟨by omega, by omega⟩, trivial⟩ ?_
    refine R_reti hc105 rfl rfl ?_
    refine R_s (f' := (30, [some (vR 88), some (vI 0), some (vI i)], [vI (-3)], LAY (u (u (shA A) 87 (wr (A 87) 3 ((rd (A 87) 3) + 1))) 89 (wr (A 87) 3 ((rd (A 87) 3) + 1))) (shF F), 0, 0)) hc151 0 rfl trivial ?_
    refine R_reti hc151 rfl rfl ?_
    first
      | (exfalso; omega; done)
      | exact ⟨rfl, (u A 87 (wr (A 87) 3 ((rd (A 87) 3) + 1))), F, rfl, rfl, REL_ref hR0 (by decide) (by decide)⟩
  · refine R_s (P := True) (f' := (9, [some (vR 20), some (vI i)], [vI (F 8), vI i], LAY (shA A) (shF F), 0, 0)) hc1 3 rfl trivial ?_
    refine R_ic (t := 16) hc1 rfl rfl (fun (c5 : F 8 ≤ i) => ?_) (fun (c5 : ¬ (F 8 ≤ i)) => ?_)
    · refine R_s (P := True) (f' := (17, [some (vR 20), some (vI i)], [vI 0], LAY (shA A) (shF F), 0, 0)) hc1 1 rfl trivial ?_
      refine R_retz hc1 rfl rfl (Or.inl rfl) ?_
      refine R_s (f' := (15, [some (vR 1), some (vI 0), some (vI i), some (vR 20)], [vI 0], LAY (shA A) (shF F), 0, 0)) hc77 0 rfl trivial ?_
      refine R_if (t := 25) hc77 rfl rfl (fun (z : ¬ 0 = 0) => absurd z (by decide)) (fun (_ : ¬ (¬ 0 = 0)) => ?_)
      refine R_s (P := True) (f' := (21, [some (vR 1), some (vI 0), some (vI i), some (vR 20)], [vI (-3), vR 1], LAY (shA A) (shF F), 0, 0)) hc77 2 rfl trivial ?_
      refine R_cv hc77 rfl rfl ?_ (fun r G h => h)
      refine R_s (P := True) (f' := (3, [some (vR 1), some (vI (-3))], [vI (-2), vI (-3)], LAY (shA A) (shF F), 0, 0)) hc93 2 rfl trivial ?_
      refine R_ic (t := 23) hc93 rfl rfl (fun (z : (-2) < (-3)) => absurd z (by decide)) (fun (_ : ¬ ((-2) < (-3))) => ?_)
      refine R_s (P := True) (f' := (9, [some (vR 1), some (vI (-3))], [vI (-8), vI (-3)], LAY (shA A) (shF F), 0, 0)) hc93 2 rfl trivial ?_
      refine R_ic (t := 23) hc93 rfl rfl (fun (z : (-3) < (-8)) => absurd z (by decide)) (fun (_ : ¬ ((-3) < (-8))) => ?_)
      refine R_s (P := inI 3 ∧ (0 ≤ 3 ∧ 3 < ((A 87).length : Int)) ∧ inI ((rd (A 87) 3) + 1) ∧ (0 ≤ 3 ∧ 3 < ((A 87).length : Int)) ∧ True) (f' := (24, [some (vR 1), some (vI (-3))], [vI (-3)], LAY (u (shA A) 87 (wr (A 87) 3 ((rd (A 87) 3) + 1))) (shF F), 0, 0)) hc93 10 rfl ⟨⟨by omega, by omega⟩, ⟨by omega, by omega⟩, ⟨by omega, by omega⟩, ⟨by omega, by omega⟩, trivial⟩ ?_
      refine R_reti hc93 rfl rfl ?_
      refine R_s (f' := (24, [some (vR 1), some (vI 0), some (vI i), some (vR 20)], [vI (-3)], LAY (u (shA A) 87 (wr (A 87) 3 ((rd (A 87) 3) + 1))) (shF F), 0, 0)) hc77 0 rfl trivial ?_
      refine R_reti hc77 rfl rfl ⟨⟨_, rfl⟩, ⟨_, _, rfl, rfl⟩, ?_⟩
      refine R_s (P := True) (f' := (2, [some (vR 88), some (vI 0), some (vI i)], [vI 0, vR 88], LAY (u (shA A) 87 (wr (A 87) 3 ((rd (A 87) 3) + 1))) (shF F), 0, 0)) hc151 2 rfl trivial ?_
      refine R_cv hc151 rfl rfl ?_ (fun r G h => h)
      refine R_s (P := inI ((F 0) - 1) ∧ True) (f' := (8, [some (vR 88), some (vI 0)], [vI ((F 0) - 1), vI 0, vI 0], LAY (u (shA A) 87 (wr (A 87) 3 ((rd (A 87) 3) + 1))) (shF F), 0, 0)) hc108 6 rfl ⟨⟨by omega, by omega⟩, trivial⟩ ?_
      refine R_cs hc108 rfl rfl ?_ (fun r G h => h)
      refine R_s (P := True) (f' := (2, [some (vI 0), some (vI 0), some (vI ((F 0) - 1))], [vI 0, vI 0], LAY (u (shA A) 87 (wr (A 87) 3 ((rd (A 87) 3) + 1))) (shF F), 0, 0)) hc104 2 rfl trivial ?_
      refine R_ic (t := 14) hc104 rfl rfl (fun (z : 0 < 0) => absurd z (by decide)) (fun (_ : ¬ (0 < 0)) => ?_)
      refine R_s (P := True) (f' := (7, [some (vI 0), some (vI 0), some (vI ((F 0) - 1))], [vI ((F 0) - 1), vI 0], LAY (u (shA A) 87 (wr (A 87) 3 ((rd (A 87) 3) + 1))) (shF F), 0, 0)) hc104 2 rfl trivial ?_
      refine R_ic (t := 14) hc104 rfl rfl (fun (z : (F 0) - 1 < 0) => absurd z (by omega)) (fun (_ : ¬ ((F 0) - 1 < 0)) => ?_)
      refine R_s (P := True) (f' := (15, [some (vI 0), some (vI 0), some (vI ((F 0) - 1))], [vI 1], LAY (u (shA A) 87 (wr (A 87) 3 ((rd (A 87) 3) + 1))) (shF F), 0, 0)) hc104 2 rfl trivial ?_
      refine R_retz hc104 rfl rfl (Or.inr rfl) ?_
      refine R_s (f' := (11, [some (vR 88), some (vI 0)], [vI 1], LAY (u (shA A) 87 (wr (A 87) 3 ((rd (A 87) 3) + 1))) (shF F), 0, 0)) hc108 0 rfl trivial ?_
      refine R_retz hc108 rfl rfl (Or.inr rfl) ?_
      refine R_s (f' := (5, [some (vR 88), some (vI 0), some (vI i)], [vI 1], LAY (u (shA A) 87 (wr (A 87) 3 ((rd (A 87) 3) + 1))) (shF F), 0, 0)) hc151 0 rfl trivial ?_
      refine R_if (t := 24) hc151 rfl rfl (fun (z : 1 = 0) => absurd z (by decide)) (fun (_ : ¬ (1 = 0)) => ?_)
      refine R_s (P := (0 ≤ 0 ∧ 0 < ((A 99).length : Int)) ∧ inI ((rd (A 99) 0) - 1) ∧ True) (f' := (18, [some (vR 88), some (vI 0), some (vI i)], [vI ((rd (A 99) 0) - 1), vI 0, vI i], LAY (u (shA A) 87 (wr (A 87) 3 ((rd (A 87) 3) + 1))) (shF F), 0, 0)) hc151 8 rfl ⟨⟨by omega, by omega⟩, ⟨by omega, by omega⟩, trivial⟩ ?_
      refine R_cs hc151 rfl rfl ?_ (fun r G h => h)
      refine R_s (P := True) (f' := (2, [some (vI i), some (vI 0), some (vI ((rd (A 99) 0) - 1))], [vI 0, vI i], LAY (u (shA A) 87 (wr (A 87) 3 ((rd (A 87) 3) + 1))) (shF F), 0, 0)) hc104 2 rfl trivial ?_
      refine R_ic (t := 14) hc104 rfl rfl (fun (z : i < 0) => absurd z (by omega)) (fun (_ : ¬ (i < 0)) => ?_)
      refine R_s (P := True) (f' := (7, [some (vI i), some (vI 0), some (vI ((rd (A 99) 0) - 1))], [vI ((rd (A 99) 0) - 1), vI i], LAY (u (shA A) 87 (wr (A 87) 3 ((rd (A 87) 3) + 1))) (shF F), 0, 0)) hc104 2 rfl trivial ?_
      refine R_ic (t := 14) hc104 rfl rfl (fun (_ : (rd (A 99) 0) - 1 < i) => ?_) (fun (z : ¬ ((rd (A 99) 0) - 1 < i)) => absurd (show (rd (A 99) 0) - 1 < i by omega) z)
      refine R_s (P := True) (f' := (15, [some (vI i), some (vI 0), some (vI ((rd (A 99) 0) - 1))], [vI 0], LAY (u (shA A) 87 (wr (A 87) 3 ((rd (A 87) 3) + 1))) (shF F), 0, 0)) hc104 1 rfl trivial ?_
      refine R_retz hc104 rfl rfl (Or.inl rfl) ?_
      refine R_s (f' := (21, [some (vR 88), some (vI 0), some (vI i)], [vI 0], LAY (u (shA A) 87 (wr (A 87) 3 ((rd (A 87) 3) + 1))) (shF F), 0, 0)) hc151 0 rfl trivial ?_
      refine R_if (t := 31) hc151 rfl rfl (fun (z : ¬ 0 = 0) => absurd z (by decide)) (fun (_ : ¬ (¬ 0 = 0)) => ?_)
      refine R_s (P := True) (f' := (27, [some (vR 88), some (vI 0), some (vI i)], [vI (-3), vR 88], LAY (u (shA A) 87 (wr (A 87) 3 ((rd (A 87) 3) + 1))) (shF F), 0, 0)) hc151 2 rfl trivial ?_
      refine R_cv hc151 rfl rfl ?_ (fun r G h => h)
      refine R_s (P := inI 3 ∧ (0 ≤ 3 ∧ 3 < ((A 87).length : Int)) ∧ inI ((rd (A 87) 3) + 1) ∧ (0 ≤ 3 ∧ 3 < ((A 87).length : Int)) ∧ True) (f' := (12, [some (vR 88), some (vI (-3))], [vI (-3)], LAY (u (u (shA A) 87 (wr (A 87) 3 ((rd (A 87) 3) + 1))) 89 (wr (A 87) 3 ((rd (A 87) 3) + 1))) (shF F), 0, 0)) hc105 10 rfl ⟨⟨by omega, by omega⟩, ⟨by omega, by omega⟩, ⟨by omega, by omega⟩, ⟨by omega, by omega⟩, trivial⟩ ?_
      refine R_reti hc105 rfl rfl ?_
      refine R_s (f' := (30, [some (vR 88), some (vI 0), some (vI i)], [vI (-3)], LAY (u (u (shA A) 87 (wr (A 87) 3 ((rd (A 87) 3) + 1))) 89 (wr (A 87) 3 ((rd (A 87) 3) + 1))) (shF F), 0, 0)) hc151 0 rfl trivial ?_
      refine R_reti hc151 rfl rfl ?_
      first
        | (exfalso; omega; done)
        | exact ⟨rfl, (u A 87 (wr (A 87) 3 ((rd (A 87) 3) + 1))), F, rfl, rfl, REL_ref hR0 (by decide) (by decide)⟩
    · refine R_s (P := True) (f' := (17, [some (vR 20), some (vI i)], [vI 1], LAY (shA A) (shF F), 0, 0)) hc1 2 rfl trivial ?_
      refine R_retz hc1 rfl rfl (Or.inr rfl) ?_
      refine R_s (f' := (15, [some (vR 1), some (vI 0), some (vI i), some (vR 20)], [vI 1], LAY (shA A) (shF F), 0, 0)) hc77 0 rfl trivial ?_
      refine R_if (t := 25) hc77 rfl rfl (fun (_ : ¬ 1 = 0) => ?_) (fun (z : ¬ (¬ 1 = 0)) => absurd (by decide) z)
      refine R_s (P := True) (f' := (28, [some (vR 1), some (vI 0), some (vI i), some (vR 20)], [vI 0, vR 20, vR 1], LAY (shA A) (shF F), 0, 0)) hc77 3 rfl trivial ?_
      refine R_cv hc77 rfl rfl (l_now0 hR0 hd hS) (fun r G9 hp9 => ?_)
      obtain ⟨rfl, l8, l9, l10, l11, l75, l76, l77, l78, rfl, k8, k9, k10, k11, k75, k76, k77, k78, v75, v76, v77⟩ := hp9
      have y76 : 0 ≤ i → i < F 8 → rd l76 i = te (i).toNat := fun q1 q2 => by
        have z := v76 (i).toNat (by omega)
        rw [show ((((i).toNat : Nat)) : Int) = i by omega] at z
        exact z
      refine R_s (f' := (31, [some (vR 1), some (vI 0), some (vI i), some (vR 20)], [], LAY (u (u (u (u (u (u (u (u (shA A) 8 l8) 9 l9) 10 l10) 11 l11) 75 l75) 76 l76) 77 l77) 78 l78) (u (u (shF F) 14 mg) 15 lo), 0, 0)) hc77 0 rfl trivial ?_
      refine R_s (P := (0 ≤ i ∧ i < ((l76).length : Int)) ∧ True) (f' := (40, [some (vR 1), some (vI 0), some (vI i), some (vR 20)], [vI (rd l76 i)], LAY (u (u (u (u (u (u (u (u (shA A) 8 l8) 9 l9) 10 l10) 11 l11) 75 l75) 76 l76) 77 l77) 78 l78) (u (u (shF F) 14 mg) 15 lo), 0, 0)) hc77 5 rfl ⟨⟨by omega, by omega⟩, trivial⟩ ?_
      refine R_reti hc77 rfl rfl ⟨⟨_, rfl⟩, ⟨_, _, rfl, rfl⟩, ?_⟩
      refine R_s (P := True) (f' := (2, [some (vR 88), some (vI 0), some (vI i)], [vI 0, vR 88], LAY (u (u (u (u (u (u (u (u (shA A) 8 l8) 9 l9) 10 l10) 11 l11) 75 l75) 76 l76) 77 l77) 78 l78) (u (u (shF F) 14 mg) 15 lo), 0, 0)) hc151 2 rfl trivial ?_
      refine R_cv hc151 rfl rfl ?_ (fun r G h => h)
      refine R_s (P := inI ((F 0) - 1) ∧ True) (f' := (8, [some (vR 88), some (vI 0)], [vI ((F 0) - 1), vI 0, vI 0], LAY (u (u (u (u (u (u (u (u (shA A) 8 l8) 9 l9) 10 l10) 11 l11) 75 l75) 76 l76) 77 l77) 78 l78) (u (u (shF F) 14 mg) 15 lo), 0, 0)) hc108 6 rfl ⟨⟨by omega, by omega⟩, trivial⟩ ?_
      refine R_cs hc108 rfl rfl ?_ (fun r G h => h)
      refine R_s (P := True) (f' := (2, [some (vI 0), some (vI 0), some (vI ((F 0) - 1))], [vI 0, vI 0], LAY (u (u (u (u (u (u (u (u (shA A) 8 l8) 9 l9) 10 l10) 11 l11) 75 l75) 76 l76) 77 l77) 78 l78) (u (u (shF F) 14 mg) 15 lo), 0, 0)) hc104 2 rfl trivial ?_
      refine R_ic (t := 14) hc104 rfl rfl (fun (z : 0 < 0) => absurd z (by decide)) (fun (_ : ¬ (0 < 0)) => ?_)
      refine R_s (P := True) (f' := (7, [some (vI 0), some (vI 0), some (vI ((F 0) - 1))], [vI ((F 0) - 1), vI 0], LAY (u (u (u (u (u (u (u (u (shA A) 8 l8) 9 l9) 10 l10) 11 l11) 75 l75) 76 l76) 77 l77) 78 l78) (u (u (shF F) 14 mg) 15 lo), 0, 0)) hc104 2 rfl trivial ?_
      refine R_ic (t := 14) hc104 rfl rfl (fun (z : (F 0) - 1 < 0) => absurd z (by omega)) (fun (_ : ¬ ((F 0) - 1 < 0)) => ?_)
      refine R_s (P := True) (f' := (15, [some (vI 0), some (vI 0), some (vI ((F 0) - 1))], [vI 1], LAY (u (u (u (u (u (u (u (u (shA A) 8 l8) 9 l9) 10 l10) 11 l11) 75 l75) 76 l76) 77 l77) 78 l78) (u (u (shF F) 14 mg) 15 lo), 0, 0)) hc104 2 rfl trivial ?_
      refine R_retz hc104 rfl rfl (Or.inr rfl) ?_
      refine R_s (f' := (11, [some (vR 88), some (vI 0)], [vI 1], LAY (u (u (u (u (u (u (u (u (shA A) 8 l8) 9 l9) 10 l10) 11 l11) 75 l75) 76 l76) 77 l77) 78 l78) (u (u (shF F) 14 mg) 15 lo), 0, 0)) hc108 0 rfl trivial ?_
      refine R_retz hc108 rfl rfl (Or.inr rfl) ?_
      refine R_s (f' := (5, [some (vR 88), some (vI 0), some (vI i)], [vI 1], LAY (u (u (u (u (u (u (u (u (shA A) 8 l8) 9 l9) 10 l10) 11 l11) 75 l75) 76 l76) 77 l77) 78 l78) (u (u (shF F) 14 mg) 15 lo), 0, 0)) hc151 0 rfl trivial ?_
      refine R_if (t := 24) hc151 rfl rfl (fun (z : 1 = 0) => absurd z (by decide)) (fun (_ : ¬ (1 = 0)) => ?_)
      refine R_s (P := (0 ≤ 0 ∧ 0 < ((A 99).length : Int)) ∧ inI ((rd (A 99) 0) - 1) ∧ True) (f' := (18, [some (vR 88), some (vI 0), some (vI i)], [vI ((rd (A 99) 0) - 1), vI 0, vI i], LAY (u (u (u (u (u (u (u (u (shA A) 8 l8) 9 l9) 10 l10) 11 l11) 75 l75) 76 l76) 77 l77) 78 l78) (u (u (shF F) 14 mg) 15 lo), 0, 0)) hc151 8 rfl ⟨⟨by omega, by omega⟩, ⟨by omega, by omega⟩, trivial⟩ ?_
      refine R_cs hc151 rfl rfl ?_ (fun r G h => h)
      refine R_s (P := True) (f' := (2, [some (vI i), some (vI 0), some (vI ((rd (A 99) 0) - 1))], [vI 0, vI i], LAY (u (u (u (u (u (u (u (u (shA A) 8 l8) 9 l9) 10 l10) 11 l11) 75 l75) 76 l76) 77 l77) 78 l78) (u (u (shF F) 14 mg) 15 lo), 0, 0)) hc104 2 rfl trivial ?_
      refine R_ic (t := 14) hc104 rfl rfl (fun (z : i < 0) => absurd z (by omega)) (fun (_ : ¬ (i < 0)) => ?_)
      refine R_s (P := True) (f' := (7, [some (vI i), some (vI 0), some (vI ((rd (A 99) 0) - 1))], [vI ((rd (A 99) 0) - 1), vI i], LAY (u (u (u (u (u (u (u (u (shA A) 8 l8) 9 l9) 10 l10) 11 l11) 75 l75) 76 l76) 77 l77) 78 l78) (u (u (shF F) 14 mg) 15 lo), 0, 0)) hc104 2 rfl trivial ?_
      refine R_ic (t := 14) hc104 rfl rfl (fun (z : (rd (A 99) 0) - 1 < i) => absurd z (by omega)) (fun (_ : ¬ ((rd (A 99) 0) - 1 < i)) => ?_)
      refine R_s (P := True) (f' := (15, [some (vI i), some (vI 0), some (vI ((rd (A 99) 0) - 1))], [vI 1], LAY (u (u (u (u (u (u (u (u (shA A) 8 l8) 9 l9) 10 l10) 11 l11) 75 l75) 76 l76) 77 l77) 78 l78) (u (u (shF F) 14 mg) 15 lo), 0, 0)) hc104 2 rfl trivial ?_
      refine R_retz hc104 rfl rfl (Or.inr rfl) ?_
      refine R_s (f' := (21, [some (vR 88), some (vI 0), some (vI i)], [vI 1], LAY (u (u (u (u (u (u (u (u (shA A) 8 l8) 9 l9) 10 l10) 11 l11) 75 l75) 76 l76) 77 l77) 78 l78) (u (u (shF F) 14 mg) 15 lo), 0, 0)) hc151 0 rfl trivial ?_
      refine R_if (t := 31) hc151 rfl rfl (fun (_ : ¬ 1 = 0) => ?_) (fun (z : ¬ (¬ 1 = 0)) => absurd (by decide) z)
      refine R_s (P := True) (f' := (33, [some (vR 88), some (vI 0), some (vI i)], [vI 0, vR 88], LAY (u (u (u (u (u (u (u (u (shA A) 8 l8) 9 l9) 10 l10) 11 l11) 75 l75) 76 l76) 77 l77) 78 l78) (u (u (shF F) 14 mg) 15 lo), 0, 0)) hc151 2 rfl trivial ?_
      refine R_cv hc151 rfl rfl (l_worksR hR0 (A1 := (u (u (u (u (u (u (u (u (shA A) 8 l8) 9 l9) 10 l10) 11 l11) 75 l75) 76 l76) 77 l77) 78 l78)) (F1 := (u (u (shF F) 14 mg) 15 lo)) rfl rfl rfl rfl rfl rfl rfl rfl rfl rfl rfl rfl rfl (hL 104 (by decide)) (hL 105 (by decide)) (hL 107 (by decide)) (hL 108 (by decide)) (hL 109 (by decide)) (hL 110 (by decide)) (hL 111 (by decide)) hD.1 hD.2 rfl hS) (fun r G9 hp9 => ?_)
      obtain ⟨rfl, l104, l105, l107, l108, l109, l110, l111, ac, rfl, k104, k105, k107, k108, k109, k110, k111, hac, w107, w108⟩ := hp9
      have y107 : 0 ≤ i → i < F 8 → rd l107 i = te (i).toNat := fun q1 q2 => by
        have z := w107 (i).toNat (by omega)
        rw [show ((((i).toNat : Nat)) : Int) = i by omega] at z
        exact z
      refine R_s (f' := (36, [some (vR 88), some (vI 0), some (vI i)], [], LAY (u (u (u (u (u (u (u (u (u (u (u (u (u (u (u (shA A) 8 l8) 9 l9) 10 l10) 11 l11) 75 l75) 76 l76) 77 l77) 78 l78) 109 l109) 104 l104) 105 l105) 110 l110) 111 l111) 108 l108) 107 l107) (u (u (u (u (u (u (shF F) 14 mg) 15 lo) 28 (N_Y A F 0)) 29 ac) 30 mg) 31 lo), 0, 0)) hc151 0 rfl trivial ?_
      refine R_s (P := (0 ≤ i ∧ i < ((l107).length : Int)) ∧ True) (f' := (42, [some (vR 88), some (vI 0), some (vI i)], [vI (rd l107 i)], LAY (u (u (u (u (u (u (u (u (u (u (u (u (u (u (u (shA A) 8 l8) 9 l9) 10 l10) 11 l11) 75 l75) 76 l76) 77 l77) 78 l78) 109 l109) 104 l104) 105 l105) 110 l110) 111 l111) 108 l108) 107 l107) (u (u (u (u (u (u (shF F) 14 mg) 15 lo) 28 (N_Y A F 0)) 29 ac) 30 mg) 31 lo), 0, 0)) hc151 4 rfl ⟨⟨by omega, by omega⟩, trivial⟩ ?_
      refine R_reti hc151 rfl rfl ?_
      first
        | (exfalso; omega; done)
        | exact ⟨(by rw [show rd l107 i = rd l76 i by omega]), (u (u (u (u (u (u (u (u (u (u (u (u (u (u (u A 8 l8) 9 l9) 10 l10) 11 l11) 75 l75) 76 l76) 77 l77) 78 l78) 109 l109) 104 l104) 105 l105) 110 l110) 111 l111) 108 l108) 107 l107), (u (u (u (u (u (u F 14 mg) 15 lo) 28 (N_Y A F 0)) 29 ac) 30 mg) 31 lo), rfl, rfl, ⟨(LENS_u (LENS_u (LENS_u (LENS_u (LENS_u (LENS_u (LENS_u (LENS_u (LENS_u (LENS_u (LENS_u (LENS_u (LENS_u (LENS_u (LENS_u hL (by show (l8).length = (A 8).length; rw [k8, hL 8 (by decide)]; rfl)) (by show (l9).length = (A 9).length; rw [k9, hL 9 (by decide)]; rfl)) (by show (l10).length = (A 10).length; rw [k10, hL 10 (by decide)]; rfl)) (by show (l11).length = (A 11).length; rw [k11, hL 11 (by decide)]; rfl)) (by show (l75).length = (A 75).length; rw [k75, hL 75 (by decide)]; rfl)) (by show (l76).length = (A 76).length; rw [k76, hL 76 (by decide)]; rfl)) (by show (l77).length = (A 77).length; rw [k77, hL 77 (by decide)]; rfl)) (by show (l78).length = (A 78).length; rw [k78, hL 78 (by decide)]; rfl)) (by show (l109).length = (A 109).length; rw [k109, hL 109 (by decide)]; rfl)) (by show (l104).length = (A 104).length; rw [k104, hL 104 (by decide)]; rfl)) (by show (l105).length = (A 105).length; rw [k105, hL 105 (by decide)]; rfl)) (by show (l110).length = (A 110).length; rw [k110, hL 110 (by decide)]; rfl)) (by show (l111).length = (A 111).length; rw [k111, hL 111 (by decide)]; rfl)) (by show (l108).length = (A 108).length; rw [k108, hL 108 (by decide)]; rfl)) (by show (l107).length = (A 107).length; rw [k107, hL 107 (by decide)]; rfl)), hR0.2.1, hR0.2.2.1, hR0.2.2.2.1, hR0.2.2.2.2.1, hR0.2.2.2.2.2.1, hR0.2.2.2.2.2.2.1, hR0.2.2.2.2.2.2.2.1, hR0.2.2.2.2.2.2.2.2.1, (REFU_c hR0.2.2.2.2.2.2.2.2.2)⟩⟩

theorem op_gets_1 {c : Int} {A : Nat → List Int} {F : Nat → Int} (hR : REL c A F) (hc : c < 512) (i : Int) (i_i : inI i) (hd : (1 : Int) < F 0) : R 77 (0, L0 77 [vR 1, vI 1, vI i], [], LAY (shA A) (shF F), 0, 0) (fun r G => (∃ x, r = some (vI x)) ∧ (∃ (A1 : Nat → List Int) (F1 : Nat → Int), G = LAY A1 F1 ∧ A1 0 = A 0) ∧ R 151 (0, L0 151 [vR 88, vI 1, vI i], [], G, 0, 0) (fun r2 G2 => r2 = r ∧ ∃ (A' : Nat → List Int) (F' : Nat → Int), G2 = LAY (shA A') (shF F') ∧ A' 0 = A 0 ∧ REL (c + 1) A' F')) := by
  have hR0 := hR
  obtain ⟨hL, hPE, hTH, hTP, hDE, hLE, hNO, hAC, hRO, hRE⟩ := hR
  have j_i := i_i
  unfold inI at j_i
  have h87 : (A 87).length = 9 := hL 87 (by decide)
  have h99 : (A 99).length = 6 := hL 99 (by decide)
  have r2 := REFU_at hRE (k := 2) (by decide) (by decide) hc
  have r3 := REFU_at hRE (k := 3) (by decide) (by decide) hc
  have r4 := REFU_at hRE (k := 4) (by decide) (by decide) hc
  have r5 := REFU_at hRE (k := 5) (by decide) (by decide) hc
  have r6 := REFU_at hRE (k := 6) (by decide) (by decide) hc
  have r7 := REFU_at hRE (k := 7) (by decide) (by decide) hc
  have r8 := REFU_at hRE (k := 8) (by decide) (by decide) hc
  obtain ⟨t1, t2, t3, t4, t5, t6⟩ := hTH
  obtain ⟨p1, p2, p3, p4, p5, p6⟩ := hPE
  have hD := D_at1 hR0 hd
  have he1 := hD.1.1
  have he2 := hD.1.2.1
  have hme : rd (A 99) 1 = F 9 := by
    have := hD.2.2.2.2.1
    omega
  obtain ⟨so, te, tp, mg, pm, lo, hS⟩ := SPL_ex A F (N_al A F) (N_Q A 30) (F 9).toNat (N_Y A F 1)
  refine R_s (P := True) (f' := (2, [some (vR 1), some (vI 1), some (vI i), none], [vI 1, vR 1], LAY (shA A) (shF F), 0, 0)) hc77 2 rfl trivial ?_
  refine R_cv hc77 rfl rfl ?_ (fun r G h => h)
  refine R_s (P := True) (f' := (2, [some (vR 1), some (vI 1)], [vI 1, vR 1], LAY (shA A) (shF F), 0, 0)) hc99 2 rfl trivial ?_
  refine R_cv hc99 rfl rfl ?_ (fun r G h => h)
  refine R_s (P := True) (f' := (1, [some (vR 1), some (vI 1)], [vI 1], LAY (shA A) (shF F), 0, 0)) hc98 1 rfl trivial ?_
  refine R_if (t := 16) hc98 rfl rfl (fun (z : 1 < 0) => absurd z (by decide)) (fun (_ : ¬ (1 < 0)) => ?_)
  refine R_s (P := True) (f' := (9, [some (vR 1), some (vI 1)], [vI (F 0), vI 1], LAY (shA A) (shF F), 0, 0)) hc98 3 rfl trivial ?_
  refine R_ic (t := 16) hc98 rfl rfl (fun (z : F 0 ≤ 1) => absurd z (by omega)) (fun (_ : ¬ (F 0 ≤ 1)) => ?_)
  refine R_s (P := True) (f' := (17, [some (vR 1), some (vI 1)], [vI 1], LAY (shA A) (shF F), 0, 0)) hc98 2 rfl trivial ?_
  refine R_retz hc98 rfl rfl (Or.inr rfl) ?_
  refine R_s (f' := (5, [some (vR 1), some (vI 1)], [vI 1], LAY (shA A) (shF F), 0, 0)) hc99 0 rfl trivial ?_
  refine R_if (t := 17) hc99 rfl rfl (fun (z : 1 = 0) => absurd z (by decide)) (fun (_ : ¬ (1 = 0)) => ?_)
  refine R_s (P := (0 ≤ (1 : Int) ∧ (1 : Int) < (([some 20, some 29, some 38, some 47, some 56, some 65] : List (Option Nat)).length : Int)) ∧ True) (f' := (18, [some (vR 1), some (vI 1)], [vR 29], LAY (shA A) (shF F), 0, 0)) hc99 5 rfl ⟨(by decide), trivial⟩ ?_
  refine R_reta hc99 rfl rfl ?_
  refine R_s (f' := (5, [some (vR 1), some (vI 1), some (vI i), none], [vR 29], LAY (shA A) (shF F), 0, 0)) hc77 0 rfl trivial ?_
  refine R_s (P := True) (f' := (12, [some (vR 1), some (vI 1), some (vI i), some (vR 29)], [vI i, vR 29], LAY (shA A) (shF F), 0, 0)) hc77 5 rfl trivial ?_
  refine R_cv hc77 rfl rfl ?_ (fun r G h => h)
  refine R_s (P := True) (f' := (1, [some (vR 29), some (vI i)], [vI i], LAY (shA A) (shF F), 0, 0)) hc1 1 rfl trivial ?_
  refine R_if (t := 16) hc1 rfl rfl (fun (c4 : i < 0) => ?_) (fun (c4 : ¬ (i < 0)) => ?_)
  · refine R_s (P := True) (f' := (17, [some (vR 29), some (vI i)], [vI 0], LAY (shA A) (shF F), 0, 0)) hc1 1 rfl trivial ?_
    refine R_retz hc1 rfl rfl (Or.inl rfl) ?_
    refine R_s (f' := (15, [some (vR 1), some (vI 1), some (vI i), some (vR 29)], [vI 0], LAY (shA A) (shF F), 0, 0)) hc77 0 rfl trivial ?_
    refine R_if (t := 25) hc77 rfl rfl (fun (z : ¬ 0 = 0) => absurd z (by decide)) (fun (_ : ¬ (¬ 0 = 0)) => ?_)
    refine R_s (P := True) (f' := (21, [some (vR 1), some (vI 1), some (vI i), some (vR 29)], [vI (-3), vR 1], LAY (shA A) (shF F), 0, 0)) hc77 2 rfl trivial ?_
    refine R_cv hc77 rfl rfl ?_ (fun r G h => h)
    refine R_s (P := True) (f' := (3, [some (vR 1), some (vI (-3))], [vI (-2), vI (-3)], LAY (shA A) (shF F), 0, 0)) hc93 2 rfl trivial ?_
    refine R_ic (t := 23) hc93 rfl rfl (fun (z : (-2) < (-3)) => absurd z (by decide)) (fun (_ : ¬ ((-2) < (-3))) => ?_)
    refine R_s (P := True) (f' := (9, [some (vR 1), some (vI (-3))], [vI (-8), vI (-3)], LAY (shA A) (shF F), 0, 0)) hc93 2 rfl trivial ?_
    refine R_ic (t := 23) hc93 rfl rfl (fun (z : (-3) < (-8)) => absurd z (by decide)) (fun (_ : ¬ ((-3) < (-8))) => ?_)
    refine R_s (P := inI 3 ∧ (0 ≤ 3 ∧ 3 < ((A 87).length : Int)) ∧ inI ((rd (A 87) 3) + 1) ∧ (0 ≤ 3 ∧ 3 < ((A 87).length : Int)) ∧ True) (f' := (24, [some (vR 1), some (vI (-3))], [vI (-3)], LAY (u (shA A) 87 (wr (A 87) 3 ((rd (A 87) 3) + 1))) (shF F), 0, 0)) hc93 10 rfl ⟨⟨by omega, by omega⟩, ⟨by omega, by omega⟩, ⟨by omega, by omega⟩, ⟨by omega, by omega⟩, trivial⟩ ?_
    refine R_reti hc93 rfl rfl ?_
    refine R_s (f' := (24, [some (vR 1), some (vI 1), some (vI i), some (vR 29)], [vI (-3)], LAY (u (shA A) 87 (wr (A 87) 3 ((rd (A 87) 3) + 1))) (shF F), 0, 0)) hc77 0 rfl trivial ?_
    refine R_reti hc77 rfl rfl ⟨⟨_, rfl⟩, ⟨_, _, rfl, rfl⟩, ?_⟩
    refine R_s (P := True) (f' := (2, [some (vR 88), some (vI 1), some (vI i)], [vI 1, vR 88], LAY (u (shA A) 87 (wr (A 87) 3 ((rd (A 87) 3) + 1))) (shF F), 0, 0)) hc151 2 rfl trivial ?_
    refine R_cv hc151 rfl rfl ?_ (fun r G h => h)
    refine R_s (P := inI ((F 0) - 1) ∧ True) (f' := (8, [some (vR 88), some (vI 1)], [vI ((F 0) - 1), vI 0, vI 1], LAY (u (shA A) 87 (wr (A 87) 3 ((rd (A 87) 3) + 1))) (shF F), 0, 0)) hc108 6 rfl ⟨⟨by omega, by omega⟩, trivial⟩ ?_
    refine R_cs hc108 rfl rfl ?_ (fun r G h => h)
    refine R_s (P := True) (f' := (2, [some (vI 1), some (vI 0), some (vI ((F 0) - 1))], [vI 0, vI 1], LAY (u (shA A) 87 (wr (A 87) 3 ((rd (A 87) 3) + 1))) (shF F), 0, 0)) hc104 2 rfl trivial ?_
    refine R_ic (t := 14) hc104 rfl rfl (fun (z : 1 < 0) => absurd z (by decide)) (fun (_ : ¬ (1 < 0)) => ?_)
    refine R_s (P := True) (f' := (7, [some (vI 1), some (vI 0), some (vI ((F 0) - 1))], [vI ((F 0) - 1), vI 1], LAY (u (shA A) 87 (wr (A 87) 3 ((rd (A 87) 3) + 1))) (shF F), 0, 0)) hc104 2 rfl trivial ?_
    refine R_ic (t := 14) hc104 rfl rfl (fun (z : (F 0) - 1 < 1) => absurd z (by omega)) (fun (_ : ¬ ((F 0) - 1 < 1)) => ?_)
    refine R_s (P := True) (f' := (15, [some (vI 1), some (vI 0), some (vI ((F 0) - 1))], [vI 1], LAY (u (shA A) 87 (wr (A 87) 3 ((rd (A 87) 3) + 1))) (shF F), 0, 0)) hc104 2 rfl trivial ?_
    refine R_retz hc104 rfl rfl (Or.inr rfl) ?_
    refine R_s (f' := (11, [some (vR 88), some (vI 1)], [vI 1], LAY (u (shA A) 87 (wr (A 87) 3 ((rd (A 87) 3) + 1))) (shF F), 0, 0)) hc108 0 rfl trivial ?_
    refine R_retz hc108 rfl rfl (Or.inr rfl) ?_
    refine R_s (f' := (5, [some (vR 88), some (vI 1), some (vI i)], [vI 1], LAY (u (shA A) 87 (wr (A 87) 3 ((rd (A 87) 3) + 1))) (shF F), 0, 0)) hc151 0 rfl trivial ?_
    refine R_if (t := 24) hc151 rfl rfl (fun (z : 1 = 0) => absurd z (by decide)) (fun (_ : ¬ (1 = 0)) => ?_)
    refine R_s (P := (0 ≤ 1 ∧ 1 < ((A 99).length : Int)) ∧ inI ((rd (A 99) 1) - 1) ∧ True) (f' := (18, [some (vR 88), some (vI 1), some (vI i)], [vI ((rd (A 99) 1) - 1), vI 0, vI i], LAY (u (shA A) 87 (wr (A 87) 3 ((rd (A 87) 3) + 1))) (shF F), 0, 0)) hc151 8 rfl ⟨⟨by omega, by omega⟩, ⟨by omega, by omega⟩, trivial⟩ ?_
    refine R_cs hc151 rfl rfl ?_ (fun r G h => h)
    refine R_s (P := True) (f' := (2, [some (vI i), some (vI 0), some (vI ((rd (A 99) 1) - 1))], [vI 0, vI i], LAY (u (shA A) 87 (wr (A 87) 3 ((rd (A 87) 3) + 1))) (shF F), 0, 0)) hc104 2 rfl trivial ?_
    refine R_ic (t := 14) hc104 rfl rfl (fun (_ : i < 0) => ?_) (fun (z : ¬ (i < 0)) => absurd (show i < 0 by omega) z)
    refine R_s (P := True) (f' := (15, [some (vI i), some (vI 0), some (vI ((rd (A 99) 1) - 1))], [vI 0], LAY (u (shA A) 87 (wr (A 87) 3 ((rd (A 87) 3) + 1))) (shF F), 0, 0)) hc104 1 rfl trivial ?_
    refine R_retz hc104 rfl rfl (Or.inl rfl) ?_
    refine R_s (f' := (21, [some (vR 88), some (vI 1), some (vI i)], [vI 0], LAY (u (shA A) 87 (wr (A 87) 3 ((rd (A 87) 3) + 1))) (shF F), 0, 0)) hc151 0 rfl trivial ?_
    refine R_if (t := 31) hc151 rfl rfl (fun (z : ¬ 0 = 0) => absurd z (by decide)) (fun (_ : ¬ (¬ 0 = 0)) => ?_)
    refine R_s (P := True) (f' := (27, [some (vR 88), some (vI 1), some (vI i)], [vI (-3), vR 88], LAY (u (shA A) 87 (wr (A 87) 3 ((rd (A 87) 3) + 1))) (shF F), 0, 0)) hc151 2 rfl trivial ?_
    refine R_cv hc151 rfl rfl ?_ (fun r G h => h)
    refine R_s (P := inI 3 ∧ (0 ≤ 3 ∧ 3 < ((A 87).length : Int)) ∧ inI ((rd (A 87) 3) + 1) ∧ (0 ≤ 3 ∧ 3 < ((A 87).length : Int)) ∧ True) (f' := (12, [some (vR 88), some (vI (-3))], [vI (-3)], LAY (u (u (shA A) 87 (wr (A 87) 3 ((rd (A 87) 3) + 1))) 89 (wr (A 87) 3 ((rd (A 87) 3) + 1))) (shF F), 0, 0)) hc105 10 rfl ⟨⟨by omega, by omega⟩, ⟨by omega, by omega⟩, ⟨by omega, by omega⟩, ⟨by omega, by omega⟩, trivial⟩ ?_
    refine R_reti hc105 rfl rfl ?_
    refine R_s (f' := (30, [some (vR 88), some (vI 1), some (vI i)], [vI (-3)], LAY (u (u (shA A) 87 (wr (A 87) 3 ((rd (A 87) 3) + 1))) 89 (wr (A 87) 3 ((rd (A 87) 3) + 1))) (shF F), 0, 0)) hc151 0 rfl trivial ?_
    refine R_reti hc151 rfl rfl ?_
    first
      | (exfalso; omega; done)
      | exact ⟨rfl, (u A 87 (wr (A 87) 3 ((rd (A 87) 3) + 1))), F, rfl, rfl, REL_ref hR0 (by decide) (by decide)⟩
  · refine R_s (P := True) (f' := (9, [some (vR 29), some (vI i)], [vI (F 9), vI i], LAY (shA A) (shF F), 0, 0)) hc1 3 rfl trivial ?_
    refine R_ic (t := 16) hc1 rfl rfl (fun (c5 : F 9 ≤ i) => ?_) (fun (c5 : ¬ (F 9 ≤ i)) => ?_)
    · refine R_s (P := True) (f' := (17, [some (vR 29), some (vI i)], [vI 0], LAY (shA A) (shF F), 0, 0)) hc1 1 rfl trivial ?_
      refine R_retz hc1 rfl rfl (Or.inl rfl) ?_
      refine R_s (f' := (15, [some (vR 1), some (vI 1), some (vI i), some (vR 29)], [vI 0], LAY (shA A) (shF F), 0, 0)) hc77 0 rfl trivial ?_
      refine R_if (t := 25) hc77 rfl rfl (fun (z : ¬ 0 = 0) => absurd z (by decide)) (fun (_ : ¬ (¬ 0 = 0)) => ?_)
      refine R_s (P := True) (f' := (21, [some (vR 1), some (vI 1), some (vI i), some (vR 29)], [vI (-3), vR 1], LAY (shA A) (shF F), 0, 0)) hc77 2 rfl trivial ?_
      refine R_cv hc77 rfl rfl ?_ (fun r G h => h)
      refine R_s (P := True) (f' := (3, [some (vR 1), some (vI (-3))], [vI (-2), vI (-3)], LAY (shA A) (shF F), 0, 0)) hc93 2 rfl trivial ?_
      refine R_ic (t := 23) hc93 rfl rfl (fun (z : (-2) < (-3)) => absurd z (by decide)) (fun (_ : ¬ ((-2) < (-3))) => ?_)
      refine R_s (P := True) (f' := (9, [some (vR 1), some (vI (-3))], [vI (-8), vI (-3)], LAY (shA A) (shF F), 0, 0)) hc93 2 rfl trivial ?_
      refine R_ic (t := 23) hc93 rfl rfl (fun (z : (-3) < (-8)) => absurd z (by decide)) (fun (_ : ¬ ((-3) < (-8))) => ?_)
      refine R_s (P := inI 3 ∧ (0 ≤ 3 ∧ 3 < ((A 87).length : Int)) ∧ inI ((rd (A 87) 3) + 1) ∧ (0 ≤ 3 ∧ 3 < ((A 87).length : Int)) ∧ True) (f' := (24, [some (vR 1), some (vI (-3))], [vI (-3)], LAY (u (shA A) 87 (wr (A 87) 3 ((rd (A 87) 3) + 1))) (shF F), 0, 0)) hc93 10 rfl ⟨⟨by omega, by omega⟩, ⟨by omega, by omega⟩, ⟨by omega, by omega⟩, ⟨by omega, by omega⟩, trivial⟩ ?_
      refine R_reti hc93 rfl rfl ?_
      refine R_s (f' := (24, [some (vR 1), some (vI 1), some (vI i), some (vR 29)], [vI (-3)], LAY (u (shA A) 87 (wr (A 87) 3 ((rd (A 87) 3) + 1))) (shF F), 0, 0)) hc77 0 rfl trivial ?_
      refine R_reti hc77 rfl rfl ⟨⟨_, rfl⟩, ⟨_, _, rfl, rfl⟩, ?_⟩
      refine R_s (P := True) (f' := (2, [some (vR 88), some (vI 1), some (vI i)], [vI 1, vR 88], LAY (u (shA A) 87 (wr (A 87) 3 ((rd (A 87) 3) + 1))) (shF F), 0, 0)) hc151 2 rfl trivial ?_
      refine R_cv hc151 rfl rfl ?_ (fun r G h => h)
      refine R_s (P := inI ((F 0) - 1) ∧ True) (f' := (8, [some (vR 88), some (vI 1)], [vI ((F 0) - 1), vI 0, vI 1], LAY (u (shA A) 87 (wr (A 87) 3 ((rd (A 87) 3) + 1))) (shF F), 0, 0)) hc108 6 rfl ⟨⟨by omega, by omega⟩, trivial⟩ ?_
      refine R_cs hc108 rfl rfl ?_ (fun r G h => h)
      refine R_s (P := True) (f' := (2, [some (vI 1), some (vI 0), some (vI ((F 0) - 1))], [vI 0, vI 1], LAY (u (shA A) 87 (wr (A 87) 3 ((rd (A 87) 3) + 1))) (shF F), 0, 0)) hc104 2 rfl trivial ?_
      refine R_ic (t := 14) hc104 rfl rfl (fun (z : 1 < 0) => absurd z (by decide)) (fun (_ : ¬ (1 < 0)) => ?_)
      refine R_s (P := True) (f' := (7, [some (vI 1), some (vI 0), some (vI ((F 0) - 1))], [vI ((F 0) - 1), vI 1], LAY (u (shA A) 87 (wr (A 87) 3 ((rd (A 87) 3) + 1))) (shF F), 0, 0)) hc104 2 rfl trivial ?_
      refine R_ic (t := 14) hc104 rfl rfl (fun (z : (F 0) - 1 < 1) => absurd z (by omega)) (fun (_ : ¬ ((F 0) - 1 < 1)) => ?_)
      refine R_s (P := True) (f' := (15, [some (vI 1), some (vI 0), some (vI ((F 0) - 1))], [vI 1], LAY (u (shA A) 87 (wr (A 87) 3 ((rd (A 87) 3) + 1))) (shF F), 0, 0)) hc104 2 rfl trivial ?_
      refine R_retz hc104 rfl rfl (Or.inr rfl) ?_
      refine R_s (f' := (11, [some (vR 88), some (vI 1)], [vI 1], LAY (u (shA A) 87 (wr (A 87) 3 ((rd (A 87) 3) + 1))) (shF F), 0, 0)) hc108 0 rfl trivial ?_
      refine R_retz hc108 rfl rfl (Or.inr rfl) ?_
      refine R_s (f' := (5, [some (vR 88), some (vI 1), some (vI i)], [vI 1], LAY (u (shA A) 87 (wr (A 87) 3 ((rd (A 87) 3) + 1))) (shF F), 0, 0)) hc151 0 rfl trivial ?_
      refine R_if (t := 24) hc151 rfl rfl (fun (z : 1 = 0) => absurd z (by decide)) (fun (_ : ¬ (1 = 0)) => ?_)
      refine R_s (P := (0 ≤ 1 ∧ 1 < ((A 99).length : Int)) ∧ inI ((rd (A 99) 1) - 1) ∧ True) (f' := (18, [some (vR 88), some (vI 1), some (vI i)], [vI ((rd (A 99) 1) - 1), vI 0, vI i], LAY (u (shA A) 87 (wr (A 87) 3 ((rd (A 87) 3) + 1))) (shF F), 0, 0)) hc151 8 rfl ⟨⟨by omega, by omega⟩, ⟨by omega, by omega⟩, trivial⟩ ?_
      refine R_cs hc151 rfl rfl ?_ (fun r G h => h)
      refine R_s (P := True) (f' := (2, [some (vI i), some (vI 0), some (vI ((rd (A 99) 1) - 1))], [vI 0, vI i], LAY (u (shA A) 87 (wr (A 87) 3 ((rd (A 87) 3) + 1))) (shF F), 0, 0)) hc104 2 rfl trivial ?_
      refine R_ic (t := 14) hc104 rfl rfl (fun (z : i < 0) => absurd z (by omega)) (fun (_ : ¬ (i < 0)) => ?_)
      refine R_s (P := True) (f' := (7, [some (vI i), some (vI 0), some (vI ((rd (A 99) 1) - 1))], [vI ((rd (A 99) 1) - 1), vI i], LAY (u (shA A) 87 (wr (A 87) 3 ((rd (A 87) 3) + 1))) (shF F), 0, 0)) hc104 2 rfl trivial ?_
      refine R_ic (t := 14) hc104 rfl rfl (fun (_ : (rd (A 99) 1) - 1 < i) => ?_) (fun (z : ¬ ((rd (A 99) 1) - 1 < i)) => absurd (show (rd (A 99) 1) - 1 < i by omega) z)
      refine R_s (P := True) (f' := (15, [some (vI i), some (vI 0), some (vI ((rd (A 99) 1) - 1))], [vI 0], LAY (u (shA A) 87 (wr (A 87) 3 ((rd (A 87) 3) + 1))) (shF F), 0, 0)) hc104 1 rfl trivial ?_
      refine R_retz hc104 rfl rfl (Or.inl rfl) ?_
      refine R_s (f' := (21, [some (vR 88), some (vI 1), some (vI i)], [vI 0], LAY (u (shA A) 87 (wr (A 87) 3 ((rd (A 87) 3) + 1))) (shF F), 0, 0)) hc151 0 rfl trivial ?_
      refine R_if (t := 31) hc151 rfl rfl (fun (z : ¬ 0 = 0) => absurd z (by decide)) (fun (_ : ¬ (¬ 0 = 0)) => ?_)
      refine R_s (P := True) (f' := (27, [some (vR 88), some (vI 1), some (vI i)], [vI (-3), vR 88], LAY (u (shA A) 87 (wr (A 87) 3 ((rd (A 87) 3) + 1))) (shF F), 0, 0)) hc151 2 rfl trivial ?_
      refine R_cv hc151 rfl rfl ?_ (fun r G h => h)
      refine R_s (P := inI 3 ∧ (0 ≤ 3 ∧ 3 < ((A 87).length : Int)) ∧ inI ((rd (A 87) 3) + 1) ∧ (0 ≤ 3 ∧ 3 < ((A 87).length : Int)) ∧ True) (f' := (12, [some (vR 88), some (vI (-3))], [vI (-3)], LAY (u (u (shA A) 87 (wr (A 87) 3 ((rd (A 87) 3) + 1))) 89 (wr (A 87) 3 ((rd (A 87) 3) + 1))) (shF F), 0, 0)) hc105 10 rfl ⟨⟨by omega, by omega⟩, ⟨by omega, by omega⟩, ⟨by omega, by omega⟩, ⟨by omega, by omega⟩, trivial⟩ ?_
      refine R_reti hc105 rfl rfl ?_
      refine R_s (f' := (30, [some (vR 88), some (vI 1), some (vI i)], [vI (-3)], LAY (u (u (shA A) 87 (wr (A 87) 3 ((rd (A 87) 3) + 1))) 89 (wr (A 87) 3 ((rd (A 87) 3) + 1))) (shF F), 0, 0)) hc151 0 rfl trivial ?_
      refine R_reti hc151 rfl rfl ?_
      first
        | (exfalso; omega; done)
        | exact ⟨rfl, (u A 87 (wr (A 87) 3 ((rd (A 87) 3) + 1))), F, rfl, rfl, REL_ref hR0 (by decide) (by decide)⟩
    · refine R_s (P := True) (f' := (17, [some (vR 29), some (vI i)], [vI 1], LAY (shA A) (shF F), 0, 0)) hc1 2 rfl trivial ?_
      refine R_retz hc1 rfl rfl (Or.inr rfl) ?_
      refine R_s (f' := (15, [some (vR 1), some (vI 1), some (vI i), some (vR 29)], [vI 1], LAY (shA A) (shF F), 0, 0)) hc77 0 rfl trivial ?_
      refine R_if (t := 25) hc77 rfl rfl (fun (_ : ¬ 1 = 0) => ?_) (fun (z : ¬ (¬ 1 = 0)) => absurd (by decide) z)
      refine R_s (P := True) (f' := (28, [some (vR 1), some (vI 1), some (vI i), some (vR 29)], [vI 1, vR 29, vR 1], LAY (shA A) (shF F), 0, 0)) hc77 3 rfl trivial ?_
      refine R_cv hc77 rfl rfl (l_now1 hR0 hd hS) (fun r G9 hp9 => ?_)
      obtain ⟨rfl, l8, l9, l10, l11, l75, l76, l77, l78, rfl, k8, k9, k10, k11, k75, k76, k77, k78, v75, v76, v77⟩ := hp9
      have y76 : 0 ≤ i → i < F 9 → rd l76 i = te (i).toNat := fun q1 q2 => by
        have z := v76 (i).toNat (by omega)
        rw [show ((((i).toNat : Nat)) : Int) = i by omega] at z
        exact z
      refine R_s (f' := (31, [some (vR 1), some (vI 1), some (vI i), some (vR 29)], [], LAY (u (u (u (u (u (u (u (u (shA A) 8 l8) 9 l9) 10 l10) 11 l11) 75 l75) 76 l76) 77 l77) 78 l78) (u (u (shF F) 14 mg) 15 lo), 0, 0)) hc77 0 rfl trivial ?_
      refine R_s (P := (0 ≤ i ∧ i < ((l76).length : Int)) ∧ True) (f' := (40, [some (vR 1), some (vI 1), some (vI i), some (vR 29)], [vI (rd l76 i)], LAY (u (u (u (u (u (u (u (u (shA A) 8 l8) 9 l9) 10 l10) 11 l11) 75 l75) 76 l76) 77 l77) 78 l78) (u (u (shF F) 14 mg) 15 lo), 0, 0)) hc77 5 rfl ⟨⟨by omega, by omega⟩, trivial⟩ ?_
      refine R_reti hc77 rfl rfl ⟨⟨_, rfl⟩, ⟨_, _, rfl, rfl⟩, ?_⟩
      refine R_s (P := True) (f' := (2, [some (vR 88), some (vI 1), some (vI i)], [vI 1, vR 88], LAY (u (u (u (u (u (u (u (u (shA A) 8 l8) 9 l9) 10 l10) 11 l11) 75 l75) 76 l76) 77 l77) 78 l78) (u (u (shF F) 14 mg) 15 lo), 0, 0)) hc151 2 rfl trivial ?_
      refine R_cv hc151 rfl rfl ?_ (fun r G h => h)
      refine R_s (P := inI ((F 0) - 1) ∧ True) (f' := (8, [some (vR 88), some (vI 1)], [vI ((F 0) - 1), vI 0, vI 1], LAY (u (u (u (u (u (u (u (u (shA A) 8 l8) 9 l9) 10 l10) 11 l11) 75 l75) 76 l76) 77 l77) 78 l78) (u (u (shF F) 14 mg) 15 lo), 0, 0)) hc108 6 rfl ⟨⟨by omega, by omega⟩, trivial⟩ ?_
      refine R_cs hc108 rfl rfl ?_ (fun r G h => h)
      refine R_s (P := True) (f' := (2, [some (vI 1), some (vI 0), some (vI ((F 0) - 1))], [vI 0, vI 1], LAY (u (u (u (u (u (u (u (u (shA A) 8 l8) 9 l9) 10 l10) 11 l11) 75 l75) 76 l76) 77 l77) 78 l78) (u (u (shF F) 14 mg) 15 lo), 0, 0)) hc104 2 rfl trivial ?_
      refine R_ic (t := 14) hc104 rfl rfl (fun (z : 1 < 0) => absurd z (by decide)) (fun (_ : ¬ (1 < 0)) => ?_)
      refine R_s (P := True) (f' := (7, [some (vI 1), some (vI 0), some (vI ((F 0) - 1))], [vI ((F 0) - 1), vI 1], LAY (u (u (u (u (u (u (u (u (shA A) 8 l8) 9 l9) 10 l10) 11 l11) 75 l75) 76 l76) 77 l77) 78 l78) (u (u (shF F) 14 mg) 15 lo), 0, 0)) hc104 2 rfl trivial ?_
      refine R_ic (t := 14) hc104 rfl rfl (fun (z : (F 0) - 1 < 1) => absurd z (by omega)) (fun (_ : ¬ ((F 0) - 1 < 1)) => ?_)
      refine R_s (P := True) (f' := (15, [some (vI 1), some (vI 0), some (vI ((F 0) - 1))], [vI 1], LAY (u (u (u (u (u (u (u (u (shA A) 8 l8) 9 l9) 10 l10) 11 l11) 75 l75) 76 l76) 77 l77) 78 l78) (u (u (shF F) 14 mg) 15 lo), 0, 0)) hc104 2 rfl trivial ?_
      refine R_retz hc104 rfl rfl (Or.inr rfl) ?_
      refine R_s (f' := (11, [some (vR 88), some (vI 1)], [vI 1], LAY (u (u (u (u (u (u (u (u (shA A) 8 l8) 9 l9) 10 l10) 11 l11) 75 l75) 76 l76) 77 l77) 78 l78) (u (u (shF F) 14 mg) 15 lo), 0, 0)) hc108 0 rfl trivial ?_
      refine R_retz hc108 rfl rfl (Or.inr rfl) ?_
      refine R_s (f' := (5, [some (vR 88), some (vI 1), some (vI i)], [vI 1], LAY (u (u (u (u (u (u (u (u (shA A) 8 l8) 9 l9) 10 l10) 11 l11) 75 l75) 76 l76) 77 l77) 78 l78) (u (u (shF F) 14 mg) 15 lo), 0, 0)) hc151 0 rfl trivial ?_
      refine R_if (t := 24) hc151 rfl rfl (fun (z : 1 = 0) => absurd z (by decide)) (fun (_ : ¬ (1 = 0)) => ?_)
      refine R_s (P := (0 ≤ 1 ∧ 1 < ((A 99).length : Int)) ∧ inI ((rd (A 99) 1) - 1) ∧ True) (f' := (18, [some (vR 88), some (vI 1), some (vI i)], [vI ((rd (A 99) 1) - 1), vI 0, vI i], LAY (u (u (u (u (u (u (u (u (shA A) 8 l8) 9 l9) 10 l10) 11 l11) 75 l75) 76 l76) 77 l77) 78 l78) (u (u (shF F) 14 mg) 15 lo), 0, 0)) hc151 8 rfl ⟨⟨by omega, by omega⟩, ⟨by omega, by omega⟩, trivial⟩ ?_
      refine R_cs hc151 rfl rfl ?_ (fun r G h => h)
      refine R_s (P := True) (f' := (2, [some (vI i), some (vI 0), some (vI ((rd (A 99) 1) - 1))], [vI 0, vI i], LAY (u (u (u (u (u (u (u (u (shA A) 8 l8) 9 l9) 10 l10) 11 l11) 75 l75) 76 l76) 77 l77) 78 l78) (u (u (shF F) 14 mg) 15 lo), 0, 0)) hc104 2 rfl trivial ?_
      refine R_ic (t := 14) hc104 rfl rfl (fun (z : i < 0) => absurd z (by omega)) (fun (_ : ¬ (i < 0)) => ?_)
      refine R_s (P := True) (f' := (7, [some (vI i), some (vI 0), some (vI ((rd (A 99) 1) - 1))], [vI ((rd (A 99) 1) - 1), vI i], LAY (u (u (u (u (u (u (u (u (shA A) 8 l8) 9 l9) 10 l10) 11 l11) 75 l75) 76 l76) 77 l77) 78 l78) (u (u (shF F) 14 mg) 15 lo), 0, 0)) hc104 2 rfl trivial ?_
      refine R_ic (t := 14) hc104 rfl rfl (fun (z : (rd (A 99) 1) - 1 < i) => absurd z (by omega)) (fun (_ : ¬ ((rd (A 99) 1) - 1 < i)) => ?_)
      refine R_s (P := True) (f' := (15, [some (vI i), some (vI 0), some (vI ((rd (A 99) 1) - 1))], [vI 1], LAY (u (u (u (u (u (u (u (u (shA A) 8 l8) 9 l9) 10 l10) 11 l11) 75 l75) 76 l76) 77 l77) 78 l78) (u (u (shF F) 14 mg) 15 lo), 0, 0)) hc104 2 rfl trivial ?_
      refine R_retz hc104 rfl rfl (Or.inr rfl) ?_
      refine R_s (f' := (21, [some (vR 88), some (vI 1), some (vI i)], [vI 1], LAY (u (u (u (u (u (u (u (u (shA A) 8 l8) 9 l9) 10 l10) 11 l11) 75 l75) 76 l76) 77 l77) 78 l78) (u (u (shF F) 14 mg) 15 lo), 0, 0)) hc151 0 rfl trivial ?_
      refine R_if (t := 31) hc151 rfl rfl (fun (_ : ¬ 1 = 0) => ?_) (fun (z : ¬ (¬ 1 = 0)) => absurd (by decide) z)
      refine R_s (P := True) (f' := (33, [some (vR 88), some (vI 1), some (vI i)], [vI 1, vR 88], LAY (u (u (u (u (u (u (u (u (shA A) 8 l8) 9 l9) 10 l10) 11 l11) 75 l75) 76 l76) 77 l77) 78 l78) (u (u (shF F) 14 mg) 15 lo), 0, 0)) hc151 2 rfl trivial ?_
      refine R_cv hc151 rfl rfl (l_worksR hR0 (A1 := (u (u (u (u (u (u (u (u (shA A) 8 l8) 9 l9) 10 l10) 11 l11) 75 l75) 76 l76) 77 l77) 78 l78)) (F1 := (u (u (shF F) 14 mg) 15 lo)) rfl rfl rfl rfl rfl rfl rfl rfl rfl rfl rfl rfl rfl (hL 104 (by decide)) (hL 105 (by decide)) (hL 107 (by decide)) (hL 108 (by decide)) (hL 109 (by decide)) (hL 110 (by decide)) (hL 111 (by decide)) hD.1 hD.2 rfl hS) (fun r G9 hp9 => ?_)
      obtain ⟨rfl, l104, l105, l107, l108, l109, l110, l111, ac, rfl, k104, k105, k107, k108, k109, k110, k111, hac, w107, w108⟩ := hp9
      have y107 : 0 ≤ i → i < F 9 → rd l107 i = te (i).toNat := fun q1 q2 => by
        have z := w107 (i).toNat (by omega)
        rw [show ((((i).toNat : Nat)) : Int) = i by omega] at z
        exact z
      refine R_s (f' := (36, [some (vR 88), some (vI 1), some (vI i)], [], LAY (u (u (u (u (u (u (u (u (u (u (u (u (u (u (u (shA A) 8 l8) 9 l9) 10 l10) 11 l11) 75 l75) 76 l76) 77 l77) 78 l78) 109 l109) 104 l104) 105 l105) 110 l110) 111 l111) 108 l108) 107 l107) (u (u (u (u (u (u (shF F) 14 mg) 15 lo) 28 (N_Y A F 1)) 29 ac) 30 mg) 31 lo), 0, 0)) hc151 0 rfl trivial ?_
      refine R_s (P := (0 ≤ i ∧ i < ((l107).length : Int)) ∧ True) (f' := (42, [some (vR 88), some (vI 1), some (vI i)], [vI (rd l107 i)], LAY (u (u (u (u (u (u (u (u (u (u (u (u (u (u (u (shA A) 8 l8) 9 l9) 10 l10) 11 l11) 75 l75) 76 l76) 77 l77) 78 l78) 109 l109) 104 l104) 105 l105) 110 l110) 111 l111) 108 l108) 107 l107) (u (u (u (u (u (u (shF F) 14 mg) 15 lo) 28 (N_Y A F 1)) 29 ac) 30 mg) 31 lo), 0, 0)) hc151 4 rfl ⟨⟨by omega, by omega⟩, trivial⟩ ?_
      refine R_reti hc151 rfl rfl ?_
      first
        | (exfalso; omega; done)
        | exact ⟨(by rw [show rd l107 i = rd l76 i by omega]), (u (u (u (u (u (u (u (u (u (u (u (u (u (u (u A 8 l8) 9 l9) 10 l10) 11 l11) 75 l75) 76 l76) 77 l77) 78 l78) 109 l109) 104 l104) 105 l105) 110 l110) 111 l111) 108 l108) 107 l107), (u (u (u (u (u (u F 14 mg) 15 lo) 28 (N_Y A F 1)) 29 ac) 30 mg) 31 lo), rfl, rfl, ⟨(LENS_u (LENS_u (LENS_u (LENS_u (LENS_u (LENS_u (LENS_u (LENS_u (LENS_u (LENS_u (LENS_u (LENS_u (LENS_u (LENS_u (LENS_u hL (by show (l8).length = (A 8).length; rw [k8, hL 8 (by decide)]; rfl)) (by show (l9).length = (A 9).length; rw [k9, hL 9 (by decide)]; rfl)) (by show (l10).length = (A 10).length; rw [k10, hL 10 (by decide)]; rfl)) (by show (l11).length = (A 11).length; rw [k11, hL 11 (by decide)]; rfl)) (by show (l75).length = (A 75).length; rw [k75, hL 75 (by decide)]; rfl)) (by show (l76).length = (A 76).length; rw [k76, hL 76 (by decide)]; rfl)) (by show (l77).length = (A 77).length; rw [k77, hL 77 (by decide)]; rfl)) (by show (l78).length = (A 78).length; rw [k78, hL 78 (by decide)]; rfl)) (by show (l109).length = (A 109).length; rw [k109, hL 109 (by decide)]; rfl)) (by show (l104).length = (A 104).length; rw [k104, hL 104 (by decide)]; rfl)) (by show (l105).length = (A 105).length; rw [k105, hL 105 (by decide)]; rfl)) (by show (l110).length = (A 110).length; rw [k110, hL 110 (by decide)]; rfl)) (by show (l111).length = (A 111).length; rw [k111, hL 111 (by decide)]; rfl)) (by show (l108).length = (A 108).length; rw [k108, hL 108 (by decide)]; rfl)) (by show (l107).length = (A 107).length; rw [k107, hL 107 (by decide)]; rfl)), hR0.2.1, hR0.2.2.1, hR0.2.2.2.1, hR0.2.2.2.2.1, hR0.2.2.2.2.2.1, hR0.2.2.2.2.2.2.1, hR0.2.2.2.2.2.2.2.1, hR0.2.2.2.2.2.2.2.2.1, (REFU_c hR0.2.2.2.2.2.2.2.2.2)⟩⟩

theorem op_gets_2 {c : Int} {A : Nat → List Int} {F : Nat → Int} (hR : REL c A F) (hc : c < 512) (i : Int) (i_i : inI i) (hd : (2 : Int) < F 0) : R 77 (0, L0 77 [vR 1, vI 2, vI i], [], LAY (shA A) (shF F), 0, 0) (fun r G => (∃ x, r = some (vI x)) ∧ (∃ (A1 : Nat → List Int) (F1 : Nat → Int), G = LAY A1 F1 ∧ A1 0 = A 0) ∧ R 151 (0, L0 151 [vR 88, vI 2, vI i], [], G, 0, 0) (fun r2 G2 => r2 = r ∧ ∃ (A' : Nat → List Int) (F' : Nat → Int), G2 = LAY (shA A') (shF F') ∧ A' 0 = A 0 ∧ REL (c + 1) A' F')) := by
  have hR0 := hR
  obtain ⟨hL, hPE, hTH, hTP, hDE, hLE, hNO, hAC, hRO, hRE⟩ := hR
  have j_i := i_i
  unfold inI at j_i
  have h87 : (A 87).length = 9 := hL 87 (by decide)
  have h99 : (A 99).length = 6 := hL 99 (by decide)
  have r2 := REFU_at hRE (k := 2) (by decide) (by decide) hc
  have r3 := REFU_at hRE (k := 3) (by decide) (by decide) hc
  have r4 := REFU_at hRE (k := 4) (by decide) (by decide) hc
  have r5 := REFU_at hRE (k := 5) (by decide) (by decide) hc
  have r6 := REFU_at hRE (k := 6) (by decide) (by decide) hc
  have r7 := REFU_at hRE (k := 7) (by decide) (by decide) hc
  have r8 := REFU_at hRE (k := 8) (by decide) (by decide) hc
  obtain ⟨t1, t2, t3, t4, t5, t6⟩ := hTH
  obtain ⟨p1, p2, p3, p4, p5, p6⟩ := hPE
  have hD := D_at2 hR0 hd
  have he1 := hD.1.1
  have he2 := hD.1.2.1
  have hme : rd (A 99) 2 = F 10 := by
    have := hD.2.2.2.2.1
    omega
  obtain ⟨so, te, tp, mg, pm, lo, hS⟩ := SPL_ex A F (N_al A F) (N_Q A 39) (F 10).toNat (N_Y A F 2)
  refine R_s (P := True) (f' := (2, [some (vR 1), some (vI 2), some (vI i), none], [vI 2, vR 1], LAY (shA A) (shF F), 0, 0)) hc77 2 rfl trivial ?_
  refine R_cv hc77 rfl rfl ?_ (fun r G h => h)
  refine R_s (P := True) (f' := (2, [some (vR 1), some (vI 2)], [vI 2, vR 1], LAY (shA A) (shF F), 0, 0)) hc99 2 rfl trivial ?_
  refine R_cv hc99 rfl rfl ?_ (fun r G h => h)
  refine R_s (P := True) (f' := (1, [some (vR 1), some (vI 2)], [vI 2], LAY (shA A) (shF F), 0, 0)) hc98 1 rfl trivial ?_
  refine R_if (t := 16) hc98 rfl rfl (fun (z : 2 < 0) => absurd z (by decide)) (fun (_ : ¬ (2 < 0)) => ?_)
  refine R_s (P := True) (f' := (9, [some (vR 1), some (vI 2)], [vI (F 0), vI 2], LAY (shA A) (shF F), 0, 0)) hc98 3 rfl trivial ?_
  refine R_ic (t := 16) hc98 rfl rfl (fun (z : F 0 ≤ 2) => absurd z (by omega)) (fun (_ : ¬ (F 0 ≤ 2)) => ?_)
  refine R_s (P := True) (f' := (17, [some (vR 1), some (vI 2)], [vI 1], LAY (shA A) (shF F), 0, 0)) hc98 2 rfl trivial ?_
  refine R_retz hc98 rfl rfl (Or.inr rfl) ?_
  refine R_s (f' := (5, [some (vR 1), some (vI 2)], [vI 1], LAY (shA A) (shF F), 0, 0)) hc99 0 rfl trivial ?_
  refine R_if (t := 17) hc99 rfl rfl (fun (z : 1 = 0) => absurd z (by decide)) (fun (_ : ¬ (1 = 0)) => ?_)
  refine R_s (P := (0 ≤ (2 : Int) ∧ (2 : Int) < (([some 20, some 29, some 38, some 47, some 56, some 65] : List (Option Nat)).length : Int)) ∧ True) (f' := (18, [some (vR 1), some (vI 2)], [vR 38], LAY (shA A) (shF F), 0, 0)) hc99 5 rfl ⟨(by decide), trivial⟩ ?_
  refine R_reta hc99 rfl rfl ?_
  refine R_s (f' := (5, [some (vR 1), some (vI 2), some (vI i), none], [vR 38], LAY (shA A) (shF F), 0, 0)) hc77 0 rfl trivial ?_
  refine R_s (P := True) (f' := (12, [some (vR 1), some (vI 2), some (vI i), some (vR 38)], [vI i, vR 38], LAY (shA A) (shF F), 0, 0)) hc77 5 rfl trivial ?_
  refine R_cv hc77 rfl rfl ?_ (fun r G h => h)
  refine R_s (P := True) (f' := (1, [some (vR 38), some (vI i)], [vI i], LAY (shA A) (shF F), 0, 0)) hc1 1 rfl trivial ?_
  refine R_if (t := 16) hc1 rfl rfl (fun (c4 : i < 0) => ?_) (fun (c4 : ¬ (i < 0)) => ?_)
  · refine R_s (P := True) (f' := (17, [some (vR 38), some (vI i)], [vI 0], LAY (shA A) (shF F), 0, 0)) hc1 1 rfl trivial ?_
    refine R_retz hc1 rfl rfl (Or.inl rfl) ?_
    refine R_s (f' := (15, [some (vR 1), some (vI 2), some (vI i), some (vR 38)], [vI 0], LAY (shA A) (shF F), 0, 0)) hc77 0 rfl trivial ?_
    refine R_if (t := 25) hc77 rfl rfl (fun (z : ¬ 0 = 0) => absurd z (by decide)) (fun (_ : ¬ (¬ 0 = 0)) => ?_)
    refine R_s (P := True) (f' := (21, [some (vR 1), some (vI 2), some (vI i), some (vR 38)], [vI (-3), vR 1], LAY (shA A) (shF F), 0, 0)) hc77 2 rfl trivial ?_
    refine R_cv hc77 rfl rfl ?_ (fun r G h => h)
    refine R_s (P := True) (f' := (3, [some (vR 1), some (vI (-3))], [vI (-2), vI (-3)], LAY (shA A) (shF F), 0, 0)) hc93 2 rfl trivial ?_
    refine R_ic (t := 23) hc93 rfl rfl (fun (z : (-2) < (-3)) => absurd z (by decide)) (fun (_ : ¬ ((-2) < (-3))) => ?_)
    refine R_s (P := True) (f' := (9, [some (vR 1), some (vI (-3))], [vI (-8), vI (-3)], LAY (shA A) (shF F), 0, 0)) hc93 2 rfl trivial ?_
    refine R_ic (t := 23) hc93 rfl rfl (fun (z : (-3) < (-8)) => absurd z (by decide)) (fun (_ : ¬ ((-3) < (-8))) => ?_)
    refine R_s (P := inI 3 ∧ (0 ≤ 3 ∧ 3 < ((A 87).length : Int)) ∧ inI ((rd (A 87) 3) + 1) ∧ (0 ≤ 3 ∧ 3 < ((A 87).length : Int)) ∧ True) (f' := (24, [some (vR 1), some (vI (-3))], [vI (-3)], LAY (u (shA A) 87 (wr (A 87) 3 ((rd (A 87) 3) + 1))) (shF F), 0, 0)) hc93 10 rfl ⟨⟨by omega, by omega⟩, ⟨by omega, by omega⟩, ⟨by omega, by omega⟩, ⟨by omega, by omega⟩, trivial⟩ ?_
    refine R_reti hc93 rfl rfl ?_
    refine R_s (f' := (24, [some (vR 1), some (vI 2), some (vI i), some (vR 38)], [vI (-3)], LAY (u (shA A) 87 (wr (A 87) 3 ((rd (A 87) 3) + 1))) (shF F), 0, 0)) hc77 0 rfl trivial ?_
    refine R_reti hc77 rfl rfl ⟨⟨_, rfl⟩, ⟨_, _, rfl, rfl⟩, ?_⟩
    refine R_s (P := True) (f' := (2, [some (vR 88), some (vI 2), some (vI i)], [vI 2, vR 88], LAY (u (shA A) 87 (wr (A 87) 3 ((rd (A 87) 3) + 1))) (shF F), 0, 0)) hc151 2 rfl trivial ?_
    refine R_cv hc151 rfl rfl ?_ (fun r G h => h)
    refine R_s (P := inI ((F 0) - 1) ∧ True) (f' := (8, [some (vR 88), some (vI 2)], [vI ((F 0) - 1), vI 0, vI 2], LAY (u (shA A) 87 (wr (A 87) 3 ((rd (A 87) 3) + 1))) (shF F), 0, 0)) hc108 6 rfl ⟨⟨by omega, by omega⟩, trivial⟩ ?_
    refine R_cs hc108 rfl rfl ?_ (fun r G h => h)
    refine R_s (P := True) (f' := (2, [some (vI 2), some (vI 0), some (vI ((F 0) - 1))], [vI 0, vI 2], LAY (u (shA A) 87 (wr (A 87) 3 ((rd (A 87) 3) + 1))) (shF F), 0, 0)) hc104 2 rfl trivial ?_
    refine R_ic (t := 14) hc104 rfl rfl (fun (z : 2 < 0) => absurd z (by decide)) (fun (_ : ¬ (2 < 0)) => ?_)
    refine R_s (P := True) (f' := (7, [some (vI 2), some (vI 0), some (vI ((F 0) - 1))], [vI ((F 0) - 1), vI 2], LAY (u (shA A) 87 (wr (A 87) 3 ((rd (A 87) 3) + 1))) (shF F), 0, 0)) hc104 2 rfl trivial ?_
    refine R_ic (t := 14) hc104 rfl rfl (fun (z : (F 0) - 1 < 2) => absurd z (by omega)) (fun (_ : ¬ ((F 0) - 1 < 2)) => ?_)
    refine R_s (P := True) (f' := (15, [some (vI 2), some (vI 0), some (vI ((F 0) - 1))], [vI 1], LAY (u (shA A) 87 (wr (A 87) 3 ((rd (A 87) 3) + 1))) (shF F), 0, 0)) hc104 2 rfl trivial ?_
    refine R_retz hc104 rfl rfl (Or.inr rfl) ?_
    refine R_s (f' := (11, [some (vR 88), some (vI 2)], [vI 1], LAY (u (shA A) 87 (wr (A 87) 3 ((rd (A 87) 3) + 1))) (shF F), 0, 0)) hc108 0 rfl trivial ?_
    refine R_retz hc108 rfl rfl (Or.inr rfl) ?_
    refine R_s (f' := (5, [some (vR 88), some (vI 2), some (vI i)], [vI 1], LAY (u (shA A) 87 (wr (A 87) 3 ((rd (A 87) 3) + 1))) (shF F), 0, 0)) hc151 0 rfl trivial ?_
    refine R_if (t := 24) hc151 rfl rfl (fun (z : 1 = 0) => absurd z (by decide)) (fun (_ : ¬ (1 = 0)) => ?_)
    refine R_s (P := (0 ≤ 2 ∧ 2 < ((A 99).length : Int)) ∧ inI ((rd (A 99) 2) - 1) ∧ True) (f' := (18, [some (vR 88), some (vI 2), some (vI i)], [vI ((rd (A 99) 2) - 1), vI 0, vI i], LAY (u (shA A) 87 (wr (A 87) 3 ((rd (A 87) 3) + 1))) (shF F), 0, 0)) hc151 8 rfl ⟨⟨by omega, by omega⟩, ⟨by omega, by omega⟩, trivial⟩ ?_
    refine R_cs hc151 rfl rfl ?_ (fun r G h => h)
    refine R_s (P := True) (f' := (2, [some (vI i), some (vI 0), some (vI ((rd (A 99) 2) - 1))], [vI 0, vI i], LAY (u (shA A) 87 (wr (A 87) 3 ((rd (A 87) 3) + 1))) (shF F), 0, 0)) hc104 2 rfl trivial ?_
    refine R_ic (t := 14) hc104 rfl rfl (fun (_ : i < 0) => ?_) (fun (z : ¬ (i < 0)) => absurd (show i < 0 by omega) z)
    refine R_s (P := True) (f' := (15, [some (vI i), some (vI 0), some (vI ((rd (A 99) 2) - 1))], [vI 0], LAY (u (shA A) 87 (wr (A 87) 3 ((rd (A 87) 3) + 1))) (shF F), 0, 0)) hc104 1 rfl trivial ?_
    refine R_retz hc104 rfl rfl (Or.inl rfl) ?_
    refine R_s (f' := (21, [some (vR 88), some (vI 2), some (vI i)], [vI 0], LAY (u (shA A) 87 (wr (A 87) 3 ((rd (A 87) 3) + 1))) (shF F), 0, 0)) hc151 0 rfl trivial ?_
    refine R_if (t := 31) hc151 rfl rfl (fun (z : ¬ 0 = 0) => absurd z (by decide)) (fun (_ : ¬ (¬ 0 = 0)) => ?_)
    refine R_s (P := True) (f' := (27, [some (vR 88), some (vI 2), some (vI i)], [vI (-3), vR 88], LAY (u (shA A) 87 (wr (A 87) 3 ((rd (A 87) 3) + 1))) (shF F), 0, 0)) hc151 2 rfl trivial ?_
    refine R_cv hc151 rfl rfl ?_ (fun r G h => h)
    refine R_s (P := inI 3 ∧ (0 ≤ 3 ∧ 3 < ((A 87).length : Int)) ∧ inI ((rd (A 87) 3) + 1) ∧ (0 ≤ 3 ∧ 3 < ((A 87).length : Int)) ∧ True) (f' := (12, [some (vR 88), some (vI (-3))], [vI (-3)], LAY (u (u (shA A) 87 (wr (A 87) 3 ((rd (A 87) 3) + 1))) 89 (wr (A 87) 3 ((rd (A 87) 3) + 1))) (shF F), 0, 0)) hc105 10 rfl ⟨⟨by omega, by omega⟩, ⟨by omega, by omega⟩, ⟨by omega, by omega⟩, ⟨by omega, by omega⟩, trivial⟩ ?_
    refine R_reti hc105 rfl rfl ?_
    refine R_s (f' := (30, [some (vR 88), some (vI 2), some (vI i)], [vI (-3)], LAY (u (u (shA A) 87 (wr (A 87) 3 ((rd (A 87) 3) + 1))) 89 (wr (A 87) 3 ((rd (A 87) 3) + 1))) (shF F), 0, 0)) hc151 0 rfl trivial ?_
    refine R_reti hc151 rfl rfl ?_
    first
      | (exfalso; omega; done)
      | exact ⟨rfl, (u A 87 (wr (A 87) 3 ((rd (A 87) 3) + 1))), F, rfl, rfl, REL_ref hR0 (by decide) (by decide)⟩
  · refine R_s (P := True) (f' := (9, [some (vR 38), some (vI i)], [vI (F 10), vI i], LAY (shA A) (shF F), 0, 0)) hc1 3 rfl trivial ?_
    refine R_ic (t := 16) hc1 rfl rfl (fun (c5 : F 10 ≤ i) => ?_) (fun (c5 : ¬ (F 10 ≤ i)) => ?_)
    · refine R_s (P := True) (f' := (17, [some (vR 38), some (vI i)], [vI 0], LAY (shA A) (shF F), 0, 0)) hc1 1 rfl trivial ?_
      refine R_retz hc1 rfl rfl (Or.inl rfl) ?_
      refine R_s (f' := (15, [some (vR 1), some (vI 2), some (vI i), some (vR 38)], [vI 0], LAY (shA A) (shF F), 0, 0)) hc77 0 rfl trivial ?_
      refine R_if (t := 25) hc77 rfl rfl (fun (z : ¬ 0 = 0) => absurd z (by decide)) (fun (_ : ¬ (¬ 0 = 0)) => ?_)
      refine R_s (P := True) (f' := (21, [some (vR 1), some (vI 2), some (vI i), some (vR 38)], [vI (-3), vR 1], LAY (shA A) (shF F), 0, 0)) hc77 2 rfl trivial ?_
      refine R_cv hc77 rfl rfl ?_ (fun r G h => h)
      refine R_s (P := True) (f' := (3, [some (vR 1), some (vI (-3))], [vI (-2), vI (-3)], LAY (shA A) (shF F), 0, 0)) hc93 2 rfl trivial ?_
      refine R_ic (t := 23) hc93 rfl rfl (fun (z : (-2) < (-3)) => absurd z (by decide)) (fun (_ : ¬ ((-2) < (-3))) => ?_)
      refine R_s (P := True) (f' := (9, [some (vR 1), some (vI (-3))], [vI (-8), vI (-3)], LAY (shA A) (shF F), 0, 0)) hc93 2 rfl trivial ?_
      refine R_ic (t := 23) hc93 rfl rfl (fun (z : (-3) < (-8)) => absurd z (by decide)) (fun (_ : ¬ ((-3) < (-8))) => ?_)
      refine R_s (P := inI 3 ∧ (0 ≤ 3 ∧ 3 < ((A 87).length : Int)) ∧ inI ((rd (A 87) 3) + 1) ∧ (0 ≤ 3 ∧ 3 < ((A 87).length : Int)) ∧ True) (f' := (24, [some (vR 1), some (vI (-3))], [vI (-3)], LAY (u (shA A) 87 (wr (A 87) 3 ((rd (A 87) 3) + 1))) (shF F), 0, 0)) hc93 10 rfl ⟨⟨by omega, by omega⟩, ⟨by omega, by omega⟩, ⟨by omega, by omega⟩, ⟨by omega, by omega⟩, trivial⟩ ?_
      refine R_reti hc93 rfl rfl ?_
      refine R_s (f' := (24, [some (vR 1), some (vI 2), some (vI i), some (vR 38)], [vI (-3)], LAY (u (shA A) 87 (wr (A 87) 3 ((rd (A 87) 3) + 1))) (shF F), 0, 0)) hc77 0 rfl trivial ?_
      refine R_reti hc77 rfl rfl ⟨⟨_, rfl⟩, ⟨_, _, rfl, rfl⟩, ?_⟩
      refine R_s (P := True) (f' := (2, [some (vR 88), some (vI 2), some (vI i)], [vI 2, vR 88], LAY (u (shA A) 87 (wr (A 87) 3 ((rd (A 87) 3) + 1))) (shF F), 0, 0)) hc151 2 rfl trivial ?_
      refine R_cv hc151 rfl rfl ?_ (fun r G h => h)
      refine R_s (P := inI ((F 0) - 1) ∧ True) (f' := (8, [some (vR 88), some (vI 2)], [vI ((F 0) - 1), vI 0, vI 2], LAY (u (shA A) 87 (wr (A 87) 3 ((rd (A 87) 3) + 1))) (shF F), 0, 0)) hc108 6 rfl ⟨⟨by omega, by omega⟩, trivial⟩ ?_
      refine R_cs hc108 rfl rfl ?_ (fun r G h => h)
      refine R_s (P := True) (f' := (2, [some (vI 2), some (vI 0), some (vI ((F 0) - 1))], [vI 0, vI 2], LAY (u (shA A) 87 (wr (A 87) 3 ((rd (A 87) 3) + 1))) (shF F), 0, 0)) hc104 2 rfl trivial ?_
      refine R_ic (t := 14) hc104 rfl rfl (fun (z : 2 < 0) => absurd z (by decide)) (fun (_ : ¬ (2 < 0)) => ?_)
      refine R_s (P := True) (f' := (7, [some (vI 2), some (vI 0), some (vI ((F 0) - 1))], [vI ((F 0) - 1), vI 2], LAY (u (shA A) 87 (wr (A 87) 3 ((rd (A 87) 3) + 1))) (shF F), 0, 0)) hc104 2 rfl trivial ?_
      refine R_ic (t := 14) hc104 rfl rfl (fun (z : (F 0) - 1 < 2) => absurd z (by omega)) (fun (_ : ¬ ((F 0) - 1 < 2)) => ?_)
      refine R_s (P := True) (f' := (15, [some (vI 2), some (vI 0), some (vI ((F 0) - 1))], [vI 1], LAY (u (shA A) 87 (wr (A 87) 3 ((rd (A 87) 3) + 1))) (shF F), 0, 0)) hc104 2 rfl trivial ?_
      refine R_retz hc104 rfl rfl (Or.inr rfl) ?_
      refine R_s (f' := (11, [some (vR 88), some (vI 2)], [vI 1], LAY (u (shA A) 87 (wr (A 87) 3 ((rd (A 87) 3) + 1))) (shF F), 0, 0)) hc108 0 rfl trivial ?_
      refine R_retz hc108 rfl rfl (Or.inr rfl) ?_
      refine R_s (f' := (5, [some (vR 88), some (vI 2), some (vI i)], [vI 1], LAY (u (shA A) 87 (wr (A 87) 3 ((rd (A 87) 3) + 1))) (shF F), 0, 0)) hc151 0 rfl trivial ?_
      refine R_if (t := 24) hc151 rfl rfl (fun (z : 1 = 0) => absurd z (by decide)) (fun (_ : ¬ (1 = 0)) => ?_)
      refine R_s (P := (0 ≤ 2 ∧ 2 < ((A 99).length : Int)) ∧ inI ((rd (A 99) 2) - 1) ∧ True) (f' := (18, [some (vR 88), some (vI 2), some (vI i)], [vI ((rd (A 99) 2) - 1), vI 0, vI i], LAY (u (shA A) 87 (wr (A 87) 3 ((rd (A 87) 3) + 1))) (shF F), 0, 0)) hc151 8 rfl ⟨⟨by omega, by omega⟩, ⟨by omega, by omega⟩, trivial⟩ ?_
      refine R_cs hc151 rfl rfl ?_ (fun r G h => h)
      refine R_s (P := True) (f' := (2, [some (vI i), some (vI 0), some (vI ((rd (A 99) 2) - 1))], [vI 0, vI i], LAY (u (shA A) 87 (wr (A 87) 3 ((rd (A 87) 3) + 1))) (shF F), 0, 0)) hc104 2 rfl trivial ?_
      refine R_ic (t := 14) hc104 rfl rfl (fun (z : i < 0) => absurd z (by omega)) (fun (_ : ¬ (i < 0)) => ?_)
      refine R_s (P := True) (f' := (7, [some (vI i), some (vI 0), some (vI ((rd (A 99) 2) - 1))], [vI ((rd (A 99) 2) - 1), vI i], LAY (u (shA A) 87 (wr (A 87) 3 ((rd (A 87) 3) + 1))) (shF F), 0, 0)) hc104 2 rfl trivial ?_
      refine R_ic (t := 14) hc104 rfl rfl (fun (_ : (rd (A 99) 2) - 1 < i) => ?_) (fun (z : ¬ ((rd (A 99) 2) - 1 < i)) => absurd (show (rd (A 99) 2) - 1 < i by omega) z)
      refine R_s (P := True) (f' := (15, [some (vI i), some (vI 0), some (vI ((rd (A 99) 2) - 1))], [vI 0], LAY (u (shA A) 87 (wr (A 87) 3 ((rd (A 87) 3) + 1))) (shF F), 0, 0)) hc104 1 rfl trivial ?_
      refine R_retz hc104 rfl rfl (Or.inl rfl) ?_
      refine R_s (f' := (21, [some (vR 88), some (vI 2), some (vI i)], [vI 0], LAY (u (shA A) 87 (wr (A 87) 3 ((rd (A 87) 3) + 1))) (shF F), 0, 0)) hc151 0 rfl trivial ?_
      refine R_if (t := 31) hc151 rfl rfl (fun (z : ¬ 0 = 0) => absurd z (by decide)) (fun (_ : ¬ (¬ 0 = 0)) => ?_)
      refine R_s (P := True) (f' := (27, [some (vR 88), some (vI 2), some (vI i)], [vI (-3), vR 88], LAY (u (shA A) 87 (wr (A 87) 3 ((rd (A 87) 3) + 1))) (shF F), 0, 0)) hc151 2 rfl trivial ?_
      refine R_cv hc151 rfl rfl ?_ (fun r G h => h)
      refine R_s (P := inI 3 ∧ (0 ≤ 3 ∧ 3 < ((A 87).length : Int)) ∧ inI ((rd (A 87) 3) + 1) ∧ (0 ≤ 3 ∧ 3 < ((A 87).length : Int)) ∧ True) (f' := (12, [some (vR 88), some (vI (-3))], [vI (-3)], LAY (u (u (shA A) 87 (wr (A 87) 3 ((rd (A 87) 3) + 1))) 89 (wr (A 87) 3 ((rd (A 87) 3) + 1))) (shF F), 0, 0)) hc105 10 rfl ⟨⟨by omega, by omega⟩, ⟨by omega, by omega⟩, ⟨by omega, by omega⟩, ⟨by omega, by omega⟩, trivial⟩ ?_
      refine R_reti hc105 rfl rfl ?_
      refine R_s (f' := (30, [some (vR 88), some (vI 2), some (vI i)], [vI (-3)], LAY (u (u (shA A) 87 (wr (A 87) 3 ((rd (A 87) 3) + 1))) 89 (wr (A 87) 3 ((rd (A 87) 3) + 1))) (shF F), 0, 0)) hc151 0 rfl trivial ?_
      refine R_reti hc151 rfl rfl ?_
      first
        | (exfalso; omega; done)
        | exact ⟨rfl, (u A 87 (wr (A 87) 3 ((rd (A 87) 3) + 1))), F, rfl, rfl, REL_ref hR0 (by decide) (by decide)⟩
    · refine R_s (P := True) (f' := (17, [some (vR 38), some (vI i)], [vI 1], LAY (shA A) (shF F), 0, 0)) hc1 2 rfl trivial ?_
      refine R_retz hc1 rfl rfl (Or.inr rfl) ?_
      refine R_s (f' := (15, [some (vR 1), some (vI 2), some (vI i), some (vR 38)], [vI 1], LAY (shA A) (shF F), 0, 0)) hc77 0 rfl trivial ?_
      refine R_if (t := 25) hc77 rfl rfl (fun (_ : ¬ 1 = 0) => ?_) (fun (z : ¬ (¬ 1 = 0)) => absurd (by decide) z)
      refine R_s (P := True) (f' := (28, [some (vR 1), some (vI 2), some (vI i), some (vR 38)], [vI 2, vR 38, vR 1], LAY (shA A) (shF F), 0, 0)) hc77 3 rfl trivial ?_
      refine R_cv hc77 rfl rfl (l_now2 hR0 hd hS) (fun r G9 hp9 => ?_)
      obtain ⟨rfl, l8, l9, l10, l11, l75, l76, l77, l78, rfl, k8, k9, k10, k11, k75, k76, k77, k78, v75, v76, v77⟩ := hp9
      have y76 : 0 ≤ i → i < F 10 → rd l76 i = te (i).toNat := fun q1 q2 => by
        have z := v76 (i).toNat (by omega)
        rw [show ((((i).toNat : Nat)) : Int) = i by omega] at z
        exact z
      refine R_s (f' := (31, [some (vR 1), some (vI 2), some (vI i), some (vR 38)], [], LAY (u (u (u (u (u (u (u (u (shA A) 8 l8) 9 l9) 10 l10) 11 l11) 75 l75) 76 l76) 77 l77) 78 l78) (u (u (shF F) 14 mg) 15 lo), 0, 0)) hc77 0 rfl trivial ?_
      refine R_s (P := (0 ≤ i ∧ i < ((l76).length : Int)) ∧ True) (f' := (40, [some (vR 1), some (vI 2), some (vI i), some (vR 38)], [vI (rd l76 i)], LAY (u (u (u (u (u (u (u (u (shA A) 8 l8) 9 l9) 10 l10) 11 l11) 75 l75) 76 l76) 77 l77) 78 l78) (u (u (shF F) 14 mg) 15 lo), 0, 0)) hc77 5 rfl ⟨⟨by omega, by omega⟩, trivial⟩ ?_
      refine R_reti hc77 rfl rfl ⟨⟨_, rfl⟩, ⟨_, _, rfl, rfl⟩, ?_⟩
      refine R_s (P := True) (f' := (2, [some (vR 88), some (vI 2), some (vI i)], [vI 2, vR 88], LAY (u (u (u (u (u (u (u (u (shA A) 8 l8) 9 l9) 10 l10) 11 l11) 75 l75) 76 l76) 77 l77) 78 l78) (u (u (shF F) 14 mg) 15 lo), 0, 0)) hc151 2 rfl trivial ?_
      refine R_cv hc151 rfl rfl ?_ (fun r G h => h)
      refine R_s (P := inI ((F 0) - 1) ∧ True) (f' := (8, [some (vR 88), some (vI 2)], [vI ((F 0) - 1), vI 0, vI 2], LAY (u (u (u (u (u (u (u (u (shA A) 8 l8) 9 l9) 10 l10) 11 l11) 75 l75) 76 l76) 77 l77) 78 l78) (u (u (shF F) 14 mg) 15 lo), 0, 0)) hc108 6 rfl ⟨⟨by omega, by omega⟩, trivial⟩ ?_
      refine R_cs hc108 rfl rfl ?_ (fun r G h => h)
      refine R_s (P := True) (f' := (2, [some (vI 2), some (vI 0), some (vI ((F 0) - 1))], [vI 0, vI 2], LAY (u (u (u (u (u (u (u (u (shA A) 8 l8) 9 l9) 10 l10) 11 l11) 75 l75) 76 l76) 77 l77) 78 l78) (u (u (shF F) 14 mg) 15 lo), 0, 0)) hc104 2 rfl trivial ?_
      refine R_ic (t := 14) hc104 rfl rfl (fun (z : 2 < 0) => absurd z (by decide)) (fun (_ : ¬ (2 < 0)) => ?_)
      refine R_s (P := True) (f' := (7, [some (vI 2), some (vI 0), some (vI ((F 0) - 1))], [vI ((F 0) - 1), vI 2], LAY (u (u (u (u (u (u (u (u (shA A) 8 l8) 9 l9) 10 l10) 11 l11) 75 l75) 76 l76) 77 l77) 78 l78) (u (u (shF F) 14 mg) 15 lo), 0, 0)) hc104 2 rfl trivial ?_
      refine R_ic (t := 14) hc104 rfl rfl (fun (z : (F 0) - 1 < 2) => absurd z (by omega)) (fun (_ : ¬ ((F 0) - 1 < 2)) => ?_)
      refine R_s (P := True) (f' := (15, [some (vI 2), some (vI 0), some (vI ((F 0) - 1))], [vI 1], LAY (u (u (u (u (u (u (u (u (shA A) 8 l8) 9 l9) 10 l10) 11 l11) 75 l75) 76 l76) 77 l77) 78 l78) (u (u (shF F) 14 mg) 15 lo), 0, 0)) hc104 2 rfl trivial ?_
      refine R_retz hc104 rfl rfl (Or.inr rfl) ?_
      refine R_s (f' := (11, [some (vR 88), some (vI 2)], [vI 1], LAY (u (u (u (u (u (u (u (u (shA A) 8 l8) 9 l9) 10 l10) 11 l11) 75 l75) 76 l76) 77 l77) 78 l78) (u (u (shF F) 14 mg) 15 lo), 0, 0)) hc108 0 rfl trivial ?_
      refine R_retz hc108 rfl rfl (Or.inr rfl) ?_
      refine R_s (f' := (5, [some (vR 88), some (vI 2), some (vI i)], [vI 1], LAY (u (u (u (u (u (u (u (u (shA A) 8 l8) 9 l9) 10 l10) 11 l11) 75 l75) 76 l76) 77 l77) 78 l78) (u (u (shF F) 14 mg) 15 lo), 0, 0)) hc151 0 rfl trivial ?_
      refine R_if (t := 24) hc151 rfl rfl (fun (z : 1 = 0) => absurd z (by decide)) (fun (_ : ¬ (1 = 0)) => ?_)
      refine R_s (P := (0 ≤ 2 ∧ 2 < ((A 99).length : Int)) ∧ inI ((rd (A 99) 2) - 1) ∧ True) (f' := (18, [some (vR 88), some (vI 2), some (vI i)], [vI ((rd (A 99) 2) - 1), vI 0, vI i], LAY (u (u (u (u (u (u (u (u (shA A) 8 l8) 9 l9) 10 l10) 11 l11) 75 l75) 76 l76) 77 l77) 78 l78) (u (u (shF F) 14 mg) 15 lo), 0, 0)) hc151 8 rfl ⟨⟨by omega, by omega⟩, ⟨by omega, by omega⟩, trivial⟩ ?_
      refine R_cs hc151 rfl rfl ?_ (fun r G h => h)
      refine R_s (P := True) (f' := (2, [some (vI i), some (vI 0), some (vI ((rd (A 99) 2) - 1))], [vI 0, vI i], LAY (u (u (u (u (u (u (u (u (shA A) 8 l8) 9 l9) 10 l10) 11 l11) 75 l75) 76 l76) 77 l77) 78 l78) (u (u (shF F) 14 mg) 15 lo), 0, 0)) hc104 2 rfl trivial ?_
      refine R_ic (t := 14) hc104 rfl rfl (fun (z : i < 0) => absurd z (by omega)) (fun (_ : ¬ (i < 0)) => ?_)
      refine R_s (P := True) (f' := (7, [some (vI i), some (vI 0), some (vI ((rd (A 99) 2) - 1))], [vI ((rd (A 99) 2) - 1), vI i], LAY (u (u (u (u (u (u (u (u (shA A) 8 l8) 9 l9) 10 l10) 11 l11) 75 l75) 76 l76) 77 l77) 78 l78) (u (u (shF F) 14 mg) 15 lo), 0, 0)) hc104 2 rfl trivial ?_
      refine R_ic (t := 14) hc104 rfl rfl (fun (z : (rd (A 99) 2) - 1 < i) => absurd z (by omega)) (fun (_ : ¬ ((rd (A 99) 2) - 1 < i)) => ?_)
      refine R_s (P := True) (f' := (15, [some (vI i), some (vI 0), some (vI ((rd (A 99) 2) - 1))], [vI 1], LAY (u (u (u (u (u (u (u (u (shA A) 8 l8) 9 l9) 10 l10) 11 l11) 75 l75) 76 l76) 77 l77) 78 l78) (u (u (shF F) 14 mg) 15 lo), 0, 0)) hc104 2 rfl trivial ?_
      refine R_retz hc104 rfl rfl (Or.inr rfl) ?_
      refine R_s (f' := (21, [some (vR 88), some (vI 2), some (vI i)], [vI 1], LAY (u (u (u (u (u (u (u (u (shA A) 8 l8) 9 l9) 10 l10) 11 l11) 75 l75) 76 l76) 77 l77) 78 l78) (u (u (shF F) 14 mg) 15 lo), 0, 0)) hc151 0 rfl trivial ?_
      refine R_if (t := 31) hc151 rfl rfl (fun (_ : ¬ 1 = 0) => ?_) (fun (z : ¬ (¬ 1 = 0)) => absurd (by decide) z)
      refine R_s (P := True) (f' := (33, [some (vR 88), some (vI 2), some (vI i)], [vI 2, vR 88], LAY (u (u (u (u (u (u (u (u (shA A) 8 l8) 9 l9) 10 l10) 11 l11) 75 l75) 76 l76) 77 l77) 78 l78) (u (u (shF F) 14 mg) 15 lo), 0, 0)) hc151 2 rfl trivial ?_
      refine R_cv hc151 rfl rfl (l_worksR hR0 (A1 := (u (u (u (u (u (u (u (u (shA A) 8 l8) 9 l9) 10 l10) 11 l11) 75 l75) 76 l76) 77 l77) 78 l78)) (F1 := (u (u (shF F) 14 mg) 15 lo)) rfl rfl rfl rfl rfl rfl rfl rfl rfl rfl rfl rfl rfl (hL 104 (by decide)) (hL 105 (by decide)) (hL 107 (by decide)) (hL 108 (by decide)) (hL 109 (by decide)) (hL 110 (by decide)) (hL 111 (by decide)) hD.1 hD.2 rfl hS) (fun r G9 hp9 => ?_)
      obtain ⟨rfl, l104, l105, l107, l108, l109, l110, l111, ac, rfl, k104, k105, k107, k108, k109, k110, k111, hac, w107, w108⟩ := hp9
      have y107 : 0 ≤ i → i < F 10 → rd l107 i = te (i).toNat := fun q1 q2 => by
        have z := w107 (i).toNat (by omega)
        rw [show ((((i).toNat : Nat)) : Int) = i by omega] at z
        exact z
      refine R_s (f' := (36, [some (vR 88), some (vI 2), some (vI i)], [], LAY (u (u (u (u (u (u (u (u (u (u (u (u (u (u (u (shA A) 8 l8) 9 l9) 10 l10) 11 l11) 75 l75) 76 l76) 77 l77) 78 l78) 109 l109) 104 l104) 105 l105) 110 l110) 111 l111) 108 l108) 107 l107) (u (u (u (u (u (u (shF F) 14 mg) 15 lo) 28 (N_Y A F 2)) 29 ac) 30 mg) 31 lo), 0, 0)) hc151 0 rfl trivial ?_
      refine R_s (P := (0 ≤ i ∧ i < ((l107).length : Int)) ∧ True) (f' := (42, [some (vR 88), some (vI 2), some (vI i)], [vI (rd l107 i)], LAY (u (u (u (u (u (u (u (u (u (u (u (u (u (u (u (shA A) 8 l8) 9 l9) 10 l10) 11 l11) 75 l75) 76 l76) 77 l77) 78 l78) 109 l109) 104 l104) 105 l105) 110 l110) 111 l111) 108 l108) 107 l107) (u (u (u (u (u (u (shF F) 14 mg) 15 lo) 28 (N_Y A F 2)) 29 ac) 30 mg) 31 lo), 0, 0)) hc151 4 rfl ⟨⟨by omega, by omega⟩, trivial⟩ ?_
      refine R_reti hc151 rfl rfl ?_
      first
        | (exfalso; omega; done)
        | exact ⟨(by rw [show rd l107 i = rd l76 i by omega]), (u (u (u (u (u (u (u (u (u (u (u (u (u (u (u A 8 l8) 9 l9) 10 l10) 11 l11) 75 l75) 76 l76) 77 l77) 78 l78) 109 l109) 104 l104) 105 l105) 110 l110) 111 l111) 108 l108) 107 l107), (u (u (u (u (u (u F 14 mg) 15 lo) 28 (N_Y A F 2)) 29 ac) 30 mg) 31 lo), rfl, rfl, ⟨(LENS_u (LENS_u (LENS_u (LENS_u (LENS_u (LENS_u (LENS_u (LENS_u (LENS_u (LENS_u (LENS_u (LENS_u (LENS_u (LENS_u (LENS_u hL (by show (l8).length = (A 8).length; rw [k8, hL 8 (by decide)]; rfl)) (by show (l9).length = (A 9).length; rw [k9, hL 9 (by decide)]; rfl)) (by show (l10).length = (A 10).length; rw [k10, hL 10 (by decide)]; rfl)) (by show (l11).length = (A 11).length; rw [k11, hL 11 (by decide)]; rfl)) (by show (l75).length = (A 75).length; rw [k75, hL 75 (by decide)]; rfl)) (by show (l76).length = (A 76).length; rw [k76, hL 76 (by decide)]; rfl)) (by show (l77).length = (A 77).length; rw [k77, hL 77 (by decide)]; rfl)) (by show (l78).length = (A 78).length; rw [k78, hL 78 (by decide)]; rfl)) (by show (l109).length = (A 109).length; rw [k109, hL 109 (by decide)]; rfl)) (by show (l104).length = (A 104).length; rw [k104, hL 104 (by decide)]; rfl)) (by show (l105).length = (A 105).length; rw [k105, hL 105 (by decide)]; rfl)) (by show (l110).length = (A 110).length; rw [k110, hL 110 (by decide)]; rfl)) (by show (l111).length = (A 111).length; rw [k111, hL 111 (by decide)]; rfl)) (by show (l108).length = (A 108).length; rw [k108, hL 108 (by decide)]; rfl)) (by show (l107).length = (A 107).length; rw [k107, hL 107 (by decide)]; rfl)), hR0.2.1, hR0.2.2.1, hR0.2.2.2.1, hR0.2.2.2.2.1, hR0.2.2.2.2.2.1, hR0.2.2.2.2.2.2.1, hR0.2.2.2.2.2.2.2.1, hR0.2.2.2.2.2.2.2.2.1, (REFU_c hR0.2.2.2.2.2.2.2.2.2)⟩⟩

theorem op_gets_3 {c : Int} {A : Nat → List Int} {F : Nat → Int} (hR : REL c A F) (hc : c < 512) (i : Int) (i_i : inI i) (hd : (3 : Int) < F 0) : R 77 (0, L0 77 [vR 1, vI 3, vI i], [], LAY (shA A) (shF F), 0, 0) (fun r G => (∃ x, r = some (vI x)) ∧ (∃ (A1 : Nat → List Int) (F1 : Nat → Int), G = LAY A1 F1 ∧ A1 0 = A 0) ∧ R 151 (0, L0 151 [vR 88, vI 3, vI i], [], G, 0, 0) (fun r2 G2 => r2 = r ∧ ∃ (A' : Nat → List Int) (F' : Nat → Int), G2 = LAY (shA A') (shF F') ∧ A' 0 = A 0 ∧ REL (c + 1) A' F')) := by
  have hR0 := hR
  obtain ⟨hL, hPE, hTH, hTP, hDE, hLE, hNO, hAC, hRO, hRE⟩ := hR
  have j_i := i_i
  unfold inI at j_i
  have h87 : (A 87).length = 9 := hL 87 (by decide)
  have h99 : (A 99).length = 6 := hL 99 (by decide)
  have r2 := REFU_at hRE (k := 2) (by decide) (by decide) hc
  have r3 := REFU_at hRE (k := 3) (by decide) (by decide) hc
  have r4 := REFU_at hRE (k := 4) (by decide) (by decide) hc
  have r5 := REFU_at hRE (k := 5) (by decide) (by decide) hc
  have r6 := REFU_at hRE (k := 6) (by decide) (by decide) hc
  have r7 := REFU_at hRE (k := 7) (by decide) (by decide) hc
  have r8 := REFU_at hRE (k := 8) (by decide) (by decide) hc
  obtain ⟨t1, t2, t3, t4, t5, t6⟩ := hTH
  obtain ⟨p1, p2, p3, p4, p5, p6⟩ := hPE
  have hD := D_at3 hR0 hd
  have he1 := hD.1.1
  have he2 := hD.1.2.1
  have hme : rd (A 99) 3 = F 11 := by
    have := hD.2.2.2.2.1
    omega
  obtain ⟨so, te, tp, mg, pm, lo, hS⟩ := SPL_ex A F (N_al A F) (N_Q A 48) (F 11).toNat (N_Y A F 3)
  refine R_s (P := True) (f' := (2, [some (vR 1), some (vI 3), some (vI i), none], [vI 3, vR 1], LAY (shA A) (shF F), 0, 0)) hc77 2 rfl trivial ?_
  refine R_cv hc77 rfl rfl ?_ (fun r G h => h)
  refine R_s (P := True) (f' := (2, [some (vR 1), some (vI 3)], [vI 3, vR 1], LAY (shA A) (shF F), 0, 0)) hc99 2 rfl trivial ?_
  refine R_cv hc99 rfl rfl ?_ (fun r G h => h)
  refine R_s (P := True) (f' := (1, [some (vR 1), some (vI 3)], [vI 3], LAY (shA A) (shF F), 0, 0)) hc98 1 rfl trivial ?_
  refine R_if (t := 16) hc98 rfl rfl (fun (z : 3 < 0) => absurd z (by decide)) (fun (_ : ¬ (3 < 0)) => ?_)
  refine R_s (P := True) (f' := (9, [some (vR 1), some (vI 3)], [vI (F 0), vI 3], LAY (shA A) (shF F), 0, 0)) hc98 3 rfl trivial ?_
  refine R_ic (t := 16) hc98 rfl rfl (fun (z : F 0 ≤ 3) => absurd z (by omega)) (fun (_ : ¬ (F 0 ≤ 3)) => ?_)
  refine R_s (P := True) (f' := (17, [some (vR 1), some (vI 3)], [vI 1], LAY (shA A) (shF F), 0, 0)) hc98 2 rfl trivial ?_
  refine R_retz hc98 rfl rfl (Or.inr rfl) ?_
  refine R_s (f' := (5, [some (vR 1), some (vI 3)], [vI 1], LAY (shA A) (shF F), 0, 0)) hc99 0 rfl trivial ?_
  refine R_if (t := 17) hc99 rfl rfl (fun (z : 1 = 0) => absurd z (by decide)) (fun (_ : ¬ (1 = 0)) => ?_)
  refine R_s (P := (0 ≤ (3 : Int) ∧ (3 : Int) < (([some 20, some 29, some 38, some 47, some 56, some 65] : List (Option Nat)).length : Int)) ∧ True) (f' := (18, [some (vR 1), some (vI 3)], [vR 47], LAY (shA A) (shF F), 0, 0)) hc99 5 rfl ⟨(by decide), trivial⟩ ?_
  refine R_reta hc99 rfl rfl ?_
  refine R_s (f' := (5, [some (vR 1), some (vI 3), some (vI i), none], [vR 47], LAY (shA A) (shF F), 0, 0)) hc77 0 rfl trivial ?_
  refine R_s (P := True) (f' := (12, [some (vR 1), some (vI 3), some (vI i), some (vR 47)], [vI i, vR 47], LAY (shA A) (shF F), 0, 0)) hc77 5 rfl trivial ?_
  refine R_cv hc77 rfl rfl ?_ (fun r G h => h)
  refine R_s (P := True) (f' := (1, [some (vR 47), some (vI i)], [vI i], LAY (shA A) (shF F), 0, 0)) hc1 1 rfl trivial ?_
  refine R_if (t := 16) hc1 rfl rfl (fun (c4 : i < 0) => ?_) (fun (c4 : ¬ (i < 0)) => ?_)
  · refine R_s (P := True) (f' := (17, [some (vR 47), some (vI i)], [vI 0], LAY (shA A) (shF F), 0, 0)) hc1 1 rfl trivial ?_
    refine R_retz hc1 rfl rfl (Or.inl rfl) ?_
    refine R_s (f' := (15, [some (vR 1), some (vI 3), some (vI i), some (vR 47)], [vI 0], LAY (shA A) (shF F), 0, 0)) hc77 0 rfl trivial ?_
    refine R_if (t := 25) hc77 rfl rfl (fun (z : ¬ 0 = 0) => absurd z (by decide)) (fun (_ : ¬ (¬ 0 = 0)) => ?_)
    refine R_s (P := True) (f' := (21, [some (vR 1), some (vI 3), some (vI i), some (vR 47)], [vI (-3), vR 1], LAY (shA A) (shF F), 0, 0)) hc77 2 rfl trivial ?_
    refine R_cv hc77 rfl rfl ?_ (fun r G h => h)
    refine R_s (P := True) (f' := (3, [some (vR 1), some (vI (-3))], [vI (-2), vI (-3)], LAY (shA A) (shF F), 0, 0)) hc93 2 rfl trivial ?_
    refine R_ic (t := 23) hc93 rfl rfl (fun (z : (-2) < (-3)) => absurd z (by decide)) (fun (_ : ¬ ((-2) < (-3))) => ?_)
    refine R_s (P := True) (f' := (9, [some (vR 1), some (vI (-3))], [vI (-8), vI (-3)], LAY (shA A) (shF F), 0, 0)) hc93 2 rfl trivial ?_
    refine R_ic (t := 23) hc93 rfl rfl (fun (z : (-3) < (-8)) => absurd z (by decide)) (fun (_ : ¬ ((-3) < (-8))) => ?_)
    refine R_s (P := inI 3 ∧ (0 ≤ 3 ∧ 3 < ((A 87).length : Int)) ∧ inI ((rd (A 87) 3) + 1) ∧ (0 ≤ 3 ∧ 3 < ((A 87).length : Int)) ∧ True) (f' := (24, [some (vR 1), some (vI (-3))], [vI (-3)], LAY (u (shA A) 87 (wr (A 87) 3 ((rd (A 87) 3) + 1))) (shF F), 0, 0)) hc93 10 rfl ⟨⟨by omega, by omega⟩, ⟨by omega, by omega⟩, ⟨by omega, by omega⟩, ⟨by omega, by omega⟩, trivial⟩ ?_
    refine R_reti hc93 rfl rfl ?_
    refine R_s (f' := (24, [some (vR 1), some (vI 3), some (vI i), some (vR 47)], [vI (-3)], LAY (u (shA A) 87 (wr (A 87) 3 ((rd (A 87) 3) + 1))) (shF F), 0, 0)) hc77 0 rfl trivial ?_
    refine R_reti hc77 rfl rfl ⟨⟨_, rfl⟩, ⟨_, _, rfl, rfl⟩, ?_⟩
    refine R_s (P := True) (f' := (2, [some (vR 88), some (vI 3), some (vI i)], [vI 3, vR 88], LAY (u (shA A) 87 (wr (A 87) 3 ((rd (A 87) 3) + 1))) (shF F), 0, 0)) hc151 2 rfl trivial ?_
    refine R_cv hc151 rfl rfl ?_ (fun r G h => h)
    refine R_s (P := inI ((F 0) - 1) ∧ True) (f' := (8, [some (vR 88), some (vI 3)], [vI ((F 0) - 1), vI 0, vI 3], LAY (u (shA A) 87 (wr (A 87) 3 ((rd (A 87) 3) + 1))) (shF F), 0, 0)) hc108 6 rfl ⟨⟨by omega, by omega⟩, trivial⟩ ?_
    refine R_cs hc108 rfl rfl ?_ (fun r G h => h)
    refine R_s (P := True) (f' := (2, [some (vI 3), some (vI 0), some (vI ((F 0) - 1))], [vI 0, vI 3], LAY (u (shA A) 87 (wr (A 87) 3 ((rd (A 87) 3) + 1))) (shF F), 0, 0)) hc104 2 rfl trivial ?_
    refine R_ic (t := 14) hc104 rfl rfl (fun (z : 3 < 0) => absurd z (by decide)) (fun (_ : ¬ (3 < 0)) => ?_)
    refine R_s (P := True) (f' := (7, [some (vI 3), some (vI 0), some (vI ((F 0) - 1))], [vI ((F 0) - 1), vI 3], LAY (u (shA A) 87 (wr (A 87) 3 ((rd (A 87) 3) + 1))) (shF F), 0, 0)) hc104 2 rfl trivial ?_
    refine R_ic (t := 14) hc104 rfl rfl (fun (z : (F 0) - 1 < 3) => absurd z (by omega)) (fun (_ : ¬ ((F 0) - 1 < 3)) => ?_)
    refine R_s (P := True) (f' := (15, [some (vI 3), some (vI 0), some (vI ((F 0) - 1))], [vI 1], LAY (u (shA A) 87 (wr (A 87) 3 ((rd (A 87) 3) + 1))) (shF F), 0, 0)) hc104 2 rfl trivial ?_
    refine R_retz hc104 rfl rfl (Or.inr rfl) ?_
    refine R_s (f' := (11, [some (vR 88), some (vI 3)], [vI 1], LAY (u (shA A) 87 (wr (A 87) 3 ((rd (A 87) 3) + 1))) (shF F), 0, 0)) hc108 0 rfl trivial ?_
    refine R_retz hc108 rfl rfl (Or.inr rfl) ?_
    refine R_s (f' := (5, [some (vR 88), some (vI 3), some (vI i)], [vI 1], LAY (u (shA A) 87 (wr (A 87) 3 ((rd (A 87) 3) + 1))) (shF F), 0, 0)) hc151 0 rfl trivial ?_
    refine R_if (t := 24) hc151 rfl rfl (fun (z : 1 = 0) => absurd z (by decide)) (fun (_ : ¬ (1 = 0)) => ?_)
    refine R_s (P := (0 ≤ 3 ∧ 3 < ((A 99).length : Int)) ∧ inI ((rd (A 99) 3) - 1) ∧ True) (f' := (18, [some (vR 88), some (vI 3), some (vI i)], [vI ((rd (A 99) 3) - 1), vI 0, vI i], LAY (u (shA A) 87 (wr (A 87) 3 ((rd (A 87) 3) + 1))) (shF F), 0, 0)) hc151 8 rfl ⟨⟨by omega, by omega⟩, ⟨by omega, by omega⟩, trivial⟩ ?_
    refine R_cs hc151 rfl rfl ?_ (fun r G h => h)
    refine R_s (P := True) (f' := (2, [some (vI i), some (vI 0), some (vI ((rd (A 99) 3) - 1))], [vI 0, vI i], LAY (u (shA A) 87 (wr (A 87) 3 ((rd (A 87) 3) + 1))) (shF F), 0, 0)) hc104 2 rfl trivial ?_
    refine R_ic (t := 14) hc104 rfl rfl (fun (_ : i < 0) => ?_) (fun (z : ¬ (i < 0)) => absurd (show i < 0 by omega) z)
    refine R_s (P := True) (f' := (15, [some (vI i), some (vI 0), some (vI ((rd (A 99) 3) - 1))], [vI 0], LAY (u (shA A) 87 (wr (A 87) 3 ((rd (A 87) 3) + 1))) (shF F), 0, 0)) hc104 1 rfl trivial ?_
    refine R_retz hc104 rfl rfl (Or.inl rfl) ?_
    refine R_s (f' := (21, [some (vR 88), some (vI 3), some (vI i)], [vI 0], LAY (u (shA A) 87 (wr (A 87) 3 ((rd (A 87) 3) + 1))) (shF F), 0, 0)) hc151 0 rfl trivial ?_
    refine R_if (t := 31) hc151 rfl rfl (fun (z : ¬ 0 = 0) => absurd z (by decide)) (fun (_ : ¬ (¬ 0 = 0)) => ?_)
    refine R_s (P := True) (f' := (27, [some (vR 88), some (vI 3), some (vI i)], [vI (-3), vR 88], LAY (u (shA A) 87 (wr (A 87) 3 ((rd (A 87) 3) + 1))) (shF F), 0, 0)) hc151 2 rfl trivial ?_
    refine R_cv hc151 rfl rfl ?_ (fun r G h => h)
    refine R_s (P := inI 3 ∧ (0 ≤ 3 ∧ 3 < ((A 87).length : Int)) ∧ inI ((rd (A 87) 3) + 1) ∧ (0 ≤ 3 ∧ 3 < ((A 87).length : Int)) ∧ True) (f' := (12, [some (vR 88), some (vI (-3))], [vI (-3)], LAY (u (u (shA A) 87 (wr (A 87) 3 ((rd (A 87) 3) + 1))) 89 (wr (A 87) 3 ((rd (A 87) 3) + 1))) (shF F), 0, 0)) hc105 10 rfl ⟨⟨by omega, by omega⟩, ⟨by omega, by omega⟩, ⟨by omega, by omega⟩, ⟨by omega, by omega⟩, trivial⟩ ?_
    refine R_reti hc105 rfl rfl ?_
    refine R_s (f' := (30, [some (vR 88), some (vI 3), some (vI i)], [vI (-3)], LAY (u (u (shA A) 87 (wr (A 87) 3 ((rd (A 87) 3) + 1))) 89 (wr (A 87) 3 ((rd (A 87) 3) + 1))) (shF F), 0, 0)) hc151 0 rfl trivial ?_
    refine R_reti hc151 rfl rfl ?_
    first
      | (exfalso; omega; done)
      | exact ⟨rfl, (u A 87 (wr (A 87) 3 ((rd (A 87) 3) + 1))), F, rfl, rfl, REL_ref hR0 (by decide) (by decide)⟩
  · refine R_s (P := True) (f' := (9, [some (vR 47), some (vI i)], [vI (F 11), vI i], LAY (shA A) (shF F), 0, 0)) hc1 3 rfl trivial ?_
    refine R_ic (t := 16) hc1 rfl rfl (fun (c5 : F 11 ≤ i) => ?_) (fun (c5 : ¬ (F 11 ≤ i)) => ?_)
    · refine R_s (P := True) (f' := (17, [some (vR 47), some (vI i)], [vI 0], LAY (shA A) (shF F), 0, 0)) hc1 1 rfl trivial ?_
      refine R_retz hc1 rfl rfl (Or.inl rfl) ?_
      refine R_s (f' := (15, [some (vR 1), some (vI 3), some (vI i), some (vR 47)], [vI 0], LAY (shA A) (shF F), 0, 0)) hc77 0 rfl trivial ?_
      refine R_if (t := 25) hc77 rfl rfl (fun (z : ¬ 0 = 0) => absurd z (by decide)) (fun (_ : ¬ (¬ 0 = 0)) => ?_)
      refine R_s (P := True) (f' := (21, [some (vR 1), some (vI 3), some (vI i), some (vR 47)], [vI (-3), vR 1], LAY (shA A) (shF F), 0, 0)) hc77 2 rfl trivial ?_
      refine R_cv hc77 rfl rfl ?_ (fun r G h => h)
      refine R_s (P := True) (f' := (3, [some (vR 1), some (vI (-3))], [vI (-2), vI (-3)], LAY (shA A) (shF F), 0, 0)) hc93 2 rfl trivial ?_
      refine R_ic (t := 23) hc93 rfl rfl (fun (z : (-2) < (-3)) => absurd z (by decide)) (fun (_ : ¬ ((-2) < (-3))) => ?_)
      refine R_s (P := True) (f' := (9, [some (vR 1), some (vI (-3))], [vI (-8), vI (-3)], LAY (shA A) (shF F), 0, 0)) hc93 2 rfl trivial ?_
      refine R_ic (t := 23) hc93 rfl rfl (fun (z : (-3) < (-8)) => absurd z (by decide)) (fun (_ : ¬ ((-3) < (-8))) => ?_)
      refine R_s (P := inI 3 ∧ (0 ≤ 3 ∧ 3 < ((A 87).length : Int)) ∧ inI ((rd (A 87) 3) + 1) ∧ (0 ≤ 3 ∧ 3 < ((A 87).length : Int)) ∧ True) (f' := (24, [some (vR 1), some (vI (-3))], [vI (-3)], LAY (u (shA A) 87 (wr (A 87) 3 ((rd (A 87) 3) + 1))) (shF F), 0, 0)) hc93 10 rfl ⟨⟨by omega, by omega⟩, ⟨by omega, by omega⟩, ⟨by omega, by omega⟩, ⟨by omega, by omega⟩, trivial⟩ ?_
      refine R_reti hc93 rfl rfl ?_
      refine R_s (f' := (24, [some (vR 1), some (vI 3), some (vI i), some (vR 47)], [vI (-3)], LAY (u (shA A) 87 (wr (A 87) 3 ((rd (A 87) 3) + 1))) (shF F), 0, 0)) hc77 0 rfl trivial ?_
      refine R_reti hc77 rfl rfl ⟨⟨_, rfl⟩, ⟨_, _, rfl, rfl⟩, ?_⟩
      refine R_s (P := True) (f' := (2, [some (vR 88), some (vI 3), some (vI i)], [vI 3, vR 88], LAY (u (shA A) 87 (wr (A 87) 3 ((rd (A 87) 3) + 1))) (shF F), 0, 0)) hc151 2 rfl trivial ?_
      refine R_cv hc151 rfl rfl ?_ (fun r G h => h)
      refine R_s (P := inI ((F 0) - 1) ∧ True) (f' := (8, [some (vR 88), some (vI 3)], [vI ((F 0) - 1), vI 0, vI 3], LAY (u (shA A) 87 (wr (A 87) 3 ((rd (A 87) 3) + 1))) (shF F), 0, 0)) hc108 6 rfl ⟨⟨by omega, by omega⟩, trivial⟩ ?_
      refine R_cs hc108 rfl rfl ?_ (fun r G h => h)
      refine R_s (P := True) (f' := (2, [some (vI 3), some (vI 0), some (vI ((F 0) - 1))], [vI 0, vI 3], LAY (u (shA A) 87 (wr (A 87) 3 ((rd (A 87) 3) + 1))) (shF F), 0, 0)) hc104 2 rfl trivial ?_
      refine R_ic (t := 14) hc104 rfl rfl (fun (z : 3 < 0) => absurd z (by decide)) (fun (_ : ¬ (3 < 0)) => ?_)
      refine R_s (P := True) (f' := (7, [some (vI 3), some (vI 0), some (vI ((F 0) - 1))], [vI ((F 0) - 1), vI 3], LAY (u (shA A) 87 (wr (A 87) 3 ((rd (A 87) 3) + 1))) (shF F), 0, 0)) hc104 2 rfl trivial ?_
      refine R_ic (t := 14) hc104 rfl rfl (fun (z : (F 0) - 1 < 3) => absurd z (by omega)) (fun (_ : ¬ ((F 0) - 1 < 3)) => ?_)
      refine R_s (P := True) (f' := (15, [some (vI 3), some (vI 0), some (vI ((F 0) - 1))], [vI 1], LAY (u (shA A) 87 (wr (A 87) 3 ((rd (A 87) 3) + 1))) (shF F), 0, 0)) hc104 2 rfl trivial ?_
      refine R_retz hc104 rfl rfl (Or.inr rfl) ?_
      refine R_s (f' := (11, [some (vR 88), some (vI 3)], [vI 1], LAY (u (shA A) 87 (wr (A 87) 3 ((rd (A 87) 3) + 1))) (shF F), 0, 0)) hc108 0 rfl trivial ?_
      refine R_retz hc108 rfl rfl (Or.inr rfl) ?_
      refine R_s (f' := (5, [some (vR 88), some (vI 3), some (vI i)], [vI 1], LAY (u (shA A) 87 (wr (A 87) 3 ((rd (A 87) 3) + 1))) (shF F), 0, 0)) hc151 0 rfl trivial ?_
      refine R_if (t := 24) hc151 rfl rfl (fun (z : 1 = 0) => absurd z (by decide)) (fun (_ : ¬ (1 = 0)) => ?_)
      refine R_s (P := (0 ≤ 3 ∧ 3 < ((A 99).length : Int)) ∧ inI ((rd (A 99) 3) - 1) ∧ True) (f' := (18, [some (vR 88), some (vI 3), some (vI i)], [vI ((rd (A 99) 3) - 1), vI 0, vI i], LAY (u (shA A) 87 (wr (A 87) 3 ((rd (A 87) 3) + 1))) (shF F), 0, 0)) hc151 8 rfl ⟨⟨by omega, by omega⟩, ⟨by omega, by omega⟩, trivial⟩ ?_
      refine R_cs hc151 rfl rfl ?_ (fun r G h => h)
      refine R_s (P := True) (f' := (2, [some (vI i), some (vI 0), some (vI ((rd (A 99) 3) - 1))], [vI 0, vI i], LAY (u (shA A) 87 (wr (A 87) 3 ((rd (A 87) 3) + 1))) (shF F), 0, 0)) hc104 2 rfl trivial ?_
      refine R_ic (t := 14) hc104 rfl rfl (fun (z : i < 0) => absurd z (by omega)) (fun (_ : ¬ (i < 0)) => ?_)
      refine R_s (P := True) (f' := (7, [some (vI i), some (vI 0), some (vI ((rd (A 99) 3) - 1))], [vI ((rd (A 99) 3) - 1), vI i], LAY (u (shA A) 87 (wr (A 87) 3 ((rd (A 87) 3) + 1))) (shF F), 0, 0)) hc104 2 rfl trivial ?_
      refine R_ic (t := 14) hc104 rfl rfl (fun (_ : (rd (A 99) 3) - 1 < i) => ?_) (fun (z : ¬ ((rd (A 99) 3) - 1 < i)) => absurd (show (rd (A 99) 3) - 1 < i by omega) z)
      refine R_s (P := True) (f' := (15, [some (vI i), some (vI 0), some (vI ((rd (A 99) 3) - 1))], [vI 0], LAY (u (shA A) 87 (wr (A 87) 3 ((rd (A 87) 3) + 1))) (shF F), 0, 0)) hc104 1 rfl trivial ?_
      refine R_retz hc104 rfl rfl (Or.inl rfl) ?_
      refine R_s (f' := (21, [some (vR 88), some (vI 3), some (vI i)], [vI 0], LAY (u (shA A) 87 (wr (A 87) 3 ((rd (A 87) 3) + 1))) (shF F), 0, 0)) hc151 0 rfl trivial ?_
      refine R_if (t := 31) hc151 rfl rfl (fun (z : ¬ 0 = 0) => absurd z (by decide)) (fun (_ : ¬ (¬ 0 = 0)) => ?_)
      refine R_s (P := True) (f' := (27, [some (vR 88), some (vI 3), some (vI i)], [vI (-3), vR 88], LAY (u (shA A) 87 (wr (A 87) 3 ((rd (A 87) 3) + 1))) (shF F), 0, 0)) hc151 2 rfl trivial ?_
      refine R_cv hc151 rfl rfl ?_ (fun r G h => h)
      refine R_s (P := inI 3 ∧ (0 ≤ 3 ∧ 3 < ((A 87).length : Int)) ∧ inI ((rd (A 87) 3) + 1) ∧ (0 ≤ 3 ∧ 3 < ((A 87).length : Int)) ∧ True) (f' := (12, [some (vR 88), some (vI (-3))], [vI (-3)], LAY (u (u (shA A) 87 (wr (A 87) 3 ((rd (A 87) 3) + 1))) 89 (wr (A 87) 3 ((rd (A 87) 3) + 1))) (shF F), 0, 0)) hc105 10 rfl ⟨⟨by omega, by omega⟩, ⟨by omega, by omega⟩, ⟨by omega, by omega⟩, ⟨by omega, by omega⟩, trivial⟩ ?_
      refine R_reti hc105 rfl rfl ?_
      refine R_s (f' := (30, [some (vR 88), some (vI 3), some (vI i)], [vI (-3)], LAY (u (u (shA A) 87 (wr (A 87) 3 ((rd (A 87) 3) + 1))) 89 (wr (A 87) 3 ((rd (A 87) 3) + 1))) (shF F), 0, 0)) hc151 0 rfl trivial ?_
      refine R_reti hc151 rfl rfl ?_
      first
        | (exfalso; omega; done)
        | exact ⟨rfl, (u A 87 (wr (A 87) 3 ((rd (A 87) 3) + 1))), F, rfl, rfl, REL_ref hR0 (by decide) (by decide)⟩
    · refine R_s (P := True) (f' := (17, [some (vR 47), some (vI i)], [vI 1], LAY (shA A) (shF F), 0, 0)) hc1 2 rfl trivial ?_
      refine R_retz hc1 rfl rfl (Or.inr rfl) ?_
      refine R_s (f' := (15, [some (vR 1), some (vI 3), some (vI i), some (vR 47)], [vI 1], LAY (shA A) (shF F), 0, 0)) hc77 0 rfl trivial ?_
      refine R_if (t := 25) hc77 rfl rfl (fun (_ : ¬ 1 = 0) => ?_) (fun (z : ¬ (¬ 1 = 0)) => absurd (by decide) z)
      refine R_s (P := True) (f' := (28, [some (vR 1), some (vI 3), some (vI i), some (vR 47)], [vI 3, vR 47, vR 1], LAY (shA A) (shF F), 0, 0)) hc77 3 rfl trivial ?_
      refine R_cv hc77 rfl rfl (l_now3 hR0 hd hS) (fun r G9 hp9 => ?_)
      obtain ⟨rfl, l8, l9, l10, l11, l75, l76, l77, l78, rfl, k8, k9, k10, k11, k75, k76, k77, k78, v75, v76, v77⟩ := hp9
      have y76 : 0 ≤ i → i < F 11 → rd l76 i = te (i).toNat := fun q1 q2 => by
        have z := v76 (i).toNat (by omega)
        rw [show ((((i).toNat : Nat)) : Int) = i by omega] at z
        exact z
      refine R_s (f' := (31, [some (vR 1), some (vI 3), some (vI i), some (vR 47)], [], LAY (u (u (u (u (u (u (u (u (shA A) 8 l8) 9 l9) 10 l10) 11 l11) 75 l75) 76 l76) 77 l77) 78 l78) (u (u (shF F) 14 mg) 15 lo), 0, 0)) hc77 0 rfl trivial ?_
      refine R_s (P := (0 ≤ i ∧ i < ((l76).length : Int)) ∧ True) (f' := (40, [some (vR 1), some (vI 3), some (vI i), some (vR 47)], [vI (rd l76 i)], LAY (u (u (u (u (u (u (u (u (shA A) 8 l8) 9 l9) 10 l10) 11 l11) 75 l75) 76 l76) 77 l77) 78 l78) (u (u (shF F) 14 mg) 15 lo), 0, 0)) hc77 5 rfl ⟨⟨by omega, by omega⟩, trivial⟩ ?_
      refine R_reti hc77 rfl rfl ⟨⟨_, rfl⟩, ⟨_, _, rfl, rfl⟩, ?_⟩
      refine R_s (P := True) (f' := (2, [some (vR 88), some (vI 3), some (vI i)], [vI 3, vR 88], LAY (u (u (u (u (u (u (u (u (shA A) 8 l8) 9 l9) 10 l10) 11 l11) 75 l75) 76 l76) 77 l77) 78 l78) (u (u (shF F) 14 mg) 15 lo), 0, 0)) hc151 2 rfl trivial ?_
      refine R_cv hc151 rfl rfl ?_ (fun r G h => h)
      refine R_s (P := inI ((F 0) - 1) ∧ True) (f' := (8, [some (vR 88), some (vI 3)], [vI ((F 0) - 1), vI 0, vI 3], LAY (u (u (u (u (u (u (u (u (shA A) 8 l8) 9 l9) 10 l10) 11 l11) 75 l75) 76 l76) 77 l77) 78 l78) (u (u (shF F) 14 mg) 15 lo), 0, 0)) hc108 6 rfl ⟨⟨by omega, by omega⟩, trivial⟩ ?_
      refine R_cs hc108 rfl rfl ?_ (fun r G h => h)
      refine R_s (P := True) (f' := (2, [some (vI 3), some (vI 0), some (vI ((F 0) - 1))], [vI 0, vI 3], LAY (u (u (u (u (u (u (u (u (shA A) 8 l8) 9 l9) 10 l10) 11 l11) 75 l75) 76 l76) 77 l77) 78 l78) (u (u (shF F) 14 mg) 15 lo), 0, 0)) hc104 2 rfl trivial ?_
      refine R_ic (t := 14) hc104 rfl rfl (fun (z : 3 < 0) => absurd z (by decide)) (fun (_ : ¬ (3 < 0)) => ?_)
      refine R_s (P := True) (f' := (7, [some (vI 3), some (vI 0), some (vI ((F 0) - 1))], [vI ((F 0) - 1), vI 3], LAY (u (u (u (u (u (u (u (u (shA A) 8 l8) 9 l9) 10 l10) 11 l11) 75 l75) 76 l76) 77 l77) 78 l78) (u (u (shF F) 14 mg) 15 lo), 0, 0)) hc104 2 rfl trivial ?_
      refine R_ic (t := 14) hc104 rfl rfl (fun (z : (F 0) - 1 < 3) => absurd z (by omega)) (fun (_ : ¬ ((F 0) - 1 < 3)) => ?_)
      refine R_s (P := True) (f' := (15, [some (vI 3), some (vI 0), some (vI ((F 0) - 1))], [vI 1], LAY (u (u (u (u (u (u (u (u (shA A) 8 l8) 9 l9) 10 l10) 11 l11) 75 l75) 76 l76) 77 l77) 78 l78) (u (u (shF F) 14 mg) 15 lo), 0, 0)) hc104 2 rfl trivial ?_
      refine R_retz hc104 rfl rfl (Or.inr rfl) ?_
      refine R_s (f' := (11, [some (vR 88), some (vI 3)], [vI 1], LAY (u (u (u (u (u (u (u (u (shA A) 8 l8) 9 l9) 10 l10) 11 l11) 75 l75) 76 l76) 77 l77) 78 l78) (u (u (shF F) 14 mg) 15 lo), 0, 0)) hc108 0 rfl trivial ?_
      refine R_retz hc108 rfl rfl (Or.inr rfl) ?_
      refine R_s (f' := (5, [some (vR 88), some (vI 3), some (vI i)], [vI 1], LAY (u (u (u (u (u (u (u (u (shA A) 8 l8) 9 l9) 10 l10) 11 l11) 75 l75) 76 l76) 77 l77) 78 l78) (u (u (shF F) 14 mg) 15 lo), 0, 0)) hc151 0 rfl trivial ?_
      refine R_if (t := 24) hc151 rfl rfl (fun (z : 1 = 0) => absurd z (by decide)) (fun (_ : ¬ (1 = 0)) => ?_)
      refine R_s (P := (0 ≤ 3 ∧ 3 < ((A 99).length : Int)) ∧ inI ((rd (A 99) 3) - 1) ∧ True) (f' := (18, [some (vR 88), some (vI 3), some (vI i)], [vI ((rd (A 99) 3) - 1), vI 0, vI i], LAY (u (u (u (u (u (u (u (u (shA A) 8 l8) 9 l9) 10 l10) 11 l11) 75 l75) 76 l76) 77 l77) 78 l78) (u (u (shF F) 14 mg) 15 lo), 0, 0)) hc151 8 rfl ⟨⟨by omega, by omega⟩, ⟨by omega, by omega⟩, trivial⟩ ?_
      refine R_cs hc151 rfl rfl ?_ (fun r G h => h)
      refine R_s (P := True) (f' := (2, [some (vI i), some (vI 0), some (vI ((rd (A 99) 3) - 1))], [vI 0, vI i], LAY (u (u (u (u (u (u (u (u (shA A) 8 l8) 9 l9) 10 l10) 11 l11) 75 l75) 76 l76) 77 l77) 78 l78) (u (u (shF F) 14 mg) 15 lo), 0, 0)) hc104 2 rfl trivial ?_
      refine R_ic (t := 14) hc104 rfl rfl (fun (z : i < 0) => absurd z (by omega)) (fun (_ : ¬ (i < 0)) => ?_)
      refine R_s (P := True) (f' := (7, [some (vI i), some (vI 0), some (vI ((rd (A 99) 3) - 1))], [vI ((rd (A 99) 3) - 1), vI i], LAY (u (u (u (u (u (u (u (u (shA A) 8 l8) 9 l9) 10 l10) 11 l11) 75 l75) 76 l76) 77 l77) 78 l78) (u (u (shF F) 14 mg) 15 lo), 0, 0)) hc104 2 rfl trivial ?_
      refine R_ic (t := 14) hc104 rfl rfl (fun (z : (rd (A 99) 3) - 1 < i) => absurd z (by omega)) (fun (_ : ¬ ((rd (A 99) 3) - 1 < i)) => ?_)
      refine R_s (P := True) (f' := (15, [some (vI i), some (vI 0), some (vI ((rd (A 99) 3) - 1))], [vI 1], LAY (u (u (u (u (u (u (u (u (shA A) 8 l8) 9 l9) 10 l10) 11 l11) 75 l75) 76 l76) 77 l77) 78 l78) (u (u (shF F) 14 mg) 15 lo), 0, 0)) hc104 2 rfl trivial ?_
      refine R_retz hc104 rfl rfl (Or.inr rfl) ?_
      refine R_s (f' := (21, [some (vR 88), some (vI 3), some (vI i)], [vI 1], LAY (u (u (u (u (u (u (u (u (shA A) 8 l8) 9 l9) 10 l10) 11 l11) 75 l75) 76 l76) 77 l77) 78 l78) (u (u (shF F) 14 mg) 15 lo), 0, 0)) hc151 0 rfl trivial ?_
      refine R_if (t := 31) hc151 rfl rfl (fun (_ : ¬ 1 = 0) => ?_) (fun (z : ¬ (¬ 1 = 0)) => absurd (by decide) z)
      refine R_s (P := True) (f' := (33, [some (vR 88), some (vI 3), some (vI i)], [vI 3, vR 88], LAY (u (u (u (u (u (u (u (u (shA A) 8 l8) 9 l9) 10 l10) 11 l11) 75 l75) 76 l76) 77 l77) 78 l78) (u (u (shF F) 14 mg) 15 lo), 0, 0)) hc151 2 rfl trivial ?_
      refine R_cv hc151 rfl rfl (l_worksR hR0 (A1 := (u (u (u (u (u (u (u (u (shA A) 8 l8) 9 l9) 10 l10) 11 l11) 75 l75) 76 l76) 77 l77) 78 l78)) (F1 := (u (u (shF F) 14 mg) 15 lo)) rfl rfl rfl rfl rfl rfl rfl rfl rfl rfl rfl rfl rfl (hL 104 (by decide)) (hL 105 (by decide)) (hL 107 (by decide)) (hL 108 (by decide)) (hL 109 (by decide)) (hL 110 (by decide)) (hL 111 (by decide)) hD.1 hD.2 rfl hS) (fun r G9 hp9 => ?_)
      obtain ⟨rfl, l104, l105, l107, l108, l109, l110, l111, ac, rfl, k104, k105, k107, k108, k109, k110, k111, hac, w107, w108⟩ := hp9
      have y107 : 0 ≤ i → i < F 11 → rd l107 i = te (i).toNat := fun q1 q2 => by
        have z := w107 (i).toNat (by omega)
        rw [show ((((i).toNat : Nat)) : Int) = i by omega] at z
        exact z
      refine R_s (f' := (36, [some (vR 88), some (vI 3), some (vI i)], [], LAY (u (u (u (u (u (u (u (u (u (u (u (u (u (u (u (shA A) 8 l8) 9 l9) 10 l10) 11 l11) 75 l75) 76 l76) 77 l77) 78 l78) 109 l109) 104 l104) 105 l105) 110 l110) 111 l111) 108 l108) 107 l107) (u (u (u (u (u (u (shF F) 14 mg) 15 lo) 28 (N_Y A F 3)) 29 ac) 30 mg) 31 lo), 0, 0)) hc151 0 rfl trivial ?_
      refine R_s (P := (0 ≤ i ∧ i < ((l107).length : Int)) ∧ True) (f' := (42, [some (vR 88), some (vI 3), some (vI i)], [vI (rd l107 i)], LAY (u (u (u (u (u (u (u (u (u (u (u (u (u (u (u (shA A) 8 l8) 9 l9) 10 l10) 11 l11) 75 l75) 76 l76) 77 l77) 78 l78) 109 l109) 104 l104) 105 l105) 110 l110) 111 l111) 108 l108) 107 l107) (u (u (u (u (u (u (shF F) 14 mg) 15 lo) 28 (N_Y A F 3)) 29 ac) 30 mg) 31 lo), 0, 0)) hc151 4 rfl ⟨⟨by omega, by omega⟩, trivial⟩ ?_
      refine R_reti hc151 rfl rfl ?_
      first
        | (exfalso; omega; done)
        | exact ⟨(by rw [show rd l107 i = rd l76 i by omega]), (u (u (u (u (u (u (u (u (u (u (u (u (u (u (u A 8 l8) 9 l9) 10 l10) 11 l11) 75 l75) 76 l76) 77 l77) 78 l78) 109 l109) 104 l104) 105 l105) 110 l110) 111 l111) 108 l108) 107 l107), (u (u (u (u (u (u F 14 mg) 15 lo) 28 (N_Y A F 3)) 29 ac) 30 mg) 31 lo), rfl, rfl, ⟨(LENS_u (LENS_u (LENS_u (LENS_u (LENS_u (LENS_u (LENS_u (LENS_u (LENS_u (LENS_u (LENS_u (LENS_u (LENS_u (LENS_u (LENS_u hL (by show (l8).length = (A 8).length; rw [k8, hL 8 (by decide)]; rfl)) (by show (l9).length = (A 9).length; rw [k9, hL 9 (by decide)]; rfl)) (by show (l10).length = (A 10).length; rw [k10, hL 10 (by decide)]; rfl)) (by show (l11).length = (A 11).length; rw [k11, hL 11 (by decide)]; rfl)) (by show (l75).length = (A 75).length; rw [k75, hL 75 (by decide)]; rfl)) (by show (l76).length = (A 76).length; rw [k76, hL 76 (by decide)]; rfl)) (by show (l77).length = (A 77).length; rw [k77, hL 77 (by decide)]; rfl)) (by show (l78).length = (A 78).length; rw [k78, hL 78 (by decide)]; rfl)) (by show (l109).length = (A 109).length; rw [k109, hL 109 (by decide)]; rfl)) (by show (l104).length = (A 104).length; rw [k104, hL 104 (by decide)]; rfl)) (by show (l105).length = (A 105).length; rw [k105, hL 105 (by decide)]; rfl)) (by show (l110).length = (A 110).length; rw [k110, hL 110 (by decide)]; rfl)) (by show (l111).length = (A 111).length; rw [k111, hL 111 (by decide)]; rfl)) (by show (l108).length = (A 108).length; rw [k108, hL 108 (by decide)]; rfl)) (by show (l107).length = (A 107).length; rw [k107, hL 107 (by decide)]; rfl)), hR0.2.1, hR0.2.2.1, hR0.2.2.2.1, hR0.2.2.2.2.1, hR0.2.2.2.2.2.1, hR0.2.2.2.2.2.2.1, hR0.2.2.2.2.2.2.2.1, hR0.2.2.2.2.2.2.2.2.1, (REFU_c hR0.2.2.2.2.2.2.2.2.2)⟩⟩

theorem op_gets_4 {c : Int} {A : Nat → List Int} {F : Nat → Int} (hR : REL c A F) (hc : c < 512) (i : Int) (i_i : inI i) (hd : (4 : Int) < F 0) : R 77 (0, L0 77 [vR 1, vI 4, vI i], [], LAY (shA A) (shF F), 0, 0) (fun r G => (∃ x, r = some (vI x)) ∧ (∃ (A1 : Nat → List Int) (F1 : Nat → Int), G = LAY A1 F1 ∧ A1 0 = A 0) ∧ R 151 (0, L0 151 [vR 88, vI 4, vI i], [], G, 0, 0) (fun r2 G2 => r2 = r ∧ ∃ (A' : Nat → List Int) (F' : Nat → Int), G2 = LAY (shA A') (shF F') ∧ A' 0 = A 0 ∧ REL (c + 1) A' F')) := by
  have hR0 := hR
  obtain ⟨hL, hPE, hTH, hTP, hDE, hLE, hNO, hAC, hRO, hRE⟩ := hR
  have j_i := i_i
  unfold inI at j_i
  have h87 : (A 87).length = 9 := hL 87 (by decide)
  have h99 : (A 99).length = 6 := hL 99 (by decide)
  have r2 := REFU_at hRE (k := 2) (by decide) (by decide) hc
  have r3 := REFU_at hRE (k := 3) (by decide) (by decide) hc
  have r4 := REFU_at hRE (k := 4) (by decide) (by decide) hc
  have r5 := REFU_at hRE (k := 5) (by decide) (by decide) hc
  have r6 := REFU_at hRE (k := 6) (by decide) (by decide) hc
  have r7 := REFU_at hRE (k := 7) (by decide) (by decide) hc
  have r8 := REFU_at hRE (k := 8) (by decide) (by decide) hc
  obtain ⟨t1, t2, t3, t4, t5, t6⟩ := hTH
  obtain ⟨p1, p2, p3, p4, p5, p6⟩ := hPE
  have hD := D_at4 hR0 hd
  have he1 := hD.1.1
  have he2 := hD.1.2.1
  have hme : rd (A 99) 4 = F 12 := by
    have := hD.2.2.2.2.1
    omega
  obtain ⟨so, te, tp, mg, pm, lo, hS⟩ := SPL_ex A F (N_al A F) (N_Q A 57) (F 12).toNat (N_Y A F 4)
  refine R_s (P := True) (f' := (2, [some (vR 1), some (vI 4), some (vI i), none], [vI 4, vR 1], LAY (shA A) (shF F), 0, 0)) hc77 2 rfl trivial ?_
  refine R_cv hc77 rfl rfl ?_ (fun r G h => h)
  refine R_s (P := True) (f' := (2, [some (vR 1), some (vI 4)], [vI 4, vR 1], LAY (shA A) (shF F), 0, 0)) hc99 2 rfl trivial ?_
  refine R_cv hc99 rfl rfl ?_ (fun r G h => h)
  refine R_s (P := True) (f' := (1, [some (vR 1), some (vI 4)], [vI 4], LAY (shA A) (shF F), 0, 0)) hc98 1 rfl trivial ?_
  refine R_if (t := 16) hc98 rfl rfl (fun (z : 4 < 0) => absurd z (by decide)) (fun (_ : ¬ (4 < 0)) => ?_)
  refine R_s (P := True) (f' := (9, [some (vR 1), some (vI 4)], [vI (F 0), vI 4], LAY (shA A) (shF F), 0, 0)) hc98 3 rfl trivial ?_
  refine R_ic (t := 16) hc98 rfl rfl (fun (z : F 0 ≤ 4) => absurd z (by omega)) (fun (_ : ¬ (F 0 ≤ 4)) => ?_)
  refine R_s (P := True) (f' := (17, [some (vR 1), some (vI 4)], [vI 1], LAY (shA A) (shF F), 0, 0)) hc98 2 rfl trivial ?_
  refine R_retz hc98 rfl rfl (Or.inr rfl) ?_
  refine R_s (f' := (5, [some (vR 1), some (vI 4)], [vI 1], LAY (shA A) (shF F), 0, 0)) hc99 0 rfl trivial ?_
  refine R_if (t := 17) hc99 rfl rfl (fun (z : 1 = 0) => absurd z (by decide)) (fun (_ : ¬ (1 = 0)) => ?_)
  refine R_s (P := (0 ≤ (4 : Int) ∧ (4 : Int) < (([some 20, some 29, some 38, some 47, some 56, some 65] : List (Option Nat)).length : Int)) ∧ True) (f' := (18, [some (vR 1), some (vI 4)], [vR 56], LAY (shA A) (shF F), 0, 0)) hc99 5 rfl ⟨(by decide), trivial⟩ ?_
  refine R_reta hc99 rfl rfl ?_
  refine R_s (f' := (5, [some (vR 1), some (vI 4), some (vI i), none], [vR 56], LAY (shA A) (shF F), 0, 0)) hc77 0 rfl trivial ?_
  refine R_s (P := True) (f' := (12, [some (vR 1), some (vI 4), some (vI i), some (vR 56)], [vI i, vR 56], LAY (shA A) (shF F), 0, 0)) hc77 5 rfl trivial ?_
  refine R_cv hc77 rfl rfl ?_ (fun r G h => h)
  refine R_s (P := True) (f' := (1, [some (vR 56), some (vI i)], [vI i], LAY (shA A) (shF F), 0, 0)) hc1 1 rfl trivial ?_
  refine R_if (t := 16) hc1 rfl rfl (fun (c4 : i < 0) => ?_) (fun (c4 : ¬ (i < 0)) => ?_)
  · refine R_s (P := True) (f' := (17, [some (vR 56), some (vI i)], [vI 0], LAY (shA A) (shF F), 0, 0)) hc1 1 rfl trivial ?_
    refine R_retz hc1 rfl rfl (Or.inl rfl) ?_
    refine R_s (f' := (15, [some (vR 1), some (vI 4), some (vI i), some (vR 56)], [vI 0], LAY (shA A) (shF F), 0, 0)) hc77 0 rfl trivial ?_
    refine R_if (t := 25) hc77 rfl rfl (fun (z : ¬ 0 = 0) => absurd z (by decide)) (fun (_ : ¬ (¬ 0 = 0)) => ?_)
    refine R_s (P := True) (f' := (21, [some (vR 1), some (vI 4), some (vI i), some (vR 56)], [vI (-3), vR 1], LAY (shA A) (shF F), 0, 0)) hc77 2 rfl trivial ?_
    refine R_cv hc77 rfl rfl ?_ (fun r G h => h)
    refine R_s (P := True) (f' := (3, [some (vR 1), some (vI (-3))], [vI (-2), vI (-3)], LAY (shA A) (shF F), 0, 0)) hc93 2 rfl trivial ?_
    refine R_ic (t := 23) hc93 rfl rfl (fun (z : (-2) < (-3)) => absurd z (by decide)) (fun (_ : ¬ ((-2) < (-3))) => ?_)
    refine R_s (P := True) (f' := (9, [some (vR 1), some (vI (-3))], [vI (-8), vI (-3)], LAY (shA A) (shF F), 0, 0)) hc93 2 rfl trivial ?_
    refine R_ic (t := 23) hc93 rfl rfl (fun (z : (-3) < (-8)) => absurd z (by decide)) (fun (_ : ¬ ((-3) < (-8))) => ?_)
    refine R_s (P := inI 3 ∧ (0 ≤ 3 ∧ 3 < ((A 87).length : Int)) ∧ inI ((rd (A 87) 3) + 1) ∧ (0 ≤ 3 ∧ 3 < ((A 87).length : Int)) ∧ True) (f' := (24, [some (vR 1), some (vI (-3))], [vI (-3)], LAY (u (shA A) 87 (wr (A 87) 3 ((rd (A 87) 3) + 1))) (shF F), 0, 0)) hc93 10 rfl ⟨⟨by omega, by omega⟩, ⟨by omega, by omega⟩, ⟨by omega, by omega⟩, ⟨by omega, by omega⟩, trivial⟩ ?_
    refine R_reti hc93 rfl rfl ?_
    refine R_s (f' := (24, [some (vR 1), some (vI 4), some (vI i), some (vR 56)], [vI (-3)], LAY (u (shA A) 87 (wr (A 87) 3 ((rd (A 87) 3) + 1))) (shF F), 0, 0)) hc77 0 rfl trivial ?_
    refine R_reti hc77 rfl rfl ⟨⟨_, rfl⟩, ⟨_, _, rfl, rfl⟩, ?_⟩
    refine R_s (P := True) (f' := (2, [some (vR 88), some (vI 4), some (vI i)], [vI 4, vR 88], LAY (u (shA A) 87 (wr (A 87) 3 ((rd (A 87) 3) + 1))) (shF F), 0, 0)) hc151 2 rfl trivial ?_
    refine R_cv hc151 rfl rfl ?_ (fun r G h => h)
    refine R_s (P := inI ((F 0) - 1) ∧ True) (f' := (8, [some (vR 88), some (vI 4)], [vI ((F 0) - 1), vI 0, vI 4], LAY (u (shA A) 87 (wr (A 87) 3 ((rd (A 87) 3) + 1))) (shF F), 0, 0)) hc108 6 rfl ⟨⟨by omega, by omega⟩, trivial⟩ ?_
    refine R_cs hc108 rfl rfl ?_ (fun r G h => h)
    refine R_s (P := True) (f' := (2, [some (vI 4), some (vI 0), some (vI ((F 0) - 1))], [vI 0, vI 4], LAY (u (shA A) 87 (wr (A 87) 3 ((rd (A 87) 3) + 1))) (shF F), 0, 0)) hc104 2 rfl trivial ?_
    refine R_ic (t := 14) hc104 rfl rfl (fun (z : 4 < 0) => absurd z (by decide)) (fun (_ : ¬ (4 < 0)) => ?_)
    refine R_s (P := True) (f' := (7, [some (vI 4), some (vI 0), some (vI ((F 0) - 1))], [vI ((F 0) - 1), vI 4], LAY (u (shA A) 87 (wr (A 87) 3 ((rd (A 87) 3) + 1))) (shF F), 0, 0)) hc104 2 rfl trivial ?_
    refine R_ic (t := 14) hc104 rfl rfl (fun (z : (F 0) - 1 < 4) => absurd z (by omega)) (fun (_ : ¬ ((F 0) - 1 < 4)) => ?_)
    refine R_s (P := True) (f' := (15, [some (vI 4), some (vI 0), some (vI ((F 0) - 1))], [vI 1], LAY (u (shA A) 87 (wr (A 87) 3 ((rd (A 87) 3) + 1))) (shF F), 0, 0)) hc104 2 rfl trivial ?_
    refine R_retz hc104 rfl rfl (Or.inr rfl) ?_
    refine R_s (f' := (11, [some (vR 88), some (vI 4)], [vI 1], LAY (u (shA A) 87 (wr (A 87) 3 ((rd (A 87) 3) + 1))) (shF F), 0, 0)) hc108 0 rfl trivial ?_
    refine R_retz hc108 rfl rfl (Or.inr rfl) ?_
    refine R_s (f' := (5, [some (vR 88), some (vI 4), some (vI i)], [vI 1], LAY (u (shA A) 87 (wr (A 87) 3 ((rd (A 87) 3) + 1))) (shF F), 0, 0)) hc151 0 rfl trivial ?_
    refine R_if (t := 24) hc151 rfl rfl (fun (z : 1 = 0) => absurd z (by decide)) (fun (_ : ¬ (1 = 0)) => ?_)
    refine R_s (P := (0 ≤ 4 ∧ 4 < ((A 99).length : Int)) ∧ inI ((rd (A 99) 4) - 1) ∧ True) (f' := (18, [some (vR 88), some (vI 4), some (vI i)], [vI ((rd (A 99) 4) - 1), vI 0, vI i], LAY (u (shA A) 87 (wr (A 87) 3 ((rd (A 87) 3) + 1))) (shF F), 0, 0)) hc151 8 rfl ⟨⟨by omega, by omega⟩, ⟨by omega, by omega⟩, trivial⟩ ?_
    refine R_cs hc151 rfl rfl ?_ (fun r G h => h)
    refine R_s (P := True) (f' := (2, [some (vI i), some (vI 0), some (vI ((rd (A 99) 4) - 1))], [vI 0, vI i], LAY (u (shA A) 87 (wr (A 87) 3 ((rd (A 87) 3) + 1))) (shF F), 0, 0)) hc104 2 rfl trivial ?_
    refine R_ic (t := 14) hc104 rfl rfl (fun (_ : i < 0) => ?_) (fun (z : ¬ (i < 0)) => absurd (show i < 0 by omega) z)
    refine R_s (P := True) (f' := (15, [some (vI i), some (vI 0), some (vI ((rd (A 99) 4) - 1))], [vI 0], LAY (u (shA A) 87 (wr (A 87) 3 ((rd (A 87) 3) + 1))) (shF F), 0, 0)) hc104 1 rfl trivial ?_
    refine R_retz hc104 rfl rfl (Or.inl rfl) ?_
    refine R_s (f' := (21, [some (vR 88), some (vI 4), some (vI i)], [vI 0], LAY (u (shA A) 87 (wr (A 87) 3 ((rd (A 87) 3) + 1))) (shF F), 0, 0)) hc151 0 rfl trivial ?_
    refine R_if (t := 31) hc151 rfl rfl (fun (z : ¬ 0 = 0) => absurd z (by decide)) (fun (_ : ¬ (¬ 0 = 0)) => ?_)
    refine R_s (P := True) (f' := (27, [some (vR 88), some (vI 4), some (vI i)], [vI (-3), vR 88], LAY (u (shA A) 87 (wr (A 87) 3 ((rd (A 87) 3) + 1))) (shF F), 0, 0)) hc151 2 rfl trivial ?_
    refine R_cv hc151 rfl rfl ?_ (fun r G h => h)
    refine R_s (P := inI 3 ∧ (0 ≤ 3 ∧ 3 < ((A 87).length : Int)) ∧ inI ((rd (A 87) 3) + 1) ∧ (0 ≤ 3 ∧ 3 < ((A 87).length : Int)) ∧ True) (f' := (12, [some (vR 88), some (vI (-3))], [vI (-3)], LAY (u (u (shA A) 87 (wr (A 87) 3 ((rd (A 87) 3) + 1))) 89 (wr (A 87) 3 ((rd (A 87) 3) + 1))) (shF F), 0, 0)) hc105 10 rfl ⟨⟨by omega, by omega⟩, ⟨by omega, by omega⟩, ⟨by omega, by omega⟩, ⟨by omega, by omega⟩, trivial⟩ ?_
    refine R_reti hc105 rfl rfl ?_
    refine R_s (f' := (30, [some (vR 88), some (vI 4), some (vI i)], [vI (-3)], LAY (u (u (shA A) 87 (wr (A 87) 3 ((rd (A 87) 3) + 1))) 89 (wr (A 87) 3 ((rd (A 87) 3) + 1))) (shF F), 0, 0)) hc151 0 rfl trivial ?_
    refine R_reti hc151 rfl rfl ?_
    first
      | (exfalso; omega; done)
      | exact ⟨rfl, (u A 87 (wr (A 87) 3 ((rd (A 87) 3) + 1))), F, rfl, rfl, REL_ref hR0 (by decide) (by decide)⟩
  · refine R_s (P := True) (f' := (9, [some (vR 56), some (vI i)], [vI (F 12), vI i], LAY (shA A) (shF F), 0, 0)) hc1 3 rfl trivial ?_
    refine R_ic (t := 16) hc1 rfl rfl (fun (c5 : F 12 ≤ i) => ?_) (fun (c5 : ¬ (F 12 ≤ i)) => ?_)
    · refine R_s (P := True) (f' := (17, [some (vR 56), some (vI i)], [vI 0], LAY (shA A) (shF F), 0, 0)) hc1 1 rfl trivial ?_
      refine R_retz hc1 rfl rfl (Or.inl rfl) ?_
      refine R_s (f' := (15, [some (vR 1), some (vI 4), some (vI i), some (vR 56)], [vI 0], LAY (shA A) (shF F), 0, 0)) hc77 0 rfl trivial ?_
      refine R_if (t := 25) hc77 rfl rfl (fun (z : ¬ 0 = 0) => absurd z (by decide)) (fun (_ : ¬ (¬ 0 = 0)) => ?_)
      refine R_s (P := True) (f' := (21, [some (vR 1), some (vI 4), some (vI i), some (vR 56)], [vI (-3), vR 1], LAY (shA A) (shF F), 0, 0)) hc77 2 rfl trivial ?_
      refine R_cv hc77 rfl rfl ?_ (fun r G h => h)
      refine R_s (P := True) (f' := (3, [some (vR 1), some (vI (-3))], [vI (-2), vI (-3)], LAY (shA A) (shF F), 0, 0)) hc93 2 rfl trivial ?_
      refine R_ic (t := 23) hc93 rfl rfl (fun (z : (-2) < (-3)) => absurd z (by decide)) (fun (_ : ¬ ((-2) < (-3))) => ?_)
      refine R_s (P := True) (f' := (9, [some (vR 1), some (vI (-3))], [vI (-8), vI (-3)], LAY (shA A) (shF F), 0, 0)) hc93 2 rfl trivial ?_
      refine R_ic (t := 23) hc93 rfl rfl (fun (z : (-3) < (-8)) => absurd z (by decide)) (fun (_ : ¬ ((-3) < (-8))) => ?_)
      refine R_s (P := inI 3 ∧ (0 ≤ 3 ∧ 3 < ((A 87).length : Int)) ∧ inI ((rd (A 87) 3) + 1) ∧ (0 ≤ 3 ∧ 3 < ((A 87).length : Int)) ∧ True) (f' := (24, [some (vR 1), some (vI (-3))], [vI (-3)], LAY (u (shA A) 87 (wr (A 87) 3 ((rd (A 87) 3) + 1))) (shF F), 0, 0)) hc93 10 rfl ⟨⟨by omega, by omega⟩, ⟨by omega, by omega⟩, ⟨by omega, by omega⟩, ⟨by omega, by omega⟩, trivial⟩ ?_
      refine R_reti hc93 rfl rfl ?_
      refine R_s (f' := (24, [some (vR 1), some (vI 4), some (vI i), some (vR 56)], [vI (-3)], LAY (u (shA A) 87 (wr (A 87) 3 ((rd (A 87) 3) + 1))) (shF F), 0, 0)) hc77 0 rfl trivial ?_
      refine R_reti hc77 rfl rfl ⟨⟨_, rfl⟩, ⟨_, _, rfl, rfl⟩, ?_⟩
      refine R_s (P := True) (f' := (2, [some (vR 88), some (vI 4), some (vI i)], [vI 4, vR 88], LAY (u (shA A) 87 (wr (A 87) 3 ((rd (A 87) 3) + 1))) (shF F), 0, 0)) hc151 2 rfl trivial ?_
      refine R_cv hc151 rfl rfl ?_ (fun r G h => h)
      refine R_s (P := inI ((F 0) - 1) ∧ True) (f' := (8, [some (vR 88), some (vI 4)], [vI ((F 0) - 1), vI 0, vI 4], LAY (u (shA A) 87 (wr (A 87) 3 ((rd (A 87) 3) + 1))) (shF F), 0, 0)) hc108 6 rfl ⟨⟨by omega, by omega⟩, trivial⟩ ?_
      refine R_cs hc108 rfl rfl ?_ (fun r G h => h)
      refine R_s (P := True) (f' := (2, [some (vI 4), some (vI 0), some (vI ((F 0) - 1))], [vI 0, vI 4], LAY (u (shA A) 87 (wr (A 87) 3 ((rd (A 87) 3) + 1))) (shF F), 0, 0)) hc104 2 rfl trivial ?_
      refine R_ic (t := 14) hc104 rfl rfl (fun (z : 4 < 0) => absurd z (by decide)) (fun (_ : ¬ (4 < 0)) => ?_)
      refine R_s (P := True) (f' := (7, [some (vI 4), some (vI 0), some (vI ((F 0) - 1))], [vI ((F 0) - 1), vI 4], LAY (u (shA A) 87 (wr (A 87) 3 ((rd (A 87) 3) + 1))) (shF F), 0, 0)) hc104 2 rfl trivial ?_
      refine R_ic (t := 14) hc104 rfl rfl (fun (z : (F 0) - 1 < 4) => absurd z (by omega)) (fun (_ : ¬ ((F 0) - 1 < 4)) => ?_)
      refine R_s (P := True) (f' := (15, [some (vI 4), some (vI 0), some (vI ((F 0) - 1))], [vI 1], LAY (u (shA A) 87 (wr (A 87) 3 ((rd (A 87) 3) + 1))) (shF F), 0, 0)) hc104 2 rfl trivial ?_
      refine R_retz hc104 rfl rfl (Or.inr rfl) ?_
      refine R_s (f' := (11, [some (vR 88), some (vI 4)], [vI 1], LAY (u (shA A) 87 (wr (A 87) 3 ((rd (A 87) 3) + 1))) (shF F), 0, 0)) hc108 0 rfl trivial ?_
      refine R_retz hc108 rfl rfl (Or.inr rfl) ?_
      refine R_s (f' := (5, [some (vR 88), some (vI 4), some (vI i)], [vI 1], LAY (u (shA A) 87 (wr (A 87) 3 ((rd (A 87) 3) + 1))) (shF F), 0, 0)) hc151 0 rfl trivial ?_
      refine R_if (t := 24) hc151 rfl rfl (fun (z : 1 = 0) => absurd z (by decide)) (fun (_ : ¬ (1 = 0)) => ?_)
      refine R_s (P := (0 ≤ 4 ∧ 4 < ((A 99).length : Int)) ∧ inI ((rd (A 99) 4) - 1) ∧ True) (f' := (18, [some (vR 88), some (vI 4), some (vI i)], [vI ((rd (A 99) 4) - 1), vI 0, vI i], LAY (u (shA A) 87 (wr (A 87) 3 ((rd (A 87) 3) + 1))) (shF F), 0, 0)) hc151 8 rfl ⟨⟨by omega, by omega⟩, ⟨by omega, by omega⟩, trivial⟩ ?_
      refine R_cs hc151 rfl rfl ?_ (fun r G h => h)
      refine R_s (P := True) (f' := (2, [some (vI i), some (vI 0), some (vI ((rd (A 99) 4) - 1))], [vI 0, vI i], LAY (u (shA A) 87 (wr (A 87) 3 ((rd (A 87) 3) + 1))) (shF F), 0, 0)) hc104 2 rfl trivial ?_
      refine R_ic (t := 14) hc104 rfl rfl (fun (z : i < 0) => absurd z (by omega)) (fun (_ : ¬ (i < 0)) => ?_)
      refine R_s (P := True) (f' := (7, [some (vI i), some (vI 0), some (vI ((rd (A 99) 4) - 1))], [vI ((rd (A 99) 4) - 1), vI i], LAY (u (shA A) 87 (wr (A 87) 3 ((rd (A 87) 3) + 1))) (shF F), 0, 0)) hc104 2 rfl trivial ?_
      refine R_ic (t := 14) hc104 rfl rfl (fun (_ : (rd (A 99) 4) - 1 < i) => ?_) (fun (z : ¬ ((rd (A 99) 4) - 1 < i)) => absurd (show (rd (A 99) 4) - 1 < i by omega) z)
      refine R_s (P := True) (f' := (15, [some (vI i), some (vI 0), some (vI ((rd (A 99) 4) - 1))], [vI 0], LAY (u (shA A) 87 (wr (A 87) 3 ((rd (A 87) 3) + 1))) (shF F), 0, 0)) hc104 1 rfl trivial ?_
      refine R_retz hc104 rfl rfl (Or.inl rfl) ?_
      refine R_s (f' := (21, [some (vR 88), some (vI 4), some (vI i)], [vI 0], LAY (u (shA A) 87 (wr (A 87) 3 ((rd (A 87) 3) + 1))) (shF F), 0, 0)) hc151 0 rfl trivial ?_
      refine R_if (t := 31) hc151 rfl rfl (fun (z : ¬ 0 = 0) => absurd z (by decide)) (fun (_ : ¬ (¬ 0 = 0)) => ?_)
      refine R_s (P := True) (f' := (27, [some (vR 88), some (vI 4), some (vI i)], [vI (-3), vR 88], LAY (u (shA A) 87 (wr (A 87) 3 ((rd (A 87) 3) + 1))) (shF F), 0, 0)) hc151 2 rfl trivial ?_
      refine R_cv hc151 rfl rfl ?_ (fun r G h => h)
      refine R_s (P := inI 3 ∧ (0 ≤ 3 ∧ 3 < ((A 87).length : Int)) ∧ inI ((rd (A 87) 3) + 1) ∧ (0 ≤ 3 ∧ 3 < ((A 87).length : Int)) ∧ True) (f' := (12, [some (vR 88), some (vI (-3))], [vI (-3)], LAY (u (u (shA A) 87 (wr (A 87) 3 ((rd (A 87) 3) + 1))) 89 (wr (A 87) 3 ((rd (A 87) 3) + 1))) (shF F), 0, 0)) hc105 10 rfl ⟨⟨by omega, by omega⟩, ⟨by omega, by omega⟩, ⟨by omega, by omega⟩, ⟨by omega, by omega⟩, trivial⟩ ?_
      refine R_reti hc105 rfl rfl ?_
      refine R_s (f' := (30, [some (vR 88), some (vI 4), some (vI i)], [vI (-3)], LAY (u (u (shA A) 87 (wr (A 87) 3 ((rd (A 87) 3) + 1))) 89 (wr (A 87) 3 ((rd (A 87) 3) + 1))) (shF F), 0, 0)) hc151 0 rfl trivial ?_
      refine R_reti hc151 rfl rfl ?_
      first
        | (exfalso; omega; done)
        | exact ⟨rfl, (u A 87 (wr (A 87) 3 ((rd (A 87) 3) + 1))), F, rfl, rfl, REL_ref hR0 (by decide) (by decide)⟩
    · refine R_s (P := True) (f' := (17, [some (vR 56), some (vI i)], [vI 1], LAY (shA A) (shF F), 0, 0)) hc1 2 rfl trivial ?_
      refine R_retz hc1 rfl rfl (Or.inr rfl) ?_
      refine R_s (f' := (15, [some (vR 1), some (vI 4), some (vI i), some (vR 56)], [vI 1], LAY (shA A) (shF F), 0, 0)) hc77 0 rfl trivial ?_
      refine R_if (t := 25) hc77 rfl rfl (fun (_ : ¬ 1 = 0) => ?_) (fun (z : ¬ (¬ 1 = 0)) => absurd (by decide) z)
      refine R_s (P := True) (f' := (28, [some (vR 1), some (vI 4), some (vI i), some (vR 56)], [vI 4, vR 56, vR 1], LAY (shA A) (shF F), 0, 0)) hc77 3 rfl trivial ?_
      refine R_cv hc77 rfl rfl (l_now4 hR0 hd hS) (fun r G9 hp9 => ?_)
      obtain ⟨rfl, l8, l9, l10, l11, l75, l76, l77, l78, rfl, k8, k9, k10, k11, k75, k76, k77, k78, v75, v76, v77⟩ := hp9
      have y76 : 0 ≤ i → i < F 12 → rd l76 i = te (i).toNat := fun q1 q2 => by
        have z := v76 (i).toNat (by omega)
        rw [show ((((i).toNat : Nat)) : Int) = i by omega] at z
        exact z
      refine R_s (f' := (31, [some (vR 1), some (vI 4), some (vI i), some (vR 56)], [], LAY (u (u (u (u (u (u (u (u (shA A) 8 l8) 9 l9) 10 l10) 11 l11) 75 l75) 76 l76) 77 l77) 78 l78) (u (u (shF F) 14 mg) 15 lo), 0, 0)) hc77 0 rfl trivial ?_
      refine R_s (P := (0 ≤ i ∧ i < ((l76).length : Int)) ∧ True) (f' := (40, [some (vR 1), some (vI 4), some (vI i), some (vR 56)], [vI (rd l76 i)], LAY (u (u (u (u (u (u (u (u (shA A) 8 l8) 9 l9) 10 l10) 11 l11) 75 l75) 76 l76) 77 l77) 78 l78) (u (u (shF F) 14 mg) 15 lo), 0, 0)) hc77 5 rfl ⟨⟨by omega, by omega⟩, trivial⟩ ?_
      refine R_reti hc77 rfl rfl ⟨⟨_, rfl⟩, ⟨_, _, rfl, rfl⟩, ?_⟩
      refine R_s (P := True) (f' := (2, [some (vR 88), some (vI 4), some (vI i)], [vI 4, vR 88], LAY (u (u (u (u (u (u (u (u (shA A) 8 l8) 9 l9) 10 l10) 11 l11) 75 l75) 76 l76) 77 l77) 78 l78) (u (u (shF F) 14 mg) 15 lo), 0, 0)) hc151 2 rfl trivial ?_
      refine R_cv hc151 rfl rfl ?_ (fun r G h => h)
      refine R_s (P := inI ((F 0) - 1) ∧ True) (f' := (8, [some (vR 88), some (vI 4)], [vI ((F 0) - 1), vI 0, vI 4], LAY (u (u (u (u (u (u (u (u (shA A) 8 l8) 9 l9) 10 l10) 11 l11) 75 l75) 76 l76) 77 l77) 78 l78) (u (u (shF F) 14 mg) 15 lo), 0, 0)) hc108 6 rfl ⟨⟨by omega, by omega⟩, trivial⟩ ?_
      refine R_cs hc108 rfl rfl ?_ (fun r G h => h)
      refine R_s (P := True) (f' := (2, [some (vI 4), some (vI 0), some (vI ((F 0) - 1))], [vI 0, vI 4], LAY (u (u (u (u (u (u (u (u (shA A) 8 l8) 9 l9) 10 l10) 11 l11) 75 l75) 76 l76) 77 l77) 78 l78) (u (u (shF F) 14 mg) 15 lo), 0, 0)) hc104 2 rfl trivial ?_
      refine R_ic (t := 14) hc104 rfl rfl (fun (z : 4 < 0) => absurd z (by decide)) (fun (_ : ¬ (4 < 0)) => ?_)
      refine R_s (P := True) (f' := (7, [some (vI 4), some (vI 0), some (vI ((F 0) - 1))], [vI ((F 0) - 1), vI 4], LAY (u (u (u (u (u (u (u (u (shA A) 8 l8) 9 l9) 10 l10) 11 l11) 75 l75) 76 l76) 77 l77) 78 l78) (u (u (shF F) 14 mg) 15 lo), 0, 0)) hc104 2 rfl trivial ?_
      refine R_ic (t := 14) hc104 rfl rfl (fun (z : (F 0) - 1 < 4) => absurd z (by omega)) (fun (_ : ¬ ((F 0) - 1 < 4)) => ?_)
      refine R_s (P := True) (f' := (15, [some (vI 4), some (vI 0), some (vI ((F 0) - 1))], [vI 1], LAY (u (u (u (u (u (u (u (u (shA A) 8 l8) 9 l9) 10 l10) 11 l11) 75 l75) 76 l76) 77 l77) 78 l78) (u (u (shF F) 14 mg) 15 lo), 0, 0)) hc104 2 rfl trivial ?_
      refine R_retz hc104 rfl rfl (Or.inr rfl) ?_
      refine R_s (f' := (11, [some (vR 88), some (vI 4)], [vI 1], LAY (u (u (u (u (u (u (u (u (shA A) 8 l8) 9 l9) 10 l10) 11 l11) 75 l75) 76 l76) 77 l77) 78 l78) (u (u (shF F) 14 mg) 15 lo), 0, 0)) hc108 0 rfl trivial ?_
      refine R_retz hc108 rfl rfl (Or.inr rfl) ?_
      refine R_s (f' := (5, [some (vR 88), some (vI 4), some (vI i)], [vI 1], LAY (u (u (u (u (u (u (u (u (shA A) 8 l8) 9 l9) 10 l10) 11 l11) 75 l75) 76 l76) 77 l77) 78 l78) (u (u (shF F) 14 mg) 15 lo), 0, 0)) hc151 0 rfl trivial ?_
      refine R_if (t := 24) hc151 rfl rfl (fun (z : 1 = 0) => absurd z (by decide)) (fun (_ : ¬ (1 = 0)) => ?_)
      refine R_s (P := (0 ≤ 4 ∧ 4 < ((A 99).length : Int)) ∧ inI ((rd (A 99) 4) - 1) ∧ True) (f' := (18, [some (vR 88), some (vI 4), some (vI i)], [vI ((rd (A 99) 4) - 1), vI 0, vI i], LAY (u (u (u (u (u (u (u (u (shA A) 8 l8) 9 l9) 10 l10) 11 l11) 75 l75) 76 l76) 77 l77) 78 l78) (u (u (shF F) 14 mg) 15 lo), 0, 0)) hc151 8 rfl ⟨⟨by omega, by omega⟩, ⟨by omega, by omega⟩, trivial⟩ ?_
      refine R_cs hc151 rfl rfl ?_ (fun r G h => h)
      refine R_s (P := True) (f' := (2, [some (vI i), some (vI 0), some (vI ((rd (A 99) 4) - 1))], [vI 0, vI i], LAY (u (u (u (u (u (u (u (u (shA A) 8 l8) 9 l9) 10 l10) 11 l11) 75 l75) 76 l76) 77 l77) 78 l78) (u (u (shF F) 14 mg) 15 lo), 0, 0)) hc104 2 rfl trivial ?_
      refine R_ic (t := 14) hc104 rfl rfl (fun (z : i < 0) => absurd z (by omega)) (fun (_ : ¬ (i < 0)) => ?_)
      refine R_s (P := True) (f' := (7, [some (vI i), some (vI 0), some (vI ((rd (A 99) 4) - 1))], [vI ((rd (A 99) 4) - 1), vI i], LAY (u (u (u (u (u (u (u (u (shA A) 8 l8) 9 l9) 10 l10) 11 l11) 75 l75) 76 l76) 77 l77) 78 l78) (u (u (shF F) 14 mg) 15 lo), 0, 0)) hc104 2 rfl trivial ?_
      refine R_ic (t := 14) hc104 rfl rfl (fun (z : (rd (A 99) 4) - 1 < i) => absurd z (by omega)) (fun (_ : ¬ ((rd (A 99) 4) - 1 < i)) => ?_)
      refine R_s (P := True) (f' := (15, [some (vI i), some (vI 0), some (vI ((rd (A 99) 4) - 1))], [vI 1], LAY (u (u (u (u (u (u (u (u (shA A) 8 l8) 9 l9) 10 l10) 11 l11) 75 l75) 76 l76) 77 l77) 78 l78) (u (u (shF F) 14 mg) 15 lo), 0, 0)) hc104 2 rfl trivial ?_
      refine R_retz hc104 rfl rfl (Or.inr rfl) ?_
      refine R_s (f' := (21, [some (vR 88), some (vI 4), some (vI i)], [vI 1], LAY (u (u (u (u (u (u (u (u (shA A) 8 l8) 9 l9) 10 l10) 11 l11) 75 l75) 76 l76) 77 l77) 78 l78) (u (u (shF F) 14 mg) 15 lo), 0, 0)) hc151 0 rfl trivial ?_
      refine R_if (t := 31) hc151 rfl rfl (fun (_ : ¬ 1 = 0) => ?_) (fun (z : ¬ (¬ 1 = 0)) => absurd (by decide) z)
      refine R_s (P := True) (f' := (33, [some (vR 88), some (vI 4), some (vI i)], [vI 4, vR 88], LAY (u (u (u (u (u (u (u (u (shA A) 8 l8) 9 l9) 10 l10) 11 l11) 75 l75) 76 l76) 77 l77) 78 l78) (u (u (shF F) 14 mg) 15 lo), 0, 0)) hc151 2 rfl trivial ?_
      refine R_cv hc151 rfl rfl (l_worksR hR0 (A1 := (u (u (u (u (u (u (u (u (shA A) 8 l8) 9 l9) 10 l10) 11 l11) 75 l75) 76 l76) 77 l77) 78 l78)) (F1 := (u (u (shF F) 14 mg) 15 lo)) rfl rfl rfl rfl rfl rfl rfl rfl rfl rfl rfl rfl rfl (hL 104 (by decide)) (hL 105 (by decide)) (hL 107 (by decide)) (hL 108 (by decide)) (hL 109 (by decide)) (hL 110 (by decide)) (hL 111 (by decide)) hD.1 hD.2 rfl hS) (fun r G9 hp9 => ?_)
      obtain ⟨rfl, l104, l105, l107, l108, l109, l110, l111, ac, rfl, k104, k105, k107, k108, k109, k110, k111, hac, w107, w108⟩ := hp9
      have y107 : 0 ≤ i → i < F 12 → rd l107 i = te (i).toNat := fun q1 q2 => by
        have z := w107 (i).toNat (by omega)
        rw [show ((((i).toNat : Nat)) : Int) = i by omega] at z
        exact z
      refine R_s (f' := (36, [some (vR 88), some (vI 4), some (vI i)], [], LAY (u (u (u (u (u (u (u (u (u (u (u (u (u (u (u (shA A) 8 l8) 9 l9) 10 l10) 11 l11) 75 l75) 76 l76) 77 l77) 78 l78) 109 l109) 104 l104) 105 l105) 110 l110) 111 l111) 108 l108) 107 l107) (u (u (u (u (u (u (shF F) 14 mg) 15 lo) 28 (N_Y A F 4)) 29 ac) 30 mg) 31 lo), 0, 0)) hc151 0 rfl trivial ?_
      refine R_s (P := (0 ≤ i ∧ i < ((l107).length : Int)) ∧ True) (f' := (42, [some (vR 88), some (vI 4), some (vI i)], [vI (rd l107 i)], LAY (u (u (u (u (u (u (u (u (u (u (u (u (u (u (u (shA A) 8 l8) 9 l9) 10 l10) 11 l11) 75 l75) 76 l76) 77 l77) 78 l78) 109 l109) 104 l104) 105 l105) 110 l110) 111 l111) 108 l108) 107 l107) (u (u (u (u (u (u (shF F) 14 mg) 15 lo) 28 (N_Y A F 4)) 29 ac) 30 mg) 31 lo), 0, 0)) hc151 4 rfl ⟨⟨by omega, by omega⟩, trivial⟩ ?_
      refine R_reti hc151 rfl rfl ?_
      first
        | (exfalso; omega; done)
        | exact ⟨(by rw [show rd l107 i = rd l76 i by omega]), (u (u (u (u (u (u (u (u (u (u (u (u (u (u (u A 8 l8) 9 l9) 10 l10) 11 l11) 75 l75) 76 l76) 77 l77) 78 l78) 109 l109) 104 l104) 105 l105) 110 l110) 111 l111) 108 l108) 107 l107), (u (u (u (u (u (u F 14 mg) 15 lo) 28 (N_Y A F 4)) 29 ac) 30 mg) 31 lo), rfl, rfl, ⟨(LENS_u (LENS_u (LENS_u (LENS_u (LENS_u (LENS_u (LENS_u (LENS_u (LENS_u (LENS_u (LENS_u (LENS_u (LENS_u (LENS_u (LENS_u hL (by show (l8).length = (A 8).length; rw [k8, hL 8 (by decide)]; rfl)) (by show (l9).length = (A 9).length; rw [k9, hL 9 (by decide)]; rfl)) (by show (l10).length = (A 10).length; rw [k10, hL 10 (by decide)]; rfl)) (by show (l11).length = (A 11).length; rw [k11, hL 11 (by decide)]; rfl)) (by show (l75).length = (A 75).length; rw [k75, hL 75 (by decide)]; rfl)) (by show (l76).length = (A 76).length; rw [k76, hL 76 (by decide)]; rfl)) (by show (l77).length = (A 77).length; rw [k77, hL 77 (by decide)]; rfl)) (by show (l78).length = (A 78).length; rw [k78, hL 78 (by decide)]; rfl)) (by show (l109).length = (A 109).length; rw [k109, hL 109 (by decide)]; rfl)) (by show (l104).length = (A 104).length; rw [k104, hL 104 (by decide)]; rfl)) (by show (l105).length = (A 105).length; rw [k105, hL 105 (by decide)]; rfl)) (by show (l110).length = (A 110).length; rw [k110, hL 110 (by decide)]; rfl)) (by show (l111).length = (A 111).length; rw [k111, hL 111 (by decide)]; rfl)) (by show (l108).length = (A 108).length; rw [k108, hL 108 (by decide)]; rfl)) (by show (l107).length = (A 107).length; rw [k107, hL 107 (by decide)]; rfl)), hR0.2.1, hR0.2.2.1, hR0.2.2.2.1, hR0.2.2.2.2.1, hR0.2.2.2.2.2.1, hR0.2.2.2.2.2.2.1, hR0.2.2.2.2.2.2.2.1, hR0.2.2.2.2.2.2.2.2.1, (REFU_c hR0.2.2.2.2.2.2.2.2.2)⟩⟩

theorem op_gets_5 {c : Int} {A : Nat → List Int} {F : Nat → Int} (hR : REL c A F) (hc : c < 512) (i : Int) (i_i : inI i) (hd : (5 : Int) < F 0) : R 77 (0, L0 77 [vR 1, vI 5, vI i], [], LAY (shA A) (shF F), 0, 0) (fun r G => (∃ x, r = some (vI x)) ∧ (∃ (A1 : Nat → List Int) (F1 : Nat → Int), G = LAY A1 F1 ∧ A1 0 = A 0) ∧ R 151 (0, L0 151 [vR 88, vI 5, vI i], [], G, 0, 0) (fun r2 G2 => r2 = r ∧ ∃ (A' : Nat → List Int) (F' : Nat → Int), G2 = LAY (shA A') (shF F') ∧ A' 0 = A 0 ∧ REL (c + 1) A' F')) := by
  have hR0 := hR
  obtain ⟨hL, hPE, hTH, hTP, hDE, hLE, hNO, hAC, hRO, hRE⟩ := hR
  have j_i := i_i
  unfold inI at j_i
  have h87 : (A 87).length = 9 := hL 87 (by decide)
  have h99 : (A 99).length = 6 := hL 99 (by decide)
  have r2 := REFU_at hRE (k := 2) (by decide) (by decide) hc
  have r3 := REFU_at hRE (k := 3) (by decide) (by decide) hc
  have r4 := REFU_at hRE (k := 4) (by decide) (by decide) hc
  have r5 := REFU_at hRE (k := 5) (by decide) (by decide) hc
  have r6 := REFU_at hRE (k := 6) (by decide) (by decide) hc
  have r7 := REFU_at hRE (k := 7) (by decide) (by decide) hc
  have r8 := REFU_at hRE (k := 8) (by decide) (by decide) hc
  obtain ⟨t1, t2, t3, t4, t5, t6⟩ := hTH
  obtain ⟨p1, p2, p3, p4, p5, p6⟩ := hPE
  have hD := D_at5 hR0 hd
  have he1 := hD.1.1
  have he2 := hD.1.2.1
  have hme : rd (A 99) 5 = F 13 := by
    have := hD.2.2.2.2.1
    omega
  obtain ⟨so, te, tp, mg, pm, lo, hS⟩ := SPL_ex A F (N_al A F) (N_Q A 66) (F 13).toNat (N_Y A F 5)
  refine R_s (P := True) (f' := (2, [some (vR 1), some (vI 5), some (vI i), none], [vI 5, vR 1], LAY (shA A) (shF F), 0, 0)) hc77 2 rfl trivial ?_
  refine R_cv hc77 rfl rfl ?_ (fun r G h => h)
  refine R_s (P := True) (f' := (2, [some (vR 1), some (vI 5)], [vI 5, vR 1], LAY (shA A) (shF F), 0, 0)) hc99 2 rfl trivial ?_
  refine R_cv hc99 rfl rfl ?_ (fun r G h => h)
  refine R_s (P := True) (f' := (1, [some (vR 1), some (vI 5)], [vI 5], LAY (shA A) (shF F), 0, 0)) hc98 1 rfl trivial ?_
  refine R_if (t := 16) hc98 rfl rfl (fun (z : 5 < 0) => absurd z (by decide)) (fun (_ : ¬ (5 < 0)) => ?_)
  refine R_s (P := True) (f' := (9, [some (vR 1), some (vI 5)], [vI (F 0), vI 5], LAY (shA A) (shF F), 0, 0)) hc98 3 rfl trivial ?_
  refine R_ic (t := 16) hc98 rfl rfl (fun (z : F 0 ≤ 5) => absurd z (by omega)) (fun (_ : ¬ (F 0 ≤ 5)) => ?_)
  refine R_s (P := True) (f' := (17, [some (vR 1), some (vI 5)], [vI 1], LAY (shA A) (shF F), 0, 0)) hc98 2 rfl trivial ?_
  refine R_retz hc98 rfl rfl (Or.inr rfl) ?_
  refine R_s (f' := (5, [some (vR 1), some (vI 5)], [vI 1], LAY (shA A) (shF F), 0, 0)) hc99 0 rfl trivial ?_
  refine R_if (t := 17) hc99 rfl rfl (fun (z : 1 = 0) => absurd z (by decide)) (fun (_ : ¬ (1 = 0)) => ?_)
  refine R_s (P := (0 ≤ (5 : Int) ∧ (5 : Int) < (([some 20, some 29, some 38, some 47, some 56, some 65] : List (Option Nat)).length : Int)) ∧ True) (f' := (18, [some (vR 1), some (vI 5)], [vR 65], LAY (shA A) (shF F), 0, 0)) hc99 5 rfl ⟨(by decide), trivial⟩ ?_
  refine R_reta hc99 rfl rfl ?_
  refine R_s (f' := (5, [some (vR 1), some (vI 5), some (vI i), none], [vR 65], LAY (shA A) (shF F), 0, 0)) hc77 0 rfl trivial ?_
  refine R_s (P := True) (f' := (12, [some (vR 1), some (vI 5), some (vI i), some (vR 65)], [vI i, vR 65], LAY (shA A) (shF F), 0, 0)) hc77 5 rfl trivial ?_
  refine R_cv hc77 rfl rfl ?_ (fun r G h => h)
  refine R_s (P := True) (f' := (1, [some (vR 65), some (vI i)], [vI i], LAY (shA A) (shF F), 0, 0)) hc1 1 rfl trivial ?_
  refine R_if (t := 16) hc1 rfl rfl (fun (c4 : i < 0) => ?_) (fun (c4 : ¬ (i < 0)) => ?_)
  · refine R_s (P := True) (f' := (17, [some (vR 65), some (vI i)], [vI 0], LAY (shA A) (shF F), 0, 0)) hc1 1 rfl trivial ?_
    refine R_retz hc1 rfl rfl (Or.inl rfl) ?_
    refine R_s (f' := (15, [some (vR 1), some (vI 5), some (vI i), some (vR 65)], [vI 0], LAY (shA A) (shF F), 0, 0)) hc77 0 rfl trivial ?_
    refine R_if (t := 25) hc77 rfl rfl (fun (z : ¬ 0 = 0) => absurd z (by decide)) (fun (_ : ¬ (¬ 0 = 0)) => ?_)
    refine R_s (P := True) (f' := (21, [some (vR 1), some (vI 5), some (vI i), some (vR 65)], [vI (-3), vR 1], LAY (shA A) (shF F), 0, 0)) hc77 2 rfl trivial ?_
    refine R_cv hc77 rfl rfl ?_ (fun r G h => h)
    refine R_s (P := True) (f' := (3, [some (vR 1), some (vI (-3))], [vI (-2), vI (-3)], LAY (shA A) (shF F), 0, 0)) hc93 2 rfl trivial ?_
    refine R_ic (t := 23) hc93 rfl rfl (fun (z : (-2) < (-3)) => absurd z (by decide)) (fun (_ : ¬ ((-2) < (-3))) => ?_)
    refine R_s (P := True) (f' := (9, [some (vR 1), some (vI (-3))], [vI (-8), vI (-3)], LAY (shA A) (shF F), 0, 0)) hc93 2 rfl trivial ?_
    refine R_ic (t := 23) hc93 rfl rfl (fun (z : (-3) < (-8)) => absurd z (by decide)) (fun (_ : ¬ ((-3) < (-8))) => ?_)
    refine R_s (P := inI 3 ∧ (0 ≤ 3 ∧ 3 < ((A 87).length : Int)) ∧ inI ((rd (A 87) 3) + 1) ∧ (0 ≤ 3 ∧ 3 < ((A 87).length : Int)) ∧ True) (f' := (24, [some (vR 1), some (vI (-3))], [vI (-3)], LAY (u (shA A) 87 (wr (A 87) 3 ((rd (A 87) 3) + 1))) (shF F), 0, 0)) hc93 10 rfl ⟨⟨by omega, by omega⟩, ⟨by omega, by omega⟩, ⟨by omega, by omega⟩, ⟨by omega, by omega⟩, trivial⟩ ?_
    refine R_reti hc93 rfl rfl ?_
    refine R_s (f' := (24, [some (vR 1), some (vI 5), some (vI i), some (vR 65)], [vI (-3)], LAY (u (shA A) 87 (wr (A 87) 3 ((rd (A 87) 3) + 1))) (shF F), 0, 0)) hc77 0 rfl trivial ?_
    refine R_reti hc77 rfl rfl ⟨⟨_, rfl⟩, ⟨_, _, rfl, rfl⟩, ?_⟩
    refine R_s (P := True) (f' := (2, [some (vR 88), some (vI 5), some (vI i)], [vI 5, vR 88], LAY (u (shA A) 87 (wr (A 87) 3 ((rd (A 87) 3) + 1))) (shF F), 0, 0)) hc151 2 rfl trivial ?_
    refine R_cv hc151 rfl rfl ?_ (fun r G h => h)
    refine R_s (P := inI ((F 0) - 1) ∧ True) (f' := (8, [some (vR 88), some (vI 5)], [vI ((F 0) - 1), vI 0, vI 5], LAY (u (shA A) 87 (wr (A 87) 3 ((rd (A 87) 3) + 1))) (shF F), 0, 0)) hc108 6 rfl ⟨⟨by omega, by omega⟩, trivial⟩ ?_
    refine R_cs hc108 rfl rfl ?_ (fun r G h => h)
    refine R_s (P := True) (f' := (2, [some (vI 5), some (vI 0), some (vI ((F 0) - 1))], [vI 0, vI 5], LAY (u (shA A) 87 (wr (A 87) 3 ((rd (A 87) 3) + 1))) (shF F), 0, 0)) hc104 2 rfl trivial ?_
    refine R_ic (t := 14) hc104 rfl rfl (fun (z : 5 < 0) => absurd z (by decide)) (fun (_ : ¬ (5 < 0)) => ?_)
    refine R_s (P := True) (f' := (7, [some (vI 5), some (vI 0), some (vI ((F 0) - 1))], [vI ((F 0) - 1), vI 5], LAY (u (shA A) 87 (wr (A 87) 3 ((rd (A 87) 3) + 1))) (shF F), 0, 0)) hc104 2 rfl trivial ?_
    refine R_ic (t := 14) hc104 rfl rfl (fun (z : (F 0) - 1 < 5) => absurd z (by omega)) (fun (_ : ¬ ((F 0) - 1 < 5)) => ?_)
    refine R_s (P := True) (f' := (15, [some (vI 5), some (vI 0), some (vI ((F 0) - 1))], [vI 1], LAY (u (shA A) 87 (wr (A 87) 3 ((rd (A 87) 3) + 1))) (shF F), 0, 0)) hc104 2 rfl trivial ?_
    refine R_retz hc104 rfl rfl (Or.inr rfl) ?_
    refine R_s (f' := (11, [some (vR 88), some (vI 5)], [vI 1], LAY (u (shA A) 87 (wr (A 87) 3 ((rd (A 87) 3) + 1))) (shF F), 0, 0)) hc108 0 rfl trivial ?_
    refine R_retz hc108 rfl rfl (Or.inr rfl) ?_
    refine R_s (f' := (5, [some (vR 88), some (vI 5), some (vI i)], [vI 1], LAY (u (shA A) 87 (wr (A 87) 3 ((rd (A 87) 3) + 1))) (shF F), 0, 0)) hc151 0 rfl trivial ?_
    refine R_if (t := 24) hc151 rfl rfl (fun (z : 1 = 0) => absurd z (by decide)) (fun (_ : ¬ (1 = 0)) => ?_)
    refine R_s (P := (0 ≤ 5 ∧ 5 < ((A 99).length : Int)) ∧ inI ((rd (A 99) 5) - 1) ∧ True) (f' := (18, [some (vR 88), some (vI 5), some (vI i)], [vI ((rd (A 99) 5) - 1), vI 0, vI i], LAY (u (shA A) 87 (wr (A 87) 3 ((rd (A 87) 3) + 1))) (shF F), 0, 0)) hc151 8 rfl ⟨⟨by omega, by omega⟩, ⟨by omega, by omega⟩, trivial⟩ ?_
    refine R_cs hc151 rfl rfl ?_ (fun r G h => h)
    refine R_s (P := True) (f' := (2, [some (vI i), some (vI 0), some (vI ((rd (A 99) 5) - 1))], [vI 0, vI i], LAY (u (shA A) 87 (wr (A 87) 3 ((rd (A 87) 3) + 1))) (shF F), 0, 0)) hc104 2 rfl trivial ?_
    refine R_ic (t := 14) hc104 rfl rfl (fun (_ : i < 0) => ?_) (fun (z : ¬ (i < 0)) => absurd (show i < 0 by omega) z)
    refine R_s (P := True) (f' := (15, [some (vI i), some (vI 0), some (vI ((rd (A 99) 5) - 1))], [vI 0], LAY (u (shA A) 87 (wr (A 87) 3 ((rd (A 87) 3) + 1))) (shF F), 0, 0)) hc104 1 rfl trivial ?_
    refine R_retz hc104 rfl rfl (Or.inl rfl) ?_
    refine R_s (f' := (21, [some (vR 88), some (vI 5), some (vI i)], [vI 0], LAY (u (shA A) 87 (wr (A 87) 3 ((rd (A 87) 3) + 1))) (shF F), 0, 0)) hc151 0 rfl trivial ?_
    refine R_if (t := 31) hc151 rfl rfl (fun (z : ¬ 0 = 0) => absurd z (by decide)) (fun (_ : ¬ (¬ 0 = 0)) => ?_)
    refine R_s (P := True) (f' := (27, [some (vR 88), some (vI 5), some (vI i)], [vI (-3), vR 88], LAY (u (shA A) 87 (wr (A 87) 3 ((rd (A 87) 3) + 1))) (shF F), 0, 0)) hc151 2 rfl trivial ?_
    refine R_cv hc151 rfl rfl ?_ (fun r G h => h)
    refine R_s (P := inI 3 ∧ (0 ≤ 3 ∧ 3 < ((A 87).length : Int)) ∧ inI ((rd (A 87) 3) + 1) ∧ (0 ≤ 3 ∧ 3 < ((A 87).length : Int)) ∧ True) (f' := (12, [some (vR 88), some (vI (-3))], [vI (-3)], LAY (u (u (shA A) 87 (wr (A 87) 3 ((rd (A 87) 3) + 1))) 89 (wr (A 87) 3 ((rd (A 87) 3) + 1))) (shF F), 0, 0)) hc105 10 rfl ⟨⟨by omega, by omega⟩, ⟨by omega, by omega⟩, ⟨by omega, by omega⟩, ⟨by omega, by omega⟩, trivial⟩ ?_
    refine R_reti hc105 rfl rfl ?_
    refine R_s (f' := (30, [some (vR 88), some (vI 5), some (vI i)], [vI (-3)], LAY (u (u (shA A) 87 (wr (A 87) 3 ((rd (A 87) 3) + 1))) 89 (wr (A 87) 3 ((rd (A 87) 3) + 1))) (shF F), 0, 0)) hc151 0 rfl trivial ?_
    refine R_reti hc151 rfl rfl ?_
    first
      | (exfalso; omega; done)
      | exact ⟨rfl, (u A 87 (wr (A 87) 3 ((rd (A 87) 3) + 1))), F, rfl, rfl, REL_ref hR0 (by decide) (by decide)⟩
  · refine R_s (P := True) (f' := (9, [some (vR 65), some (vI i)], [vI (F 13), vI i], LAY (shA A) (shF F), 0, 0)) hc1 3 rfl trivial ?_
    refine R_ic (t := 16) hc1 rfl rfl (fun (c5 : F 13 ≤ i) => ?_) (fun (c5 : ¬ (F 13 ≤ i)) => ?_)
    · refine R_s (P := True) (f' := (17, [some (vR 65), some (vI i)], [vI 0], LAY (shA A) (shF F), 0, 0)) hc1 1 rfl trivial ?_
      refine R_retz hc1 rfl rfl (Or.inl rfl) ?_
      refine R_s (f' := (15, [some (vR 1), some (vI 5), some (vI i), some (vR 65)], [vI 0], LAY (shA A) (shF F), 0, 0)) hc77 0 rfl trivial ?_
      refine R_if (t := 25) hc77 rfl rfl (fun (z : ¬ 0 = 0) => absurd z (by decide)) (fun (_ : ¬ (¬ 0 = 0)) => ?_)
      refine R_s (P := True) (f' := (21, [some (vR 1), some (vI 5), some (vI i), some (vR 65)], [vI (-3), vR 1], LAY (shA A) (shF F), 0, 0)) hc77 2 rfl trivial ?_
      refine R_cv hc77 rfl rfl ?_ (fun r G h => h)
      refine R_s (P := True) (f' := (3, [some (vR 1), some (vI (-3))], [vI (-2), vI (-3)], LAY (shA A) (shF F), 0, 0)) hc93 2 rfl trivial ?_
      refine R_ic (t := 23) hc93 rfl rfl (fun (z : (-2) < (-3)) => absurd z (by decide)) (fun (_ : ¬ ((-2) < (-3))) => ?_)
      refine R_s (P := True) (f' := (9, [some (vR 1), some (vI (-3))], [vI (-8), vI (-3)], LAY (shA A) (shF F), 0, 0)) hc93 2 rfl trivial ?_
      refine R_ic (t := 23) hc93 rfl rfl (fun (z : (-3) < (-8)) => absurd z (by decide)) (fun (_ : ¬ ((-3) < (-8))) => ?_)
      refine R_s (P := inI 3 ∧ (0 ≤ 3 ∧ 3 < ((A 87).length : Int)) ∧ inI ((rd (A 87) 3) + 1) ∧ (0 ≤ 3 ∧ 3 < ((A 87).length : Int)) ∧ True) (f' := (24, [some (vR 1), some (vI (-3))], [vI (-3)], LAY (u (shA A) 87 (wr (A 87) 3 ((rd (A 87) 3) + 1))) (shF F), 0, 0)) hc93 10 rfl ⟨⟨by omega, by omega⟩, ⟨by omega, by omega⟩, ⟨by omega, by omega⟩, ⟨by omega, by omega⟩, trivial⟩ ?_
      refine R_reti hc93 rfl rfl ?_
      refine R_s (f' := (24, [some (vR 1), some (vI 5), some (vI i), some (vR 65)], [vI (-3)], LAY (u (shA A) 87 (wr (A 87) 3 ((rd (A 87) 3) + 1))) (shF F), 0, 0)) hc77 0 rfl trivial ?_
      refine R_reti hc77 rfl rfl ⟨⟨_, rfl⟩, ⟨_, _, rfl, rfl⟩, ?_⟩
      refine R_s (P := True) (f' := (2, [some (vR 88), some (vI 5), some (vI i)], [vI 5, vR 88], LAY (u (shA A) 87 (wr (A 87) 3 ((rd (A 87) 3) + 1))) (shF F), 0, 0)) hc151 2 rfl trivial ?_
      refine R_cv hc151 rfl rfl ?_ (fun r G h => h)
      refine R_s (P := inI ((F 0) - 1) ∧ True) (f' := (8, [some (vR 88), some (vI 5)], [vI ((F 0) - 1), vI 0, vI 5], LAY (u (shA A) 87 (wr (A 87) 3 ((rd (A 87) 3) + 1))) (shF F), 0, 0)) hc108 6 rfl ⟨⟨by omega, by omega⟩, trivial⟩ ?_
      refine R_cs hc108 rfl rfl ?_ (fun r G h => h)
      refine R_s (P := True) (f' := (2, [some (vI 5), some (vI 0), some (vI ((F 0) - 1))], [vI 0, vI 5], LAY (u (shA A) 87 (wr (A 87) 3 ((rd (A 87) 3) + 1))) (shF F), 0, 0)) hc104 2 rfl trivial ?_
      refine R_ic (t := 14) hc104 rfl rfl (fun (z : 5 < 0) => absurd z (by decide)) (fun (_ : ¬ (5 < 0)) => ?_)
      refine R_s (P := True) (f' := (7, [some (vI 5), some (vI 0), some (vI ((F 0) - 1))], [vI ((F 0) - 1), vI 5], LAY (u (shA A) 87 (wr (A 87) 3 ((rd (A 87) 3) + 1))) (shF F), 0, 0)) hc104 2 rfl trivial ?_
      refine R_ic (t := 14) hc104 rfl rfl (fun (z : (F 0) - 1 < 5) => absurd z (by omega)) (fun (_ : ¬ ((F 0) - 1 < 5)) => ?_)
      refine R_s (P := True) (f' := (15, [some (vI 5), some (vI 0), some (vI ((F 0) - 1))], [vI 1], LAY (u (shA A) 87 (wr (A 87) 3 ((rd (A 87) 3) + 1))) (shF F), 0, 0)) hc104 2 rfl trivial ?_
      refine R_retz hc104 rfl rfl (Or.inr rfl) ?_
      refine R_s (f' := (11, [some (vR 88), some (vI 5)], [vI 1], LAY (u (shA A) 87 (wr (A 87) 3 ((rd (A 87) 3) + 1))) (shF F), 0, 0)) hc108 0 rfl trivial ?_
      refine R_retz hc108 rfl rfl (Or.inr rfl) ?_
      refine R_s (f' := (5, [some (vR 88), some (vI 5), some (vI i)], [vI 1], LAY (u (shA A) 87 (wr (A 87) 3 ((rd (A 87) 3) + 1))) (shF F), 0, 0)) hc151 0 rfl trivial ?_
      refine R_if (t := 24) hc151 rfl rfl (fun (z : 1 = 0) => absurd z (by decide)) (fun (_ : ¬ (1 = 0)) => ?_)
      refine R_s (P := (0 ≤ 5 ∧ 5 < ((A 99).length : Int)) ∧ inI ((rd (A 99) 5) - 1) ∧ True) (f' := (18, [some (vR 88), some (vI 5), some (vI i)], [vI ((rd (A 99) 5) - 1), vI 0, vI i], LAY (u (shA A) 87 (wr (A 87) 3 ((rd (A 87) 3) + 1))) (shF F), 0, 0)) hc151 8 rfl ⟨⟨by omega, by omega⟩, ⟨by omega, by omega⟩, trivial⟩ ?_
      refine R_cs hc151 rfl rfl ?_ (fun r G h => h)
      refine R_s (P := True) (f' := (2, [some (vI i), some (vI 0), some (vI ((rd (A 99) 5) - 1))], [vI 0, vI i], LAY (u (shA A) 87 (wr (A 87) 3 ((rd (A 87) 3) + 1))) (shF F), 0, 0)) hc104 2 rfl trivial ?_
      refine R_ic (t := 14) hc104 rfl rfl (fun (z : i < 0) => absurd z (by omega)) (fun (_ : ¬ (i < 0)) => ?_)
      refine R_s (P := True) (f' := (7, [some (vI i), some (vI 0), some (vI ((rd (A 99) 5) - 1))], [vI ((rd (A 99) 5) - 1), vI i], LAY (u (shA A) 87 (wr (A 87) 3 ((rd (A 87) 3) + 1))) (shF F), 0, 0)) hc104 2 rfl trivial ?_
      refine R_ic (t := 14) hc104 rfl rfl (fun (_ : (rd (A 99) 5) - 1 < i) => ?_) (fun (z : ¬ ((rd (A 99) 5) - 1 < i)) => absurd (show (rd (A 99) 5) - 1 < i by omega) z)
      refine R_s (P := True) (f' := (15, [some (vI i), some (vI 0), some (vI ((rd (A 99) 5) - 1))], [vI 0], LAY (u (shA A) 87 (wr (A 87) 3 ((rd (A 87) 3) + 1))) (shF F), 0, 0)) hc104 1 rfl trivial ?_
      refine R_retz hc104 rfl rfl (Or.inl rfl) ?_
      refine R_s (f' := (21, [some (vR 88), some (vI 5), some (vI i)], [vI 0], LAY (u (shA A) 87 (wr (A 87) 3 ((rd (A 87) 3) + 1))) (shF F), 0, 0)) hc151 0 rfl trivial ?_
      refine R_if (t := 31) hc151 rfl rfl (fun (z : ¬ 0 = 0) => absurd z (by decide)) (fun (_ : ¬ (¬ 0 = 0)) => ?_)
      refine R_s (P := True) (f' := (27, [some (vR 88), some (vI 5), some (vI i)], [vI (-3), vR 88], LAY (u (shA A) 87 (wr (A 87) 3 ((rd (A 87) 3) + 1))) (shF F), 0, 0)) hc151 2 rfl trivial ?_
      refine R_cv hc151 rfl rfl ?_ (fun r G h => h)
      refine R_s (P := inI 3 ∧ (0 ≤ 3 ∧ 3 < ((A 87).length : Int)) ∧ inI ((rd (A 87) 3) + 1) ∧ (0 ≤ 3 ∧ 3 < ((A 87).length : Int)) ∧ True) (f' := (12, [some (vR 88), some (vI (-3))], [vI (-3)], LAY (u (u (shA A) 87 (wr (A 87) 3 ((rd (A 87) 3) + 1))) 89 (wr (A 87) 3 ((rd (A 87) 3) + 1))) (shF F), 0, 0)) hc105 10 rfl ⟨⟨by omega, by omega⟩, ⟨by omega, by omega⟩, ⟨by omega, by omega⟩, ⟨by omega, by omega⟩, trivial⟩ ?_
      refine R_reti hc105 rfl rfl ?_
      refine R_s (f' := (30, [some (vR 88), some (vI 5), some (vI i)], [vI (-3)], LAY (u (u (shA A) 87 (wr (A 87) 3 ((rd (A 87) 3) + 1))) 89 (wr (A 87) 3 ((rd (A 87) 3) + 1))) (shF F), 0, 0)) hc151 0 rfl trivial ?_
      refine R_reti hc151 rfl rfl ?_
      first
        | (exfalso; omega; done)
        | exact ⟨rfl, (u A 87 (wr (A 87) 3 ((rd (A 87) 3) + 1))), F, rfl, rfl, REL_ref hR0 (by decide) (by decide)⟩
    · refine R_s (P := True) (f' := (17, [some (vR 65), some (vI i)], [vI 1], LAY (shA A) (shF F), 0, 0)) hc1 2 rfl trivial ?_
      refine R_retz hc1 rfl rfl (Or.inr rfl) ?_
      refine R_s (f' := (15, [some (vR 1), some (vI 5), some (vI i), some (vR 65)], [vI 1], LAY (shA A) (shF F), 0, 0)) hc77 0 rfl trivial ?_
      refine R_if (t := 25) hc77 rfl rfl (fun (_ : ¬ 1 = 0) => ?_) (fun (z : ¬ (¬ 1 = 0)) => absurd (by decide) z)
      refine R_s (P := True) (f' := (28, [some (vR 1), some (vI 5), some (vI i), some (vR 65)], [vI 5, vR 65, vR 1], LAY (shA A) (shF F), 0, 0)) hc77 3 rfl trivial ?_
      refine R_cv hc77 rfl rfl (l_now5 hR0 hd hS) (fun r G9 hp9 => ?_)
      obtain ⟨rfl, l8, l9, l10, l11, l75, l76, l77, l78, rfl, k8, k9, k10, k11, k75, k76, k77, k78, v75, v76, v77⟩ := hp9
      have y76 : 0 ≤ i → i < F 13 → rd l76 i = te (i).toNat := fun q1 q2 => by
        have z := v76 (i).toNat (by omega)
        rw [show ((((i).toNat : Nat)) : Int) = i by omega] at z
        exact z
      refine R_s (f' := (31, [some (vR 1), some (vI 5), some (vI i), some (vR 65)], [], LAY (u (u (u (u (u (u (u (u (shA A) 8 l8) 9 l9) 10 l10) 11 l11) 75 l75) 76 l76) 77 l77) 78 l78) (u (u (shF F) 14 mg) 15 lo), 0, 0)) hc77 0 rfl trivial ?_
      refine R_s (P := (0 ≤ i ∧ i < ((l76).length : Int)) ∧ True) (f' := (40, [some (vR 1), some (vI 5), some (vI i), some (vR 65)], [vI (rd l76 i)], LAY (u (u (u (u (u (u (u (u (shA A) 8 l8) 9 l9) 10 l10) 11 l11) 75 l75) 76 l76) 77 l77) 78 l78) (u (u (shF F) 14 mg) 15 lo), 0, 0)) hc77 5 rfl ⟨⟨by omega, by omega⟩, trivial⟩ ?_
      refine R_reti hc77 rfl rfl ⟨⟨_, rfl⟩, ⟨_, _, rfl, rfl⟩, ?_⟩
      refine R_s (P := True) (f' := (2, [some (vR 88), some (vI 5), some (vI i)], [vI 5, vR 88], LAY (u (u (u (u (u (u (u (u (shA A) 8 l8) 9 l9) 10 l10) 11 l11) 75 l75) 76 l76) 77 l77) 78 l78) (u (u (shF F) 14 mg) 15 lo), 0, 0)) hc151 2 rfl trivial ?_
      refine R_cv hc151 rfl rfl ?_ (fun r G h => h)
      refine R_s (P := inI ((F 0) - 1) ∧ True) (f' := (8, [some (vR 88), some (vI 5)], [vI ((F 0) - 1), vI 0, vI 5], LAY (u (u (u (u (u (u (u (u (shA A) 8 l8) 9 l9) 10 l10) 11 l11) 75 l75) 76 l76) 77 l77) 78 l78) (u (u (shF F) 14 mg) 15 lo), 0, 0)) hc108 6 rfl ⟨⟨by omega, by omega⟩, trivial⟩ ?_
      refine R_cs hc108 rfl rfl ?_ (fun r G h => h)
      refine R_s (P := True) (f' := (2, [some (vI 5), some (vI 0), some (vI ((F 0) - 1))], [vI 0, vI 5], LAY (u (u (u (u (u (u (u (u (shA A) 8 l8) 9 l9) 10 l10) 11 l11) 75 l75) 76 l76) 77 l77) 78 l78) (u (u (shF F) 14 mg) 15 lo), 0, 0)) hc104 2 rfl trivial ?_
      refine R_ic (t := 14) hc104 rfl rfl (fun (z : 5 < 0) => absurd z (by decide)) (fun (_ : ¬ (5 < 0)) => ?_)
      refine R_s (P := True) (f' := (7, [some (vI 5), some (vI 0), some (vI ((F 0) - 1))], [vI ((F 0) - 1), vI 5], LAY (u (u (u (u (u (u (u (u (shA A) 8 l8) 9 l9) 10 l10) 11 l11) 75 l75) 76 l76) 77 l77) 78 l78) (u (u (shF F) 14 mg) 15 lo), 0, 0)) hc104 2 rfl trivial ?_
      refine R_ic (t := 14) hc104 rfl rfl (fun (z : (F 0) - 1 < 5) => absurd z (by omega)) (fun (_ : ¬ ((F 0) - 1 < 5)) => ?_)
      refine R_s (P := True) (f' := (15, [some (vI 5), some (vI 0), some (vI ((F 0) - 1))], [vI 1], LAY (u (u (u (u (u (u (u (u (shA A) 8 l8) 9 l9) 10 l10) 11 l11) 75 l75) 76 l76) 77 l77) 78 l78) (u (u (shF F) 14 mg) 15 lo), 0, 0)) hc104 2 rfl trivial ?_
      refine R_retz hc104 rfl rfl (Or.inr rfl) ?_
      refine R_s (f' := (11, [some (vR 88), some (vI 5)], [vI 1], LAY (u (u (u (u (u (u (u (u (shA A) 8 l8) 9 l9) 10 l10) 11 l11) 75 l75) 76 l76) 77 l77) 78 l78) (u (u (shF F) 14 mg) 15 lo), 0, 0)) hc108 0 rfl trivial ?_
      refine R_retz hc108 rfl rfl (Or.inr rfl) ?_
      refine R_s (f' := (5, [some (vR 88), some (vI 5), some (vI i)], [vI 1], LAY (u (u (u (u (u (u (u (u (shA A) 8 l8) 9 l9) 10 l10) 11 l11) 75 l75) 76 l76) 77 l77) 78 l78) (u (u (shF F) 14 mg) 15 lo), 0, 0)) hc151 0 rfl trivial ?_
      refine R_if (t := 24) hc151 rfl rfl (fun (z : 1 = 0) => absurd z (by decide)) (fun (_ : ¬ (1 = 0)) => ?_)
      refine R_s (P := (0 ≤ 5 ∧ 5 < ((A 99).length : Int)) ∧ inI ((rd (A 99) 5) - 1) ∧ True) (f' := (18, [some (vR 88), some (vI 5), some (vI i)], [vI ((rd (A 99) 5) - 1), vI 0, vI i], LAY (u (u (u (u (u (u (u (u (shA A) 8 l8) 9 l9) 10 l10) 11 l11) 75 l75) 76 l76) 77 l77) 78 l78) (u (u (shF F) 14 mg) 15 lo), 0, 0)) hc151 8 rfl ⟨⟨by omega, by omega⟩, ⟨by omega, by omega⟩, trivial⟩ ?_
      refine R_cs hc151 rfl rfl ?_ (fun r G h => h)
      refine R_s (P := True) (f' := (2, [some (vI i), some (vI 0), some (vI ((rd (A 99) 5) - 1))], [vI 0, vI i], LAY (u (u (u (u (u (u (u (u (shA A) 8 l8) 9 l9) 10 l10) 11 l11) 75 l75) 76 l76) 77 l77) 78 l78) (u (u (shF F) 14 mg) 15 lo), 0, 0)) hc104 2 rfl trivial ?_
      refine R_ic (t := 14) hc104 rfl rfl (fun (z : i < 0) => absurd z (by omega)) (fun (_ : ¬ (i < 0)) => ?_)
      refine R_s (P := True) (f' := (7, [some (vI i), some (vI 0), some (vI ((rd (A 99) 5) - 1))], [vI ((rd (A 99) 5) - 1), vI i], LAY (u (u (u (u (u (u (u (u (shA A) 8 l8) 9 l9) 10 l10) 11 l11) 75 l75) 76 l76) 77 l77) 78 l78) (u (u (shF F) 14 mg) 15 lo), 0, 0)) hc104 2 rfl trivial ?_
      refine R_ic (t := 14) hc104 rfl rfl (fun (z : (rd (A 99) 5) - 1 < i) => absurd z (by omega)) (fun (_ : ¬ ((rd (A 99) 5) - 1 < i)) => ?_)
      refine R_s (P := True) (f' := (15, [some (vI i), some (vI 0), some (vI ((rd (A 99) 5) - 1))], [vI 1], LAY (u (u (u (u (u (u (u (u (shA A) 8 l8) 9 l9) 10 l10) 11 l11) 75 l75) 76 l76) 77 l77) 78 l78) (u (u (shF F) 14 mg) 15 lo), 0, 0)) hc104 2 rfl trivial ?_
      refine R_retz hc104 rfl rfl (Or.inr rfl) ?_
      refine R_s (f' := (21, [some (vR 88), some (vI 5), some (vI i)], [vI 1], LAY (u (u (u (u (u (u (u (u (shA A) 8 l8) 9 l9) 10 l10) 11 l11) 75 l75) 76 l76) 77 l77) 78 l78) (u (u (shF F) 14 mg) 15 lo), 0, 0)) hc151 0 rfl trivial ?_
      refine R_if (t := 31) hc151 rfl rfl (fun (_ : ¬ 1 = 0) => ?_) (fun (z : ¬ (¬ 1 = 0)) => absurd (by decide) z)
      refine R_s (P := True) (f' := (33, [some (vR 88), some (vI 5), some (vI i)], [vI 5, vR 88], LAY (u (u (u (u (u (u (u (u (shA A) 8 l8) 9 l9) 10 l10) 11 l11) 75 l75) 76 l76) 77 l77) 78 l78) (u (u (shF F) 14 mg) 15 lo), 0, 0)) hc151 2 rfl trivial ?_
      refine R_cv hc151 rfl rfl (l_worksR hR0 (A1 := (u (u (u (u (u (u (u (u (shA A) 8 l8) 9 l9) 10 l10) 11 l11) 75 l75) 76 l76) 77 l77) 78 l78)) (F1 := (u (u (shF F) 14 mg) 15 lo)) rfl rfl rfl rfl rfl rfl rfl rfl rfl rfl rfl rfl rfl (hL 104 (by decide)) (hL 105 (by decide)) (hL 107 (by decide)) (hL 108 (by decide)) (hL 109 (by decide)) (hL 110 (by decide)) (hL 111 (by decide)) hD.1 hD.2 rfl hS) (fun r G9 hp9 => ?_)
      obtain ⟨rfl, l104, l105, l107, l108, l109, l110, l111, ac, rfl, k104, k105, k107, k108, k109, k110, k111, hac, w107, w108⟩ := hp9
      have y107 : 0 ≤ i → i < F 13 → rd l107 i = te (i).toNat := fun q1 q2 => by
        have z := w107 (i).toNat (by omega)
        rw [show ((((i).toNat : Nat)) : Int) = i by omega] at z
        exact z
      refine R_s (f' := (36, [some (vR 88), some (vI 5), some (vI i)], [], LAY (u (u (u (u (u (u (u (u (u (u (u (u (u (u (u (shA A) 8 l8) 9 l9) 10 l10) 11 l11) 75 l75) 76 l76) 77 l77) 78 l78) 109 l109) 104 l104) 105 l105) 110 l110) 111 l111) 108 l108) 107 l107) (u (u (u (u (u (u (shF F) 14 mg) 15 lo) 28 (N_Y A F 5)) 29 ac) 30 mg) 31 lo), 0, 0)) hc151 0 rfl trivial ?_
      refine R_s (P := (0 ≤ i ∧ i < ((l107).length : Int)) ∧ True) (f' := (42, [some (vR 88), some (vI 5), some (vI i)], [vI (rd l107 i)], LAY (u (u (u (u (u (u (u (u (u (u (u (u (u (u (u (shA A) 8 l8) 9 l9) 10 l10) 11 l11) 75 l75) 76 l76) 77 l77) 78 l78) 109 l109) 104 l104) 105 l105) 110 l110) 111 l111) 108 l108) 107 l107) (u (u (u (u (u (u (shF F) 14 mg) 15 lo) 28 (N_Y A F 5)) 29 ac) 30 mg) 31 lo), 0, 0)) hc151 4 rfl ⟨⟨by omega, by omega⟩, trivial⟩ ?_
      refine R_reti hc151 rfl rfl ?_
      first
        | (exfalso; omega; done)
        | exact ⟨(by rw [show rd l107 i = rd l76 i by omega]), (u (u (u (u (u (u (u (u (u (u (u (u (u (u (u A 8 l8) 9 l9) 10 l10) 11 l11) 75 l75) 76 l76) 77 l77) 78 l78) 109 l109) 104 l104) 105 l105) 110 l110) 111 l111) 108 l108) 107 l107), (u (u (u (u (u (u F 14 mg) 15 lo) 28 (N_Y A F 5)) 29 ac) 30 mg) 31 lo), rfl, rfl, ⟨(LENS_u (LENS_u (LENS_u (LENS_u (LENS_u (LENS_u (LENS_u (LENS_u (LENS_u (LENS_u (LENS_u (LENS_u (LENS_u (LENS_u (LENS_u hL (by show (l8).length = (A 8).length; rw [k8, hL 8 (by decide)]; rfl)) (by show (l9).length = (A 9).length; rw [k9, hL 9 (by decide)]; rfl)) (by show (l10).length = (A 10).length; rw [k10, hL 10 (by decide)]; rfl)) (by show (l11).length = (A 11).length; rw [k11, hL 11 (by decide)]; rfl)) (by show (l75).length = (A 75).length; rw [k75, hL 75 (by decide)]; rfl)) (by show (l76).length = (A 76).length; rw [k76, hL 76 (by decide)]; rfl)) (by show (l77).length = (A 77).length; rw [k77, hL 77 (by decide)]; rfl)) (by show (l78).length = (A 78).length; rw [k78, hL 78 (by decide)]; rfl)) (by show (l109).length = (A 109).length; rw [k109, hL 109 (by decide)]; rfl)) (by show (l104).length = (A 104).length; rw [k104, hL 104 (by decide)]; rfl)) (by show (l105).length = (A 105).length; rw [k105, hL 105 (by decide)]; rfl)) (by show (l110).length = (A 110).length; rw [k110, hL 110 (by decide)]; rfl)) (by show (l111).length = (A 111).length; rw [k111, hL 111 (by decide)]; rfl)) (by show (l108).length = (A 108).length; rw [k108, hL 108 (by decide)]; rfl)) (by show (l107).length = (A 107).length; rw [k107, hL 107 (by decide)]; rfl)), hR0.2.1, hR0.2.2.1, hR0.2.2.2.1, hR0.2.2.2.2.1, hR0.2.2.2.2.2.1, hR0.2.2.2.2.2.2.1, hR0.2.2.2.2.2.2.2.1, hR0.2.2.2.2.2.2.2.2.1, (REFU_c hR0.2.2.2.2.2.2.2.2.2)⟩⟩

theorem op_gets {c : Int} {A : Nat → List Int} {F : Nat → Int} (hR : REL c A F) (hc : c < 512) (d i : Int) (i_d : inI d) (i_i : inI i) : R 77 (0, L0 77 [vR 1, vI d, vI i], [], LAY (shA A) (shF F), 0, 0) (fun r G => (∃ x, r = some (vI x)) ∧ (∃ (A1 : Nat → List Int) (F1 : Nat → Int), G = LAY A1 F1 ∧ A1 0 = A 0) ∧ R 151 (0, L0 151 [vR 88, vI d, vI i], [], G, 0, 0) (fun r2 G2 => r2 = r ∧ ∃ (A' : Nat → List Int) (F' : Nat → Int), G2 = LAY (shA A') (shF F') ∧ A' 0 = A 0 ∧ REL (c + 1) A' F')) := by
  by_cases h0 : d < 0
  · exact op_gets_n hR hc d i i_d i_i h0
  by_cases h1 : F 0 ≤ d
  · exact op_gets_b hR hc d i i_d i_i ⟨by omega, h1⟩
  have h6 := hR.2.2.2.2.1.1.2
  obtain e | e | e | e | e | e : d = 0 ∨ d = 1 ∨ d = 2 ∨ d = 3 ∨ d = 4 ∨ d = 5 := by omega
  all_goals subst e
  · exact op_gets_0 hR hc i i_i (by omega)
  · exact op_gets_1 hR hc i i_i (by omega)
  · exact op_gets_2 hR hc i i_i (by omega)
  · exact op_gets_3 hR hc i i_i (by omega)
  · exact op_gets_4 hR hc i i_i (by omega)
  · exact op_gets_5 hR hc i i_i (by omega)

theorem op_due_n {c : Int} {A : Nat → List Int} {F : Nat → Int} (hR : REL c A F) (hc : c < 512) (d p : Int) (i_d : inI d) (i_p : inI p) (hd : d < 0) : R 78 (0, L0 78 [vR 1, vI d, vI p], [], LAY (shA A) (shF F), 0, 0) (fun r G => (∃ x, r = some (vI x)) ∧ (∃ (A1 : Nat → List Int) (F1 : Nat → Int), G = LAY A1 F1 ∧ A1 0 = A 0) ∧ R 152 (0, L0 152 [vR 88, vI d, vI p], [], G, 0, 0) (fun r2 G2 => r2 = r ∧ ∃ (A' : Nat → List Int) (F' : Nat → Int), G2 = LAY (shA A') (shF F') ∧ A' 0 = A 0 ∧ REL (c + 1) A' F')) := by
  have hR0 := hR
  obtain ⟨hL, hPE, hTH, hTP, hDE, hLE, hNO, hAC, hRO, hRE⟩ := hR
  have j_d := i_d
  unfold inI at j_d
  have j_p := i_p
  unfold inI at j_p
  have h87 : (A 87).length = 9 := hL 87 (by decide)
  have r2 := REFU_at hRE (k := 2) (by decide) (by decide) hc
  have r3 := REFU_at hRE (k := 3) (by decide) (by decide) hc
  have r4 := REFU_at hRE (k := 4) (by decide) (by decide) hc
  have r5 := REFU_at hRE (k := 5) (by decide) (by decide) hc
  have r6 := REFU_at hRE (k := 6) (by decide) (by decide) hc
  have r7 := REFU_at hRE (k := 7) (by decide) (by decide) hc
  have r8 := REFU_at hRE (k := 8) (by decide) (by decide) hc
  obtain ⟨t1, t2, t3, t4, t5, t6⟩ := hTH
  obtain ⟨p1, p2, p3, p4, p5, p6⟩ := hPE
  refine R_s (P := True) (f' := (2, [some (vR 1), some (vI d), some (vI p), none], [vI d, vR 1], LAY (shA A) (shF F), 0, 0)) hc78 2 rfl trivial ?_
  refine R_cv hc78 rfl rfl ?_ (fun r G h => h)
  refine R_s (P := True) (f' := (2, [some (vR 1), some (vI d)], [vI d, vR 1], LAY (shA A) (shF F), 0, 0)) hc99 2 rfl trivial ?_
  refine R_cv hc99 rfl rfl ?_ (fun r G h => h)
  refine R_s (P := True) (f' := (1, [some (vR 1), some (vI d)], [vI d], LAY (shA A) (shF F), 0, 0)) hc98 1 rfl trivial ?_
  refine R_if (t := 16) hc98 rfl rfl (fun (_ : d < 0) => ?_) (fun (z : ¬ (d < 0)) => absurd (show d < 0 by omega) z)
  refine R_s (P := True) (f' := (17, [some (vR 1), some (vI d)], [vI 0], LAY (shA A) (shF F), 0, 0)) hc98 1 rfl trivial ?_
  refine R_retz hc98 rfl rfl (Or.inl rfl) ?_
  refine R_s (f' := (5, [some (vR 1), some (vI d)], [vI 0], LAY (shA A) (shF F), 0, 0)) hc99 0 rfl trivial ?_
  refine R_if (t := 17) hc99 rfl rfl (fun (_ : 0 = 0) => ?_) (fun (z : ¬ (0 = 0)) => absurd (by decide) z)
  refine R_s (P := True) (f' := (18, [some (vR 1), some (vI d)], [vN], LAY (shA A) (shF F), 0, 0)) hc99 1 rfl trivial ?_
  refine R_reta hc99 rfl rfl ?_
  refine R_s (f' := (5, [some (vR 1), some (vI d), some (vI p), none], [vN], LAY (shA A) (shF F), 0, 0)) hc78 0 rfl trivial ?_
  refine R_s (P := True) (f' := (24, [some (vR 1), some (vI d), some (vI p), some (vN)], [vI (-3), vR 1], LAY (shA A) (shF F), 0, 0)) hc78 5 rfl trivial ?_
  refine R_cv hc78 rfl rfl ?_ (fun r G h => h)
  refine R_s (P := True) (f' := (3, [some (vR 1), some (vI (-3))], [vI (-2), vI (-3)], LAY (shA A) (shF F), 0, 0)) hc93 2 rfl trivial ?_
  refine R_ic (t := 23) hc93 rfl rfl (fun (z : (-2) < (-3)) => absurd z (by decide)) (fun (_ : ¬ ((-2) < (-3))) => ?_)
  refine R_s (P := True) (f' := (9, [some (vR 1), some (vI (-3))], [vI (-8), vI (-3)], LAY (shA A) (shF F), 0, 0)) hc93 2 rfl trivial ?_
  refine R_ic (t := 23) hc93 rfl rfl (fun (z : (-3) < (-8)) => absurd z (by decide)) (fun (_ : ¬ ((-3) < (-8))) => ?_)
  refine R_s (P := inI 3 ∧ (0 ≤ 3 ∧ 3 < ((A 87).length : Int)) ∧ inI ((rd (A 87) 3) + 1) ∧ (0 ≤ 3 ∧ 3 < ((A 87).length : Int)) ∧ True) (f' := (24, [some (vR 1), some (vI (-3))], [vI (-3)], LAY (u (shA A) 87 (wr (A 87) 3 ((rd (A 87) 3) + 1))) (shF F), 0, 0)) hc93 10 rfl ⟨⟨by omega, by omega⟩, ⟨by omega, by omega⟩, ⟨by omega, by omega⟩, ⟨by omega, by omega⟩, trivial⟩ ?_
  refine R_reti hc93 rfl rfl ?_
  refine R_s (f' := (27, [some (vR 1), some (vI d), some (vI p), some (vN)], [vI (-3)], LAY (u (shA A) 87 (wr (A 87) 3 ((rd (A 87) 3) + 1))) (shF F), 0, 0)) hc78 0 rfl trivial ?_
  refine R_reti hc78 rfl rfl ⟨⟨_, rfl⟩, ⟨_, _, rfl, rfl⟩, ?_⟩
  refine R_s (P := True) (f' := (2, [some (vR 88), some (vI d), some (vI p)], [vI d, vR 88], LAY (u (shA A) 87 (wr (A 87) 3 ((rd (A 87) 3) + 1))) (shF F), 0, 0)) hc152 2 rfl trivial ?_
  refine R_cv hc152 rfl rfl ?_ (fun r G h => h)
  refine R_s (P := inI ((F 0) - 1) ∧ True) (f' := (8, [some (vR 88), some (vI d)], [vI ((F 0) - 1), vI 0, vI d], LAY (u (shA A) 87 (wr (A 87) 3 ((rd (A 87) 3) + 1))) (shF F), 0, 0)) hc108 6 rfl ⟨⟨by omega, by omega⟩, trivial⟩ ?_
  refine R_cs hc108 rfl rfl ?_ (fun r G h => h)
  refine R_s (P := True) (f' := (2, [some (vI d), some (vI 0), some (vI ((F 0) - 1))], [vI 0, vI d], LAY (u (shA A) 87 (wr (A 87) 3 ((rd (A 87) 3) + 1))) (shF F), 0, 0)) hc104 2 rfl trivial ?_
  refine R_ic (t := 14) hc104 rfl rfl (fun (_ : d < 0) => ?_) (fun (z : ¬ (d < 0)) => absurd (show d < 0 by omega) z)
  refine R_s (P := True) (f' := (15, [some (vI d), some (vI 0), some (vI ((F 0) - 1))], [vI 0], LAY (u (shA A) 87 (wr (A 87) 3 ((rd (A 87) 3) + 1))) (shF F), 0, 0)) hc104 1 rfl trivial ?_
  refine R_retz hc104 rfl rfl (Or.inl rfl) ?_
  refine R_s (f' := (11, [some (vR 88), some (vI d)], [vI 0], LAY (u (shA A) 87 (wr (A 87) 3 ((rd (A 87) 3) + 1))) (shF F), 0, 0)) hc108 0 rfl trivial ?_
  refine R_retz hc108 rfl rfl (Or.inl rfl) ?_
  refine R_s (f' := (5, [some (vR 88), some (vI d), some (vI p)], [vI 0], LAY (u (shA A) 87 (wr (A 87) 3 ((rd (A 87) 3) + 1))) (shF F), 0, 0)) hc152 0 rfl trivial ?_
  refine R_if (t := 16) hc152 rfl rfl (fun (_ : 0 = 0) => ?_) (fun (z : ¬ (0 = 0)) => absurd (by decide) z)
  refine R_s (P := True) (f' := (19, [some (vR 88), some (vI d), some (vI p)], [vI (-3), vR 88], LAY (u (shA A) 87 (wr (A 87) 3 ((rd (A 87) 3) + 1))) (shF F), 0, 0)) hc152 2 rfl trivial ?_
  refine R_cv hc152 rfl rfl ?_ (fun r G h => h)
  refine R_s (P := inI 3 ∧ (0 ≤ 3 ∧ 3 < ((A 87).length : Int)) ∧ inI ((rd (A 87) 3) + 1) ∧ (0 ≤ 3 ∧ 3 < ((A 87).length : Int)) ∧ True) (f' := (12, [some (vR 88), some (vI (-3))], [vI (-3)], LAY (u (u (shA A) 87 (wr (A 87) 3 ((rd (A 87) 3) + 1))) 89 (wr (A 87) 3 ((rd (A 87) 3) + 1))) (shF F), 0, 0)) hc105 10 rfl ⟨⟨by omega, by omega⟩, ⟨by omega, by omega⟩, ⟨by omega, by omega⟩, ⟨by omega, by omega⟩, trivial⟩ ?_
  refine R_reti hc105 rfl rfl ?_
  refine R_s (f' := (22, [some (vR 88), some (vI d), some (vI p)], [vI (-3)], LAY (u (u (shA A) 87 (wr (A 87) 3 ((rd (A 87) 3) + 1))) 89 (wr (A 87) 3 ((rd (A 87) 3) + 1))) (shF F), 0, 0)) hc152 0 rfl trivial ?_
  refine R_reti hc152 rfl rfl ?_
  first
    | (exfalso; omega; done)
    | exact ⟨rfl, (u A 87 (wr (A 87) 3 ((rd (A 87) 3) + 1))), F, rfl, rfl, REL_ref hR0 (by decide) (by decide)⟩

theorem op_due_b {c : Int} {A : Nat → List Int} {F : Nat → Int} (hR : REL c A F) (hc : c < 512) (d p : Int) (i_d : inI d) (i_p : inI p) (hd : 0 ≤ d ∧ F 0 ≤ d) : R 78 (0, L0 78 [vR 1, vI d, vI p], [], LAY (shA A) (shF F), 0, 0) (fun r G => (∃ x, r = some (vI x)) ∧ (∃ (A1 : Nat → List Int) (F1 : Nat → Int), G = LAY A1 F1 ∧ A1 0 = A 0) ∧ R 152 (0, L0 152 [vR 88, vI d, vI p], [], G, 0, 0) (fun r2 G2 => r2 = r ∧ ∃ (A' : Nat → List Int) (F' : Nat → Int), G2 = LAY (shA A') (shF F') ∧ A' 0 = A 0 ∧ REL (c + 1) A' F')) := by
  have hR0 := hR
  obtain ⟨hL, hPE, hTH, hTP, hDE, hLE, hNO, hAC, hRO, hRE⟩ := hR
  have j_d := i_d
  unfold inI at j_d
  have j_p := i_p
  unfold inI at j_p
  have h87 : (A 87).length = 9 := hL 87 (by decide)
  have r2 := REFU_at hRE (k := 2) (by decide) (by decide) hc
  have r3 := REFU_at hRE (k := 3) (by decide) (by decide) hc
  have r4 := REFU_at hRE (k := 4) (by decide) (by decide) hc
  have r5 := REFU_at hRE (k := 5) (by decide) (by decide) hc
  have r6 := REFU_at hRE (k := 6) (by decide) (by decide) hc
  have r7 := REFU_at hRE (k := 7) (by decide) (by decide) hc
  have r8 := REFU_at hRE (k := 8) (by decide) (by decide) hc
  obtain ⟨t1, t2, t3, t4, t5, t6⟩ := hTH
  obtain ⟨p1, p2, p3, p4, p5, p6⟩ := hPE
  refine R_s (P := True) (f' := (2, [some (vR 1), some (vI d), some (vI p), none], [vI d, vR 1], LAY (shA A) (shF F), 0, 0)) hc78 2 rfl trivial ?_
  refine R_cv hc78 rfl rfl ?_ (fun r G h => h)
  refine R_s (P := True) (f' := (2, [some (vR 1), some (vI d)], [vI d, vR 1], LAY (shA A) (shF F), 0, 0)) hc99 2 rfl trivial ?_
  refine R_cv hc99 rfl rfl ?_ (fun r G h => h)
  refine R_s (P := True) (f' := (1, [some (vR 1), some (vI d)], [vI d], LAY (shA A) (shF F), 0, 0)) hc98 1 rfl trivial ?_
  refine R_if (t := 16) hc98 rfl rfl (fun (z : d < 0) => absurd z (by omega)) (fun (_ : ¬ (d < 0)) => ?_)
  refine R_s (P := True) (f' := (9, [some (vR 1), some (vI d)], [vI (F 0), vI d], LAY (shA A) (shF F), 0, 0)) hc98 3 rfl trivial ?_
  refine R_ic (t := 16) hc98 rfl rfl (fun (_ : F 0 ≤ d) => ?_) (fun (z : ¬ (F 0 ≤ d)) => absurd (show F 0 ≤ d by omega) z)
  refine R_s (P := True) (f' := (17, [some (vR 1), some (vI d)], [vI 0], LAY (shA A) (shF F), 0, 0)) hc98 1 rfl trivial ?_
  refine R_retz hc98 rfl rfl (Or.inl rfl) ?_
  refine R_s (f' := (5, [some (vR 1), some (vI d)], [vI 0], LAY (shA A) (shF F), 0, 0)) hc99 0 rfl trivial ?_
  refine R_if (t := 17) hc99 rfl rfl (fun (_ : 0 = 0) => ?_) (fun (z : ¬ (0 = 0)) => absurd (by decide) z)
  refine R_s (P := True) (f' := (18, [some (vR 1), some (vI d)], [vN], LAY (shA A) (shF F), 0, 0)) hc99 1 rfl trivial ?_
  refine R_reta hc99 rfl rfl ?_
  refine R_s (f' := (5, [some (vR 1), some (vI d), some (vI p), none], [vN], LAY (shA A) (shF F), 0, 0)) hc78 0 rfl trivial ?_
  refine R_s (P := True) (f' := (24, [some (vR 1), some (vI d), some (vI p), some (vN)], [vI (-3), vR 1], LAY (shA A) (shF F), 0, 0)) hc78 5 rfl trivial ?_
  refine R_cv hc78 rfl rfl ?_ (fun r G h => h)
  refine R_s (P := True) (f' := (3, [some (vR 1), some (vI (-3))], [vI (-2), vI (-3)], LAY (shA A) (shF F), 0, 0)) hc93 2 rfl trivial ?_
  refine R_ic (t := 23) hc93 rfl rfl (fun (z : (-2) < (-3)) => absurd z (by decide)) (fun (_ : ¬ ((-2) < (-3))) => ?_)
  refine R_s (P := True) (f' := (9, [some (vR 1), some (vI (-3))], [vI (-8), vI (-3)], LAY (shA A) (shF F), 0, 0)) hc93 2 rfl trivial ?_
  refine R_ic (t := 23) hc93 rfl rfl (fun (z : (-3) < (-8)) => absurd z (by decide)) (fun (_ : ¬ ((-3) < (-8))) => ?_)
  refine R_s (P := inI 3 ∧ (0 ≤ 3 ∧ 3 < ((A 87).length : Int)) ∧ inI ((rd (A 87) 3) + 1) ∧ (0 ≤ 3 ∧ 3 < ((A 87).length : Int)) ∧ True) (f' := (24, [some (vR 1), some (vI (-3))], [vI (-3)], LAY (u (shA A) 87 (wr (A 87) 3 ((rd (A 87) 3) + 1))) (shF F), 0, 0)) hc93 10 rfl ⟨⟨by omega, by omega⟩, ⟨by omega, by omega⟩, ⟨by omega, by omega⟩, ⟨by omega, by omega⟩, trivial⟩ ?_
  refine R_reti hc93 rfl rfl ?_
  refine R_s (f' := (27, [some (vR 1), some (vI d), some (vI p), some (vN)], [vI (-3)], LAY (u (shA A) 87 (wr (A 87) 3 ((rd (A 87) 3) + 1))) (shF F), 0, 0)) hc78 0 rfl trivial ?_
  refine R_reti hc78 rfl rfl ⟨⟨_, rfl⟩, ⟨_, _, rfl, rfl⟩, ?_⟩
  refine R_s (P := True) (f' := (2, [some (vR 88), some (vI d), some (vI p)], [vI d, vR 88], LAY (u (shA A) 87 (wr (A 87) 3 ((rd (A 87) 3) + 1))) (shF F), 0, 0)) hc152 2 rfl trivial ?_
  refine R_cv hc152 rfl rfl ?_ (fun r G h => h)
  refine R_s (P := inI ((F 0) - 1) ∧ True) (f' := (8, [some (vR 88), some (vI d)], [vI ((F 0) - 1), vI 0, vI d], LAY (u (shA A) 87 (wr (A 87) 3 ((rd (A 87) 3) + 1))) (shF F), 0, 0)) hc108 6 rfl ⟨⟨by omega, by omega⟩, trivial⟩ ?_
  refine R_cs hc108 rfl rfl ?_ (fun r G h => h)
  refine R_s (P := True) (f' := (2, [some (vI d), some (vI 0), some (vI ((F 0) - 1))], [vI 0, vI d], LAY (u (shA A) 87 (wr (A 87) 3 ((rd (A 87) 3) + 1))) (shF F), 0, 0)) hc104 2 rfl trivial ?_
  refine R_ic (t := 14) hc104 rfl rfl (fun (z : d < 0) => absurd z (by omega)) (fun (_ : ¬ (d < 0)) => ?_)
  refine R_s (P := True) (f' := (7, [some (vI d), some (vI 0), some (vI ((F 0) - 1))], [vI ((F 0) - 1), vI d], LAY (u (shA A) 87 (wr (A 87) 3 ((rd (A 87) 3) + 1))) (shF F), 0, 0)) hc104 2 rfl trivial ?_
  refine R_ic (t := 14) hc104 rfl rfl (fun (_ : (F 0) - 1 < d) => ?_) (fun (z : ¬ ((F 0) - 1 < d)) => absurd (show (F 0) - 1 < d by omega) z)
  refine R_s (P := True) (f' := (15, [some (vI d), some (vI 0), some (vI ((F 0) - 1))], [vI 0], LAY (u (shA A) 87 (wr (A 87) 3 ((rd (A 87) 3) + 1))) (shF F), 0, 0)) hc104 1 rfl trivial ?_
  refine R_retz hc104 rfl rfl (Or.inl rfl) ?_
  refine R_s (f' := (11, [some (vR 88), some (vI d)], [vI 0], LAY (u (shA A) 87 (wr (A 87) 3 ((rd (A 87) 3) + 1))) (shF F), 0, 0)) hc108 0 rfl trivial ?_
  refine R_retz hc108 rfl rfl (Or.inl rfl) ?_
  refine R_s (f' := (5, [some (vR 88), some (vI d), some (vI p)], [vI 0], LAY (u (shA A) 87 (wr (A 87) 3 ((rd (A 87) 3) + 1))) (shF F), 0, 0)) hc152 0 rfl trivial ?_
  refine R_if (t := 16) hc152 rfl rfl (fun (_ : 0 = 0) => ?_) (fun (z : ¬ (0 = 0)) => absurd (by decide) z)
  refine R_s (P := True) (f' := (19, [some (vR 88), some (vI d), some (vI p)], [vI (-3), vR 88], LAY (u (shA A) 87 (wr (A 87) 3 ((rd (A 87) 3) + 1))) (shF F), 0, 0)) hc152 2 rfl trivial ?_
  refine R_cv hc152 rfl rfl ?_ (fun r G h => h)
  refine R_s (P := inI 3 ∧ (0 ≤ 3 ∧ 3 < ((A 87).length : Int)) ∧ inI ((rd (A 87) 3) + 1) ∧ (0 ≤ 3 ∧ 3 < ((A 87).length : Int)) ∧ True) (f' := (12, [some (vR 88), some (vI (-3))], [vI (-3)], LAY (u (u (shA A) 87 (wr (A 87) 3 ((rd (A 87) 3) + 1))) 89 (wr (A 87) 3 ((rd (A 87) 3) + 1))) (shF F), 0, 0)) hc105 10 rfl ⟨⟨by omega, by omega⟩, ⟨by omega, by omega⟩, ⟨by omega, by omega⟩, ⟨by omega, by omega⟩, trivial⟩ ?_
  refine R_reti hc105 rfl rfl ?_
  refine R_s (f' := (22, [some (vR 88), some (vI d), some (vI p)], [vI (-3)], LAY (u (u (shA A) 87 (wr (A 87) 3 ((rd (A 87) 3) + 1))) 89 (wr (A 87) 3 ((rd (A 87) 3) + 1))) (shF F), 0, 0)) hc152 0 rfl trivial ?_
  refine R_reti hc152 rfl rfl ?_
  first
    | (exfalso; omega; done)
    | exact ⟨rfl, (u A 87 (wr (A 87) 3 ((rd (A 87) 3) + 1))), F, rfl, rfl, REL_ref hR0 (by decide) (by decide)⟩

theorem op_due_0 {c : Int} {A : Nat → List Int} {F : Nat → Int} (hR : REL c A F) (hc : c < 512) (p : Int) (i_p : inI p) (hd : (0 : Int) < F 0) : R 78 (0, L0 78 [vR 1, vI 0, vI p], [], LAY (shA A) (shF F), 0, 0) (fun r G => (∃ x, r = some (vI x)) ∧ (∃ (A1 : Nat → List Int) (F1 : Nat → Int), G = LAY A1 F1 ∧ A1 0 = A 0) ∧ R 152 (0, L0 152 [vR 88, vI 0, vI p], [], G, 0, 0) (fun r2 G2 => r2 = r ∧ ∃ (A' : Nat → List Int) (F' : Nat → Int), G2 = LAY (shA A') (shF F') ∧ A' 0 = A 0 ∧ REL (c + 1) A' F')) := by
  have hR0 := hR
  obtain ⟨hL, hPE, hTH, hTP, hDE, hLE, hNO, hAC, hRO, hRE⟩ := hR
  have j_p := i_p
  unfold inI at j_p
  have h87 : (A 87).length = 9 := hL 87 (by decide)
  have h99 : (A 99).length = 6 := hL 99 (by decide)
  have r2 := REFU_at hRE (k := 2) (by decide) (by decide) hc
  have r3 := REFU_at hRE (k := 3) (by decide) (by decide) hc
  have r4 := REFU_at hRE (k := 4) (by decide) (by decide) hc
  have r5 := REFU_at hRE (k := 5) (by decide) (by decide) hc
  have r6 := REFU_at hRE (k := 6) (by decide) (by decide) hc
  have r7 := REFU_at hRE (k := 7) (by decide) (by decide) hc
  have r8 := REFU_at hRE (k := 8) (by decide) (by decide) hc
  obtain ⟨t1, t2, t3, t4, t5, t6⟩ := hTH
  obtain ⟨p1, p2, p3, p4, p5, p6⟩ := hPE
  have hD := D_at0 hR0 hd
  have he1 := hD.1.1
  have he2 := hD.1.2.1
  have hme : rd (A 99) 0 = F 8 := by
    have := hD.2.2.2.2.1
    omega
  obtain ⟨so, te, tp, mg, pm, lo, hS⟩ := SPL_ex A F (N_al A F) (N_Q A 21) (F 8).toNat (N_Y A F 0)
  refine R_s (P := True) (f' := (2, [some (vR 1), some (vI 0), some (vI p), none], [vI 0, vR 1], LAY (shA A) (shF F), 0, 0)) hc78 2 rfl trivial ?_
  refine R_cv hc78 rfl rfl ?_ (fun r G h => h)
  refine R_s (P := True) (f' := (2, [some (vR 1), some (vI 0)], [vI 0, vR 1], LAY (shA A) (shF F), 0, 0)) hc99 2 rfl trivial ?_
  refine R_cv hc99 rfl rfl ?_ (fun r G h => h)
  refine R_s (P := True) (f' := (1, [some (vR 1), some (vI 0)], [vI 0], LAY (shA A) (shF F), 0, 0)) hc98 1 rfl trivial ?_
  refine R_if (t := 16) hc98 rfl rfl (fun (z : 0 < 0) => absurd z (by decide)) (fun (_ : ¬ (0 < 0)) => ?_)
  refine R_s (P := True) (f' := (9, [some (vR 1), some (vI 0)], [vI (F 0), vI 0], LAY (shA A) (shF F), 0, 0)) hc98 3 rfl trivial ?_
  refine R_ic (t := 16) hc98 rfl rfl (fun (z : F 0 ≤ 0) => absurd z (by omega)) (fun (_ : ¬ (F 0 ≤ 0)) => ?_)
  refine R_s (P := True) (f' := (17, [some (vR 1), some (vI 0)], [vI 1], LAY (shA A) (shF F), 0, 0)) hc98 2 rfl trivial ?_
  refine R_retz hc98 rfl rfl (Or.inr rfl) ?_
  refine R_s (f' := (5, [some (vR 1), some (vI 0)], [vI 1], LAY (shA A) (shF F), 0, 0)) hc99 0 rfl trivial ?_
  refine R_if (t := 17) hc99 rfl rfl (fun (z : 1 = 0) => absurd z (by decide)) (fun (_ : ¬ (1 = 0)) => ?_)
  refine R_s (P := (0 ≤ (0 : Int) ∧ (0 : Int) < (([some 20, some 29, some 38, some 47, some 56, some 65] : List (Option Nat)).length : Int)) ∧ True) (f' := (18, [some (vR 1), some (vI 0)], [vR 20], LAY (shA A) (shF F), 0, 0)) hc99 5 rfl ⟨(by decide), trivial⟩ ?_
  refine R_reta hc99 rfl rfl ?_
  refine R_s (f' := (5, [some (vR 1), some (vI 0), some (vI p), none], [vR 20], LAY (shA A) (shF F), 0, 0)) hc78 0 rfl trivial ?_
  refine R_s (P := True) (f' := (15, [some (vR 1), some (vI 0), some (vI p), some (vR 20)], [vI p, vR 2], LAY (shA A) (shF F), 0, 0)) hc78 6 rfl trivial ?_
  refine R_cv hc78 rfl rfl ?_ (fun r G h => h)
  refine R_s (P := True) (f' := (1, [some (vR 2), some (vI p)], [vI p], LAY (shA A) (shF F), 0, 0)) hc5 1 rfl trivial ?_
  refine R_if (t := 16) hc5 rfl rfl (fun (c4 : p < 0) => ?_) (fun (c4 : ¬ (p < 0)) => ?_)
  · refine R_s (P := True) (f' := (17, [some (vR 2), some (vI p)], [vI 0], LAY (shA A) (shF F), 0, 0)) hc5 1 rfl trivial ?_
    refine R_retz hc5 rfl rfl (Or.inl rfl) ?_
    refine R_s (f' := (18, [some (vR 1), some (vI 0), some (vI p), some (vR 20)], [vI 0], LAY (shA A) (shF F), 0, 0)) hc78 0 rfl trivial ?_
    refine R_if (t := 28) hc78 rfl rfl (fun (z : ¬ 0 = 0) => absurd z (by decide)) (fun (_ : ¬ (¬ 0 = 0)) => ?_)
    refine R_s (P := True) (f' := (24, [some (vR 1), some (vI 0), some (vI p), some (vR 20)], [vI (-3), vR 1], LAY (shA A) (shF F), 0, 0)) hc78 2 rfl trivial ?_
    refine R_cv hc78 rfl rfl ?_ (fun r G h => h)
    refine R_s (P := True) (f' := (3, [some (vR 1), some (vI (-3))], [vI (-2), vI (-3)], LAY (shA A) (shF F), 0, 0)) hc93 2 rfl trivial ?_
    refine R_ic (t := 23) hc93 rfl rfl (fun (z : (-2) < (-3)) => absurd z (by decide)) (fun (_ : ¬ ((-2) < (-3))) => ?_)
    refine R_s (P := True) (f' := (9, [some (vR 1), some (vI (-3))], [vI (-8), vI (-3)], LAY (shA A) (shF F), 0, 0)) hc93 2 rfl trivial ?_
    refine R_ic (t := 23) hc93 rfl rfl (fun (z : (-3) < (-8)) => absurd z (by decide)) (fun (_ : ¬ ((-3) < (-8))) => ?_)
    refine R_s (P := inI 3 ∧ (0 ≤ 3 ∧ 3 < ((A 87).length : Int)) ∧ inI ((rd (A 87) 3) + 1) ∧ (0 ≤ 3 ∧ 3 < ((A 87).length : Int)) ∧ True) (f' := (24, [some (vR 1), some (vI (-3))], [vI (-3)], LAY (u (shA A) 87 (wr (A 87) 3 ((rd (A 87) 3) + 1))) (shF F), 0, 0)) hc93 10 rfl ⟨⟨by omega, by omega⟩, ⟨by omega, by omega⟩, ⟨by omega, by omega⟩, ⟨by omega, by omega⟩, trivial⟩ ?_
    refine R_reti hc93 rfl rfl ?_
    refine R_s (f' := (27, [some (vR 1), some (vI 0), some (vI p), some (vR 20)], [vI (-3)], LAY (u (shA A) 87 (wr (A 87) 3 ((rd (A 87) 3) + 1))) (shF F), 0, 0)) hc78 0 rfl trivial ?_
    refine R_reti hc78 rfl rfl ⟨⟨_, rfl⟩, ⟨_, _, rfl, rfl⟩, ?_⟩
    refine R_s (P := True) (f' := (2, [some (vR 88), some (vI 0), some (vI p)], [vI 0, vR 88], LAY (u (shA A) 87 (wr (A 87) 3 ((rd (A 87) 3) + 1))) (shF F), 0, 0)) hc152 2 rfl trivial ?_
    refine R_cv hc152 rfl rfl ?_ (fun r G h => h)
    refine R_s (P := inI ((F 0) - 1) ∧ True) (f' := (8, [some (vR 88), some (vI 0)], [vI ((F 0) - 1), vI 0, vI 0], LAY (u (shA A) 87 (wr (A 87) 3 ((rd (A 87) 3) + 1))) (shF F), 0, 0)) hc108 6 rfl ⟨⟨by omega, by omega⟩, trivial⟩ ?_
    refine R_cs hc108 rfl rfl ?_ (fun r G h => h)
    refine R_s (P := True) (f' := (2, [some (vI 0), some (vI 0), some (vI ((F 0) - 1))], [vI 0, vI 0], LAY (u (shA A) 87 (wr (A 87) 3 ((rd (A 87) 3) + 1))) (shF F), 0, 0)) hc104 2 rfl trivial ?_
    refine R_ic (t := 14) hc104 rfl rfl (fun (z : 0 < 0) => absurd z (by decide)) (fun (_ : ¬ (0 < 0)) => ?_)
    refine R_s (P := True) (f' := (7, [some (vI 0), some (vI 0), some (vI ((F 0) - 1))], [vI ((F 0) - 1), vI 0], LAY (u (shA A) 87 (wr (A 87) 3 ((rd (A 87) 3) + 1))) (shF F), 0, 0)) hc104 2 rfl trivial ?_
    refine R_ic (t := 14) hc104 rfl rfl (fun (z : (F 0) - 1 < 0) => absurd z (by omega)) (fun (_ : ¬ ((F 0) - 1 < 0)) => ?_)
    refine R_s (P := True) (f' := (15, [some (vI 0), some (vI 0), some (vI ((F 0) - 1))], [vI 1], LAY (u (shA A) 87 (wr (A 87) 3 ((rd (A 87) 3) + 1))) (shF F), 0, 0)) hc104 2 rfl trivial ?_
    refine R_retz hc104 rfl rfl (Or.inr rfl) ?_
    refine R_s (f' := (11, [some (vR 88), some (vI 0)], [vI 1], LAY (u (shA A) 87 (wr (A 87) 3 ((rd (A 87) 3) + 1))) (shF F), 0, 0)) hc108 0 rfl trivial ?_
    refine R_retz hc108 rfl rfl (Or.inr rfl) ?_
    refine R_s (f' := (5, [some (vR 88), some (vI 0), some (vI p)], [vI 1], LAY (u (shA A) 87 (wr (A 87) 3 ((rd (A 87) 3) + 1))) (shF F), 0, 0)) hc152 0 rfl trivial ?_
    refine R_if (t := 16) hc152 rfl rfl (fun (z : 1 = 0) => absurd z (by decide)) (fun (_ : ¬ (1 = 0)) => ?_)
    refine R_s (P := True) (f' := (10, [some (vR 88), some (vI 0), some (vI p)], [vI p, vR 88], LAY (u (shA A) 87 (wr (A 87) 3 ((rd (A 87) 3) + 1))) (shF F), 0, 0)) hc152 2 rfl trivial ?_
    refine R_cv hc152 rfl rfl ?_ (fun r G h => h)
    refine R_s (P := inI ((F 3) - 1) ∧ True) (f' := (8, [some (vR 88), some (vI p)], [vI ((F 3) - 1), vI 0, vI p], LAY (u (shA A) 87 (wr (A 87) 3 ((rd (A 87) 3) + 1))) (shF F), 0, 0)) hc106 6 rfl ⟨⟨by omega, by omega⟩, trivial⟩ ?_
    refine R_cs hc106 rfl rfl ?_ (fun r G h => h)
    refine R_s (P := True) (f' := (2, [some (vI p), some (vI 0), some (vI ((F 3) - 1))], [vI 0, vI p], LAY (u (shA A) 87 (wr (A 87) 3 ((rd (A 87) 3) + 1))) (shF F), 0, 0)) hc104 2 rfl trivial ?_
    refine R_ic (t := 14) hc104 rfl rfl (fun (_ : p < 0) => ?_) (fun (z : ¬ (p < 0)) => absurd (show p < 0 by omega) z)
    refine R_s (P := True) (f' := (15, [some (vI p), some (vI 0), some (vI ((F 3) - 1))], [vI 0], LAY (u (shA A) 87 (wr (A 87) 3 ((rd (A 87) 3) + 1))) (shF F), 0, 0)) hc104 1 rfl trivial ?_
    refine R_retz hc104 rfl rfl (Or.inl rfl) ?_
    refine R_s (f' := (11, [some (vR 88), some (vI p)], [vI 0], LAY (u (shA A) 87 (wr (A 87) 3 ((rd (A 87) 3) + 1))) (shF F), 0, 0)) hc106 0 rfl trivial ?_
    refine R_retz hc106 rfl rfl (Or.inl rfl) ?_
    refine R_s (f' := (13, [some (vR 88), some (vI 0), some (vI p)], [vI 0], LAY (u (shA A) 87 (wr (A 87) 3 ((rd (A 87) 3) + 1))) (shF F), 0, 0)) hc152 0 rfl trivial ?_
    refine R_if (t := 23) hc152 rfl rfl (fun (z : ¬ 0 = 0) => absurd z (by decide)) (fun (_ : ¬ (¬ 0 = 0)) => ?_)
    refine R_s (P := True) (f' := (19, [some (vR 88), some (vI 0), some (vI p)], [vI (-3), vR 88], LAY (u (shA A) 87 (wr (A 87) 3 ((rd (A 87) 3) + 1))) (shF F), 0, 0)) hc152 2 rfl trivial ?_
    refine R_cv hc152 rfl rfl ?_ (fun r G h => h)
    refine R_s (P := inI 3 ∧ (0 ≤ 3 ∧ 3 < ((A 87).length : Int)) ∧ inI ((rd (A 87) 3) + 1) ∧ (0 ≤ 3 ∧ 3 < ((A 87).length : Int)) ∧ True) (f' := (12, [some (vR 88), some (vI (-3))], [vI (-3)], LAY (u (u (shA A) 87 (wr (A 87) 3 ((rd (A 87) 3) + 1))) 89 (wr (A 87) 3 ((rd (A 87) 3) + 1))) (shF F), 0, 0)) hc105 10 rfl ⟨⟨by omega, by omega⟩, ⟨by omega, by omega⟩, ⟨by omega, by omega⟩, ⟨by omega, by omega⟩, trivial⟩ ?_
    refine R_reti hc105 rfl rfl ?_
    refine R_s (f' := (22, [some (vR 88), some (vI 0), some (vI p)], [vI (-3)], LAY (u (u (shA A) 87 (wr (A 87) 3 ((rd (A 87) 3) + 1))) 89 (wr (A 87) 3 ((rd (A 87) 3) + 1))) (shF F), 0, 0)) hc152 0 rfl trivial ?_
    refine R_reti hc152 rfl rfl ?_
    first
      | (exfalso; omega; done)
      | exact ⟨rfl, (u A 87 (wr (A 87) 3 ((rd (A 87) 3) + 1))), F, rfl, rfl, REL_ref hR0 (by decide) (by decide)⟩
  · refine R_s (P := True) (f' := (9, [some (vR 2), some (vI p)], [vI (F 3), vI p], LAY (shA A) (shF F), 0, 0)) hc5 3 rfl trivial ?_
    refine R_ic (t := 16) hc5 rfl rfl (fun (c5 : F 3 ≤ p) => ?_) (fun (c5 : ¬ (F 3 ≤ p)) => ?_)
    · refine R_s (P := True) (f' := (17, [some (vR 2), some (vI p)], [vI 0], LAY (shA A) (shF F), 0, 0)) hc5 1 rfl trivial ?_
      refine R_retz hc5 rfl rfl (Or.inl rfl) ?_
      refine R_s (f' := (18, [some (vR 1), some (vI 0), some (vI p), some (vR 20)], [vI 0], LAY (shA A) (shF F), 0, 0)) hc78 0 rfl trivial ?_
      refine R_if (t := 28) hc78 rfl rfl (fun (z : ¬ 0 = 0) => absurd z (by decide)) (fun (_ : ¬ (¬ 0 = 0)) => ?_)
      refine R_s (P := True) (f' := (24, [some (vR 1), some (vI 0), some (vI p), some (vR 20)], [vI (-3), vR 1], LAY (shA A) (shF F), 0, 0)) hc78 2 rfl trivial ?_
      refine R_cv hc78 rfl rfl ?_ (fun r G h => h)
      refine R_s (P := True) (f' := (3, [some (vR 1), some (vI (-3))], [vI (-2), vI (-3)], LAY (shA A) (shF F), 0, 0)) hc93 2 rfl trivial ?_
      refine R_ic (t := 23) hc93 rfl rfl (fun (z : (-2) < (-3)) => absurd z (by decide)) (fun (_ : ¬ ((-2) < (-3))) => ?_)
      refine R_s (P := True) (f' := (9, [some (vR 1), some (vI (-3))], [vI (-8), vI (-3)], LAY (shA A) (shF F), 0, 0)) hc93 2 rfl trivial ?_
      refine R_ic (t := 23) hc93 rfl rfl (fun (z : (-3) < (-8)) => absurd z (by decide)) (fun (_ : ¬ ((-3) < (-8))) => ?_)
      refine R_s (P := inI 3 ∧ (0 ≤ 3 ∧ 3 < ((A 87).length : Int)) ∧ inI ((rd (A 87) 3) + 1) ∧ (0 ≤ 3 ∧ 3 < ((A 87).length : Int)) ∧ True) (f' := (24, [some (vR 1), some (vI (-3))], [vI (-3)], LAY (u (shA A) 87 (wr (A 87) 3 ((rd (A 87) 3) + 1))) (shF F), 0, 0)) hc93 10 rfl ⟨⟨by omega, by omega⟩, ⟨by omega, by omega⟩, ⟨by omega, by omega⟩, ⟨by omega, by omega⟩, trivial⟩ ?_
      refine R_reti hc93 rfl rfl ?_
      refine R_s (f' := (27, [some (vR 1), some (vI 0), some (vI p), some (vR 20)], [vI (-3)], LAY (u (shA A) 87 (wr (A 87) 3 ((rd (A 87) 3) + 1))) (shF F), 0, 0)) hc78 0 rfl trivial ?_
      refine R_reti hc78 rfl rfl ⟨⟨_, rfl⟩, ⟨_, _, rfl, rfl⟩, ?_⟩
      refine R_s (P := True) (f' := (2, [some (vR 88), some (vI 0), some (vI p)], [vI 0, vR 88], LAY (u (shA A) 87 (wr (A 87) 3 ((rd (A 87) 3) + 1))) (shF F), 0, 0)) hc152 2 rfl trivial ?_
      refine R_cv hc152 rfl rfl ?_ (fun r G h => h)
      refine R_s (P := inI ((F 0) - 1) ∧ True) (f' := (8, [some (vR 88), some (vI 0)], [vI ((F 0) - 1), vI 0, vI 0], LAY (u (shA A) 87 (wr (A 87) 3 ((rd (A 87) 3) + 1))) (shF F), 0, 0)) hc108 6 rfl ⟨⟨by omega, by omega⟩, trivial⟩ ?_
      refine R_cs hc108 rfl rfl ?_ (fun r G h => h)
      refine R_s (P := True) (f' := (2, [some (vI 0), some (vI 0), some (vI ((F 0) - 1))], [vI 0, vI 0], LAY (u (shA A) 87 (wr (A 87) 3 ((rd (A 87) 3) + 1))) (shF F), 0, 0)) hc104 2 rfl trivial ?_
      refine R_ic (t := 14) hc104 rfl rfl (fun (z : 0 < 0) => absurd z (by decide)) (fun (_ : ¬ (0 < 0)) => ?_)
      refine R_s (P := True) (f' := (7, [some (vI 0), some (vI 0), some (vI ((F 0) - 1))], [vI ((F 0) - 1), vI 0], LAY (u (shA A) 87 (wr (A 87) 3 ((rd (A 87) 3) + 1))) (shF F), 0, 0)) hc104 2 rfl trivial ?_
      refine R_ic (t := 14) hc104 rfl rfl (fun (z : (F 0) - 1 < 0) => absurd z (by omega)) (fun (_ : ¬ ((F 0) - 1 < 0)) => ?_)
      refine R_s (P := True) (f' := (15, [some (vI 0), some (vI 0), some (vI ((F 0) - 1))], [vI 1], LAY (u (shA A) 87 (wr (A 87) 3 ((rd (A 87) 3) + 1))) (shF F), 0, 0)) hc104 2 rfl trivial ?_
      refine R_retz hc104 rfl rfl (Or.inr rfl) ?_
      refine R_s (f' := (11, [some (vR 88), some (vI 0)], [vI 1], LAY (u (shA A) 87 (wr (A 87) 3 ((rd (A 87) 3) + 1))) (shF F), 0, 0)) hc108 0 rfl trivial ?_
      refine R_retz hc108 rfl rfl (Or.inr rfl) ?_
      refine R_s (f' := (5, [some (vR 88), some (vI 0), some (vI p)], [vI 1], LAY (u (shA A) 87 (wr (A 87) 3 ((rd (A 87) 3) + 1))) (shF F), 0, 0)) hc152 0 rfl trivial ?_
      refine R_if (t := 16) hc152 rfl rfl (fun (z : 1 = 0) => absurd z (by decide)) (fun (_ : ¬ (1 = 0)) => ?_)
      refine R_s (P := True) (f' := (10, [some (vR 88), some (vI 0), some (vI p)], [vI p, vR 88], LAY (u (shA A) 87 (wr (A 87) 3 ((rd (A 87) 3) + 1))) (shF F), 0, 0)) hc152 2 rfl trivial ?_
      refine R_cv hc152 rfl rfl ?_ (fun r G h => h)
      refine R_s (P := inI ((F 3) - 1) ∧ True) (f' := (8, [some (vR 88), some (vI p)], [vI ((F 3) - 1), vI 0, vI p], LAY (u (shA A) 87 (wr (A 87) 3 ((rd (A 87) 3) + 1))) (shF F), 0, 0)) hc106 6 rfl ⟨⟨by omega, by omega⟩, trivial⟩ ?_
      refine R_cs hc106 rfl rfl ?_ (fun r G h => h)
      refine R_s (P := True) (f' := (2, [some (vI p), some (vI 0), some (vI ((F 3) - 1))], [vI 0, vI p], LAY (u (shA A) 87 (wr (A 87) 3 ((rd (A 87) 3) + 1))) (shF F), 0, 0)) hc104 2 rfl trivial ?_
      refine R_ic (t := 14) hc104 rfl rfl (fun (z : p < 0) => absurd z (by omega)) (fun (_ : ¬ (p < 0)) => ?_)
      refine R_s (P := True) (f' := (7, [some (vI p), some (vI 0), some (vI ((F 3) - 1))], [vI ((F 3) - 1), vI p], LAY (u (shA A) 87 (wr (A 87) 3 ((rd (A 87) 3) + 1))) (shF F), 0, 0)) hc104 2 rfl trivial ?_
      refine R_ic (t := 14) hc104 rfl rfl (fun (_ : (F 3) - 1 < p) => ?_) (fun (z : ¬ ((F 3) - 1 < p)) => absurd (show (F 3) - 1 < p by omega) z)
      refine R_s (P := True) (f' := (15, [some (vI p), some (vI 0), some (vI ((F 3) - 1))], [vI 0], LAY (u (shA A) 87 (wr (A 87) 3 ((rd (A 87) 3) + 1))) (shF F), 0, 0)) hc104 1 rfl trivial ?_
      refine R_retz hc104 rfl rfl (Or.inl rfl) ?_
      refine R_s (f' := (11, [some (vR 88), some (vI p)], [vI 0], LAY (u (shA A) 87 (wr (A 87) 3 ((rd (A 87) 3) + 1))) (shF F), 0, 0)) hc106 0 rfl trivial ?_
      refine R_retz hc106 rfl rfl (Or.inl rfl) ?_
      refine R_s (f' := (13, [some (vR 88), some (vI 0), some (vI p)], [vI 0], LAY (u (shA A) 87 (wr (A 87) 3 ((rd (A 87) 3) + 1))) (shF F), 0, 0)) hc152 0 rfl trivial ?_
      refine R_if (t := 23) hc152 rfl rfl (fun (z : ¬ 0 = 0) => absurd z (by decide)) (fun (_ : ¬ (¬ 0 = 0)) => ?_)
      refine R_s (P := True) (f' := (19, [some (vR 88), some (vI 0), some (vI p)], [vI (-3), vR 88], LAY (u (shA A) 87 (wr (A 87) 3 ((rd (A 87) 3) + 1))) (shF F), 0, 0)) hc152 2 rfl trivial ?_
      refine R_cv hc152 rfl rfl ?_ (fun r G h => h)
      refine R_s (P := inI 3 ∧ (0 ≤ 3 ∧ 3 < ((A 87).length : Int)) ∧ inI ((rd (A 87) 3) + 1) ∧ (0 ≤ 3 ∧ 3 < ((A 87).length : Int)) ∧ True) (f' := (12, [some (vR 88), some (vI (-3))], [vI (-3)], LAY (u (u (shA A) 87 (wr (A 87) 3 ((rd (A 87) 3) + 1))) 89 (wr (A 87) 3 ((rd (A 87) 3) + 1))) (shF F), 0, 0)) hc105 10 rfl ⟨⟨by omega, by omega⟩, ⟨by omega, by omega⟩, ⟨by omega, by omega⟩, ⟨by omega, by omega⟩, trivial⟩ ?_
      refine R_reti hc105 rfl rfl ?_
      refine R_s (f' := (22, [some (vR 88), some (vI 0), some (vI p)], [vI (-3)], LAY (u (u (shA A) 87 (wr (A 87) 3 ((rd (A 87) 3) + 1))) 89 (wr (A 87) 3 ((rd (A 87) 3) + 1))) (shF F), 0, 0)) hc152 0 rfl trivial ?_
      refine R_reti hc152 rfl rfl ?_
      first
        | (exfalso; omega; done)
        | exact ⟨rfl, (u A 87 (wr (A 87) 3 ((rd (A 87) 3) + 1))), F, rfl, rfl, REL_ref hR0 (by decide) (by decide)⟩
    · refine R_s (P := True) (f' := (17, [some (vR 2), some (vI p)], [vI 1], LAY (shA A) (shF F), 0, 0)) hc5 2 rfl trivial ?_
      refine R_retz hc5 rfl rfl (Or.inr rfl) ?_
      refine R_s (f' := (18, [some (vR 1), some (vI 0), some (vI p), some (vR 20)], [vI 1], LAY (shA A) (shF F), 0, 0)) hc78 0 rfl trivial ?_
      refine R_if (t := 28) hc78 rfl rfl (fun (_ : ¬ 1 = 0) => ?_) (fun (z : ¬ (¬ 1 = 0)) => absurd (by decide) z)
      refine R_s (P := True) (f' := (31, [some (vR 1), some (vI 0), some (vI p), some (vR 20)], [vI 0, vR 20, vR 1], LAY (shA A) (shF F), 0, 0)) hc78 3 rfl trivial ?_
      refine R_cv hc78 rfl rfl (l_now0 hR0 hd hS) (fun r G9 hp9 => ?_)
      obtain ⟨rfl, l8, l9, l10, l11, l75, l76, l77, l78, rfl, k8, k9, k10, k11, k75, k76, k77, k78, v75, v76, v77⟩ := hp9
      have y77 : 0 ≤ p → p < F 3 → rd l77 p = tp (p).toNat := fun q1 q2 => by
        have z := v77 (p).toNat (by omega)
        rw [show ((((p).toNat : Nat)) : Int) = p by omega] at z
        exact z
      refine R_s (f' := (34, [some (vR 1), some (vI 0), some (vI p), some (vR 20)], [], LAY (u (u (u (u (u (u (u (u (shA A) 8 l8) 9 l9) 10 l10) 11 l11) 75 l75) 76 l76) 77 l77) 78 l78) (u (u (shF F) 14 mg) 15 lo), 0, 0)) hc78 0 rfl trivial ?_
      refine R_s (P := (0 ≤ p ∧ p < ((l77).length : Int)) ∧ True) (f' := (43, [some (vR 1), some (vI 0), some (vI p), some (vR 20)], [vI (rd l77 p)], LAY (u (u (u (u (u (u (u (u (shA A) 8 l8) 9 l9) 10 l10) 11 l11) 75 l75) 76 l76) 77 l77) 78 l78) (u (u (shF F) 14 mg) 15 lo), 0, 0)) hc78 5 rfl ⟨⟨by omega, by omega⟩, trivial⟩ ?_
      refine R_reti hc78 rfl rfl ⟨⟨_, rfl⟩, ⟨_, _, rfl, rfl⟩, ?_⟩
      refine R_s (P := True) (f' := (2, [some (vR 88), some (vI 0), some (vI p)], [vI 0, vR 88], LAY (u (u (u (u (u (u (u (u (shA A) 8 l8) 9 l9) 10 l10) 11 l11) 75 l75) 76 l76) 77 l77) 78 l78) (u (u (shF F) 14 mg) 15 lo), 0, 0)) hc152 2 rfl trivial ?_
      refine R_cv hc152 rfl rfl ?_ (fun r G h => h)
      refine R_s (P := inI ((F 0) - 1) ∧ True) (f' := (8, [some (vR 88), some (vI 0)], [vI ((F 0) - 1), vI 0, vI 0], LAY (u (u (u (u (u (u (u (u (shA A) 8 l8) 9 l9) 10 l10) 11 l11) 75 l75) 76 l76) 77 l77) 78 l78) (u (u (shF F) 14 mg) 15 lo), 0, 0)) hc108 6 rfl ⟨⟨by omega, by omega⟩, trivial⟩ ?_
      refine R_cs hc108 rfl rfl ?_ (fun r G h => h)
      refine R_s (P := True) (f' := (2, [some (vI 0), some (vI 0), some (vI ((F 0) - 1))], [vI 0, vI 0], LAY (u (u (u (u (u (u (u (u (shA A) 8 l8) 9 l9) 10 l10) 11 l11) 75 l75) 76 l76) 77 l77) 78 l78) (u (u (shF F) 14 mg) 15 lo), 0, 0)) hc104 2 rfl trivial ?_
      refine R_ic (t := 14) hc104 rfl rfl (fun (z : 0 < 0) => absurd z (by decide)) (fun (_ : ¬ (0 < 0)) => ?_)
      refine R_s (P := True) (f' := (7, [some (vI 0), some (vI 0), some (vI ((F 0) - 1))], [vI ((F 0) - 1), vI 0], LAY (u (u (u (u (u (u (u (u (shA A) 8 l8) 9 l9) 10 l10) 11 l11) 75 l75) 76 l76) 77 l77) 78 l78) (u (u (shF F) 14 mg) 15 lo), 0, 0)) hc104 2 rfl trivial ?_
      refine R_ic (t := 14) hc104 rfl rfl (fun (z : (F 0) - 1 < 0) => absurd z (by omega)) (fun (_ : ¬ ((F 0) - 1 < 0)) => ?_)
      refine R_s (P := True) (f' := (15, [some (vI 0), some (vI 0), some (vI ((F 0) - 1))], [vI 1], LAY (u (u (u (u (u (u (u (u (shA A) 8 l8) 9 l9) 10 l10) 11 l11) 75 l75) 76 l76) 77 l77) 78 l78) (u (u (shF F) 14 mg) 15 lo), 0, 0)) hc104 2 rfl trivial ?_
      refine R_retz hc104 rfl rfl (Or.inr rfl) ?_
      refine R_s (f' := (11, [some (vR 88), some (vI 0)], [vI 1], LAY (u (u (u (u (u (u (u (u (shA A) 8 l8) 9 l9) 10 l10) 11 l11) 75 l75) 76 l76) 77 l77) 78 l78) (u (u (shF F) 14 mg) 15 lo), 0, 0)) hc108 0 rfl trivial ?_
      refine R_retz hc108 rfl rfl (Or.inr rfl) ?_
      refine R_s (f' := (5, [some (vR 88), some (vI 0), some (vI p)], [vI 1], LAY (u (u (u (u (u (u (u (u (shA A) 8 l8) 9 l9) 10 l10) 11 l11) 75 l75) 76 l76) 77 l77) 78 l78) (u (u (shF F) 14 mg) 15 lo), 0, 0)) hc152 0 rfl trivial ?_
      refine R_if (t := 16) hc152 rfl rfl (fun (z : 1 = 0) => absurd z (by decide)) (fun (_ : ¬ (1 = 0)) => ?_)
      refine R_s (P := True) (f' := (10, [some (vR 88), some (vI 0), some (vI p)], [vI p, vR 88], LAY (u (u (u (u (u (u (u (u (shA A) 8 l8) 9 l9) 10 l10) 11 l11) 75 l75) 76 l76) 77 l77) 78 l78) (u (u (shF F) 14 mg) 15 lo), 0, 0)) hc152 2 rfl trivial ?_
      refine R_cv hc152 rfl rfl ?_ (fun r G h => h)
      refine R_s (P := inI ((F 3) - 1) ∧ True) (f' := (8, [some (vR 88), some (vI p)], [vI ((F 3) - 1), vI 0, vI p], LAY (u (u (u (u (u (u (u (u (shA A) 8 l8) 9 l9) 10 l10) 11 l11) 75 l75) 76 l76) 77 l77) 78 l78) (u (u (shF F) 14 mg) 15 lo), 0, 0)) hc106 6 rfl ⟨⟨by omega, by omega⟩, trivial⟩ ?_
      refine R_cs hc106 rfl rfl ?_ (fun r G h => h)
      refine R_s (P := True) (f' := (2, [some (vI p), some (vI 0), some (vI ((F 3) - 1))], [vI 0, vI p], LAY (u (u (u (u (u (u (u (u (shA A) 8 l8) 9 l9) 10 l10) 11 l11) 75 l75) 76 l76) 77 l77) 78 l78) (u (u (shF F) 14 mg) 15 lo), 0, 0)) hc104 2 rfl trivial ?_
      refine R_ic (t := 14) hc104 rfl rfl (fun (z : p < 0) => absurd z (by omega)) (fun (_ : ¬ (p < 0)) => ?_)
      refine R_s (P := True) (f' := (7, [some (vI p), some (vI 0), some (vI ((F 3) - 1))], [vI ((F 3) - 1), vI p], LAY (u (u (u (u (u (u (u (u (shA A) 8 l8) 9 l9) 10 l10) 11 l11) 75 l75) 76 l76) 77 l77) 78 l78) (u (u (shF F) 14 mg) 15 lo), 0, 0)) hc104 2 rfl trivial ?_
      refine R_ic (t := 14) hc104 rfl rfl (fun (z : (F 3) - 1 < p) => absurd z (by omega)) (fun (_ : ¬ ((F 3) - 1 < p)) => ?_)
      refine R_s (P := True) (f' := (15, [some (vI p), some (vI 0), some (vI ((F 3) - 1))], [vI 1], LAY (u (u (u (u (u (u (u (u (shA A) 8 l8) 9 l9) 10 l10) 11 l11) 75 l75) 76 l76) 77 l77) 78 l78) (u (u (shF F) 14 mg) 15 lo), 0, 0)) hc104 2 rfl trivial ?_
      refine R_retz hc104 rfl rfl (Or.inr rfl) ?_
      refine R_s (f' := (11, [some (vR 88), some (vI p)], [vI 1], LAY (u (u (u (u (u (u (u (u (shA A) 8 l8) 9 l9) 10 l10) 11 l11) 75 l75) 76 l76) 77 l77) 78 l78) (u (u (shF F) 14 mg) 15 lo), 0, 0)) hc106 0 rfl trivial ?_
      refine R_retz hc106 rfl rfl (Or.inr rfl) ?_
      refine R_s (f' := (13, [some (vR 88), some (vI 0), some (vI p)], [vI 1], LAY (u (u (u (u (u (u (u (u (shA A) 8 l8) 9 l9) 10 l10) 11 l11) 75 l75) 76 l76) 77 l77) 78 l78) (u (u (shF F) 14 mg) 15 lo), 0, 0)) hc152 0 rfl trivial ?_
      refine R_if (t := 23) hc152 rfl rfl (fun (_ : ¬ 1 = 0) => ?_) (fun (z : ¬ (¬ 1 = 0)) => absurd (by decide) z)
      refine R_s (P := True) (f' := (25, [some (vR 88), some (vI 0), some (vI p)], [vI 0, vR 88], LAY (u (u (u (u (u (u (u (u (shA A) 8 l8) 9 l9) 10 l10) 11 l11) 75 l75) 76 l76) 77 l77) 78 l78) (u (u (shF F) 14 mg) 15 lo), 0, 0)) hc152 2 rfl trivial ?_
      refine R_cv hc152 rfl rfl (l_worksR hR0 (A1 := (u (u (u (u (u (u (u (u (shA A) 8 l8) 9 l9) 10 l10) 11 l11) 75 l75) 76 l76) 77 l77) 78 l78)) (F1 := (u (u (shF F) 14 mg) 15 lo)) rfl rfl rfl rfl rfl rfl rfl rfl rfl rfl rfl rfl rfl (hL 104 (by decide)) (hL 105 (by decide)) (hL 107 (by decide)) (hL 108 (by decide)) (hL 109 (by decide)) (hL 110 (by decide)) (hL 111 (by decide)) hD.1 hD.2 rfl hS) (fun r G9 hp9 => ?_)
      obtain ⟨rfl, l104, l105, l107, l108, l109, l110, l111, ac, rfl, k104, k105, k107, k108, k109, k110, k111, hac, w107, w108⟩ := hp9
      have y108 : 0 ≤ p → p < F 3 → rd l108 p = tp (p).toNat := fun q1 q2 => by
        have z := w108 (p).toNat (by omega)
        rw [show ((((p).toNat : Nat)) : Int) = p by omega] at z
        exact z
      refine R_s (f' := (28, [some (vR 88), some (vI 0), some (vI p)], [], LAY (u (u (u (u (u (u (u (u (u (u (u (u (u (u (u (shA A) 8 l8) 9 l9) 10 l10) 11 l11) 75 l75) 76 l76) 77 l77) 78 l78) 109 l109) 104 l104) 105 l105) 110 l110) 111 l111) 108 l108) 107 l107) (u (u (u (u (u (u (shF F) 14 mg) 15 lo) 28 (N_Y A F 0)) 29 ac) 30 mg) 31 lo), 0, 0)) hc152 0 rfl trivial ?_
      refine R_s (P := (0 ≤ p ∧ p < ((l108).length : Int)) ∧ True) (f' := (34, [some (vR 88), some (vI 0), some (vI p)], [vI (rd l108 p)], LAY (u (u (u (u (u (u (u (u (u (u (u (u (u (u (u (shA A) 8 l8) 9 l9) 10 l10) 11 l11) 75 l75) 76 l76) 77 l77) 78 l78) 109 l109) 104 l104) 105 l105) 110 l110) 111 l111) 108 l108) 107 l107) (u (u (u (u (u (u (shF F) 14 mg) 15 lo) 28 (N_Y A F 0)) 29 ac) 30 mg) 31 lo), 0, 0)) hc152 4 rfl ⟨⟨by omega, by omega⟩, trivial⟩ ?_
      refine R_reti hc152 rfl rfl ?_
      first
        | (exfalso; omega; done)
        | exact ⟨(by rw [show rd l108 p = rd l77 p by omega]), (u (u (u (u (u (u (u (u (u (u (u (u (u (u (u A 8 l8) 9 l9) 10 l10) 11 l11) 75 l75) 76 l76) 77 l77) 78 l78) 109 l109) 104 l104) 105 l105) 110 l110) 111 l111) 108 l108) 107 l107), (u (u (u (u (u (u F 14 mg) 15 lo) 28 (N_Y A F 0)) 29 ac) 30 mg) 31 lo), rfl, rfl, ⟨(LENS_u (LENS_u (LENS_u (LENS_u (LENS_u (LENS_u (LENS_u (LENS_u (LENS_u (LENS_u (LENS_u (LENS_u (LENS_u (LENS_u (LENS_u hL (by show (l8).length = (A 8).length; rw [k8, hL 8 (by decide)]; rfl)) (by show (l9).length = (A 9).length; rw [k9, hL 9 (by decide)]; rfl)) (by show (l10).length = (A 10).length; rw [k10, hL 10 (by decide)]; rfl)) (by show (l11).length = (A 11).length; rw [k11, hL 11 (by decide)]; rfl)) (by show (l75).length = (A 75).length; rw [k75, hL 75 (by decide)]; rfl)) (by show (l76).length = (A 76).length; rw [k76, hL 76 (by decide)]; rfl)) (by show (l77).length = (A 77).length; rw [k77, hL 77 (by decide)]; rfl)) (by show (l78).length = (A 78).length; rw [k78, hL 78 (by decide)]; rfl)) (by show (l109).length = (A 109).length; rw [k109, hL 109 (by decide)]; rfl)) (by show (l104).length = (A 104).length; rw [k104, hL 104 (by decide)]; rfl)) (by show (l105).length = (A 105).length; rw [k105, hL 105 (by decide)]; rfl)) (by show (l110).length = (A 110).length; rw [k110, hL 110 (by decide)]; rfl)) (by show (l111).length = (A 111).length; rw [k111, hL 111 (by decide)]; rfl)) (by show (l108).length = (A 108).length; rw [k108, hL 108 (by decide)]; rfl)) (by show (l107).length = (A 107).length; rw [k107, hL 107 (by decide)]; rfl)), hR0.2.1, hR0.2.2.1, hR0.2.2.2.1, hR0.2.2.2.2.1, hR0.2.2.2.2.2.1, hR0.2.2.2.2.2.2.1, hR0.2.2.2.2.2.2.2.1, hR0.2.2.2.2.2.2.2.2.1, (REFU_c hR0.2.2.2.2.2.2.2.2.2)⟩⟩

theorem op_due_1 {c : Int} {A : Nat → List Int} {F : Nat → Int} (hR : REL c A F) (hc : c < 512) (p : Int) (i_p : inI p) (hd : (1 : Int) < F 0) : R 78 (0, L0 78 [vR 1, vI 1, vI p], [], LAY (shA A) (shF F), 0, 0) (fun r G => (∃ x, r = some (vI x)) ∧ (∃ (A1 : Nat → List Int) (F1 : Nat → Int), G = LAY A1 F1 ∧ A1 0 = A 0) ∧ R 152 (0, L0 152 [vR 88, vI 1, vI p], [], G, 0, 0) (fun r2 G2 => r2 = r ∧ ∃ (A' : Nat → List Int) (F' : Nat → Int), G2 = LAY (shA A') (shF F') ∧ A' 0 = A 0 ∧ REL (c + 1) A' F')) := by
  have hR0 := hR
  obtain ⟨hL, hPE, hTH, hTP, hDE, hLE, hNO, hAC, hRO, hRE⟩ := hR
  have j_p := i_p
  unfold inI at j_p
  have h87 : (A 87).length = 9 := hL 87 (by decide)
  have h99 : (A 99).length = 6 := hL 99 (by decide)
  have r2 := REFU_at hRE (k := 2) (by decide) (by decide) hc
  have r3 := REFU_at hRE (k := 3) (by decide) (by decide) hc
  have r4 := REFU_at hRE (k := 4) (by decide) (by decide) hc
  have r5 := REFU_at hRE (k := 5) (by decide) (by decide) hc
  have r6 := REFU_at hRE (k := 6) (by decide) (by decide) hc
  have r7 := REFU_at hRE (k := 7) (by decide) (by decide) hc
  have r8 := REFU_at hRE (k := 8) (by decide) (by decide) hc
  obtain ⟨t1, t2, t3, t4, t5, t6⟩ := hTH
  obtain ⟨p1, p2, p3, p4, p5, p6⟩ := hPE
  have hD := D_at1 hR0 hd
  have he1 := hD.1.1
  have he2 := hD.1.2.1
  have hme : rd (A 99) 1 = F 9 := by
    have := hD.2.2.2.2.1
    omega
  obtain ⟨so, te, tp, mg, pm, lo, hS⟩ := SPL_ex A F (N_al A F) (N_Q A 30) (F 9).toNat (N_Y A F 1)
  refine R_s (P := True) (f' := (2, [some (vR 1), some (vI 1), some (vI p), none], [vI 1, vR 1], LAY (shA A) (shF F), 0, 0)) hc78 2 rfl trivial ?_
  refine R_cv hc78 rfl rfl ?_ (fun r G h => h)
  refine R_s (P := True) (f' := (2, [some (vR 1), some (vI 1)], [vI 1, vR 1], LAY (shA A) (shF F), 0, 0)) hc99 2 rfl trivial ?_
  refine R_cv hc99 rfl rfl ?_ (fun r G h => h)
  refine R_s (P := True) (f' := (1, [some (vR 1), some (vI 1)], [vI 1], LAY (shA A) (shF F), 0, 0)) hc98 1 rfl trivial ?_
  refine R_if (t := 16) hc98 rfl rfl (fun (z : 1 < 0) => absurd z (by decide)) (fun (_ : ¬ (1 < 0)) => ?_)
  refine R_s (P := True) (f' := (9, [some (vR 1), some (vI 1)], [vI (F 0), vI 1], LAY (shA A) (shF F), 0, 0)) hc98 3 rfl trivial ?_
  refine R_ic (t := 16) hc98 rfl rfl (fun (z : F 0 ≤ 1) => absurd z (by omega)) (fun (_ : ¬ (F 0 ≤ 1)) => ?_)
  refine R_s (P := True) (f' := (17, [some (vR 1), some (vI 1)], [vI 1], LAY (shA A) (shF F), 0, 0)) hc98 2 rfl trivial ?_
  refine R_retz hc98 rfl rfl (Or.inr rfl) ?_
  refine R_s (f' := (5, [some (vR 1), some (vI 1)], [vI 1], LAY (shA A) (shF F), 0, 0)) hc99 0 rfl trivial ?_
  refine R_if (t := 17) hc99 rfl rfl (fun (z : 1 = 0) => absurd z (by decide)) (fun (_ : ¬ (1 = 0)) => ?_)
  refine R_s (P := (0 ≤ (1 : Int) ∧ (1 : Int) < (([some 20, some 29, some 38, some 47, some 56, some 65] : List (Option Nat)).length : Int)) ∧ True) (f' := (18, [some (vR 1), some (vI 1)], [vR 29], LAY (shA A) (shF F), 0, 0)) hc99 5 rfl ⟨(by decide), trivial⟩ ?_
  refine R_reta hc99 rfl rfl ?_
  refine R_s (f' := (5, [some (vR 1), some (vI 1), some (vI p), none], [vR 29], LAY (shA A) (shF F), 0, 0)) hc78 0 rfl trivial ?_
  refine R_s (P := True) (f' := (15, [some (vR 1), some (vI 1), some (vI p), some (vR 29)], [vI p, vR 2], LAY (shA A) (shF F), 0, 0)) hc78 6 rfl trivial ?_
  refine R_cv hc78 rfl rfl ?_ (fun r G h => h)
  refine R_s (P := True) (f' := (1, [some (vR 2), some (vI p)], [vI p], LAY (shA A) (shF F), 0, 0)) hc5 1 rfl trivial ?_
  refine R_if (t := 16) hc5 rfl rfl (fun (c4 : p < 0) => ?_) (fun (c4 : ¬ (p < 0)) => ?_)
  · refine R_s (P := True) (f' := (17, [some (vR 2), some (vI p)], [vI 0], LAY (shA A) (shF F), 0, 0)) hc5 1 rfl trivial ?_
    refine R_retz hc5 rfl rfl (Or.inl rfl) ?_
    refine R_s (f' := (18, [some (vR 1), some (vI 1), some (vI p), some (vR 29)], [vI 0], LAY (shA A) (shF F), 0, 0)) hc78 0 rfl trivial ?_
    refine R_if (t := 28) hc78 rfl rfl (fun (z : ¬ 0 = 0) => absurd z (by decide)) (fun (_ : ¬ (¬ 0 = 0)) => ?_)
    refine R_s (P := True) (f' := (24, [some (vR 1), some (vI 1), some (vI p), some (vR 29)], [vI (-3), vR 1], LAY (shA A) (shF F), 0, 0)) hc78 2 rfl trivial ?_
    refine R_cv hc78 rfl rfl ?_ (fun r G h => h)
    refine R_s (P := True) (f' := (3, [some (vR 1), some (vI (-3))], [vI (-2), vI (-3)], LAY (shA A) (shF F), 0, 0)) hc93 2 rfl trivial ?_
    refine R_ic (t := 23) hc93 rfl rfl (fun (z : (-2) < (-3)) => absurd z (by decide)) (fun (_ : ¬ ((-2) < (-3))) => ?_)
    refine R_s (P := True) (f' := (9, [some (vR 1), some (vI (-3))], [vI (-8), vI (-3)], LAY (shA A) (shF F), 0, 0)) hc93 2 rfl trivial ?_
    refine R_ic (t := 23) hc93 rfl rfl (fun (z : (-3) < (-8)) => absurd z (by decide)) (fun (_ : ¬ ((-3) < (-8))) => ?_)
    refine R_s (P := inI 3 ∧ (0 ≤ 3 ∧ 3 < ((A 87).length : Int)) ∧ inI ((rd (A 87) 3) + 1) ∧ (0 ≤ 3 ∧ 3 < ((A 87).length : Int)) ∧ True) (f' := (24, [some (vR 1), some (vI (-3))], [vI (-3)], LAY (u (shA A) 87 (wr (A 87) 3 ((rd (A 87) 3) + 1))) (shF F), 0, 0)) hc93 10 rfl ⟨⟨by omega, by omega⟩, ⟨by omega, by omega⟩, ⟨by omega, by omega⟩, ⟨by omega, by omega⟩, trivial⟩ ?_
    refine R_reti hc93 rfl rfl ?_
    refine R_s (f' := (27, [some (vR 1), some (vI 1), some (vI p), some (vR 29)], [vI (-3)], LAY (u (shA A) 87 (wr (A 87) 3 ((rd (A 87) 3) + 1))) (shF F), 0, 0)) hc78 0 rfl trivial ?_
    refine R_reti hc78 rfl rfl ⟨⟨_, rfl⟩, ⟨_, _, rfl, rfl⟩, ?_⟩
    refine R_s (P := True) (f' := (2, [some (vR 88), some (vI 1), some (vI p)], [vI 1, vR 88], LAY (u (shA A) 87 (wr (A 87) 3 ((rd (A 87) 3) + 1))) (shF F), 0, 0)) hc152 2 rfl trivial ?_
    refine R_cv hc152 rfl rfl ?_ (fun r G h => h)
    refine R_s (P := inI ((F 0) - 1) ∧ True) (f' := (8, [some (vR 88), some (vI 1)], [vI ((F 0) - 1), vI 0, vI 1], LAY (u (shA A) 87 (wr (A 87) 3 ((rd (A 87) 3) + 1))) (shF F), 0, 0)) hc108 6 rfl ⟨⟨by omega, by omega⟩, trivial⟩ ?_
    refine R_cs hc108 rfl rfl ?_ (fun r G h => h)
    refine R_s (P := True) (f' := (2, [some (vI 1), some (vI 0), some (vI ((F 0) - 1))], [vI 0, vI 1], LAY (u (shA A) 87 (wr (A 87) 3 ((rd (A 87) 3) + 1))) (shF F), 0, 0)) hc104 2 rfl trivial ?_
    refine R_ic (t := 14) hc104 rfl rfl (fun (z : 1 < 0) => absurd z (by decide)) (fun (_ : ¬ (1 < 0)) => ?_)
    refine R_s (P := True) (f' := (7, [some (vI 1), some (vI 0), some (vI ((F 0) - 1))], [vI ((F 0) - 1), vI 1], LAY (u (shA A) 87 (wr (A 87) 3 ((rd (A 87) 3) + 1))) (shF F), 0, 0)) hc104 2 rfl trivial ?_
    refine R_ic (t := 14) hc104 rfl rfl (fun (z : (F 0) - 1 < 1) => absurd z (by omega)) (fun (_ : ¬ ((F 0) - 1 < 1)) => ?_)
    refine R_s (P := True) (f' := (15, [some (vI 1), some (vI 0), some (vI ((F 0) - 1))], [vI 1], LAY (u (shA A) 87 (wr (A 87) 3 ((rd (A 87) 3) + 1))) (shF F), 0, 0)) hc104 2 rfl trivial ?_
    refine R_retz hc104 rfl rfl (Or.inr rfl) ?_
    refine R_s (f' := (11, [some (vR 88), some (vI 1)], [vI 1], LAY (u (shA A) 87 (wr (A 87) 3 ((rd (A 87) 3) + 1))) (shF F), 0, 0)) hc108 0 rfl trivial ?_
    refine R_retz hc108 rfl rfl (Or.inr rfl) ?_
    refine R_s (f' := (5, [some (vR 88), some (vI 1), some (vI p)], [vI 1], LAY (u (shA A) 87 (wr (A 87) 3 ((rd (A 87) 3) + 1))) (shF F), 0, 0)) hc152 0 rfl trivial ?_
    refine R_if (t := 16) hc152 rfl rfl (fun (z : 1 = 0) => absurd z (by decide)) (fun (_ : ¬ (1 = 0)) => ?_)
    refine R_s (P := True) (f' := (10, [some (vR 88), some (vI 1), some (vI p)], [vI p, vR 88], LAY (u (shA A) 87 (wr (A 87) 3 ((rd (A 87) 3) + 1))) (shF F), 0, 0)) hc152 2 rfl trivial ?_
    refine R_cv hc152 rfl rfl ?_ (fun r G h => h)
    refine R_s (P := inI ((F 3) - 1) ∧ True) (f' := (8, [some (vR 88), some (vI p)], [vI ((F 3) - 1), vI 0, vI p], LAY (u (shA A) 87 (wr (A 87) 3 ((rd (A 87) 3) + 1))) (shF F), 0, 0)) hc106 6 rfl ⟨⟨by omega, by omega⟩, trivial⟩ ?_
    refine R_cs hc106 rfl rfl ?_ (fun r G h => h)
    refine R_s (P := True) (f' := (2, [some (vI p), some (vI 0), some (vI ((F 3) - 1))], [vI 0, vI p], LAY (u (shA A) 87 (wr (A 87) 3 ((rd (A 87) 3) + 1))) (shF F), 0, 0)) hc104 2 rfl trivial ?_
    refine R_ic (t := 14) hc104 rfl rfl (fun (_ : p < 0) => ?_) (fun (z : ¬ (p < 0)) => absurd (show p < 0 by omega) z)
    refine R_s (P := True) (f' := (15, [some (vI p), some (vI 0), some (vI ((F 3) - 1))], [vI 0], LAY (u (shA A) 87 (wr (A 87) 3 ((rd (A 87) 3) + 1))) (shF F), 0, 0)) hc104 1 rfl trivial ?_
    refine R_retz hc104 rfl rfl (Or.inl rfl) ?_
    refine R_s (f' := (11, [some (vR 88), some (vI p)], [vI 0], LAY (u (shA A) 87 (wr (A 87) 3 ((rd (A 87) 3) + 1))) (shF F), 0, 0)) hc106 0 rfl trivial ?_
    refine R_retz hc106 rfl rfl (Or.inl rfl) ?_
    refine R_s (f' := (13, [some (vR 88), some (vI 1), some (vI p)], [vI 0], LAY (u (shA A) 87 (wr (A 87) 3 ((rd (A 87) 3) + 1))) (shF F), 0, 0)) hc152 0 rfl trivial ?_
    refine R_if (t := 23) hc152 rfl rfl (fun (z : ¬ 0 = 0) => absurd z (by decide)) (fun (_ : ¬ (¬ 0 = 0)) => ?_)
    refine R_s (P := True) (f' := (19, [some (vR 88), some (vI 1), some (vI p)], [vI (-3), vR 88], LAY (u (shA A) 87 (wr (A 87) 3 ((rd (A 87) 3) + 1))) (shF F), 0, 0)) hc152 2 rfl trivial ?_
    refine R_cv hc152 rfl rfl ?_ (fun r G h => h)
    refine R_s (P := inI 3 ∧ (0 ≤ 3 ∧ 3 < ((A 87).length : Int)) ∧ inI ((rd (A 87) 3) + 1) ∧ (0 ≤ 3 ∧ 3 < ((A 87).length : Int)) ∧ True) (f' := (12, [some (vR 88), some (vI (-3))], [vI (-3)], LAY (u (u (shA A) 87 (wr (A 87) 3 ((rd (A 87) 3) + 1))) 89 (wr (A 87) 3 ((rd (A 87) 3) + 1))) (shF F), 0, 0)) hc105 10 rfl ⟨⟨by omega, by omega⟩, ⟨by omega, by omega⟩, ⟨by omega, by omega⟩, ⟨by omega, by omega⟩, trivial⟩ ?_
    refine R_reti hc105 rfl rfl ?_
    refine R_s (f' := (22, [some (vR 88), some (vI 1), some (vI p)], [vI (-3)], LAY (u (u (shA A) 87 (wr (A 87) 3 ((rd (A 87) 3) + 1))) 89 (wr (A 87) 3 ((rd (A 87) 3) + 1))) (shF F), 0, 0)) hc152 0 rfl trivial ?_
    refine R_reti hc152 rfl rfl ?_
    first
      | (exfalso; omega; done)
      | exact ⟨rfl, (u A 87 (wr (A 87) 3 ((rd (A 87) 3) + 1))), F, rfl, rfl, REL_ref hR0 (by decide) (by decide)⟩
  · refine R_s (P := True) (f' := (9, [some (vR 2), some (vI p)], [vI (F 3), vI p], LAY (shA A) (shF F), 0, 0)) hc5 3 rfl trivial ?_
    refine R_ic (t := 16) hc5 rfl rfl (fun (c5 : F 3 ≤ p) => ?_) (fun (c5 : ¬ (F 3 ≤ p)) => ?_)
    · refine R_s (P := True) (f' := (17, [some (vR 2), some (vI p)], [vI 0], LAY (shA A) (shF F), 0, 0)) hc5 1 rfl trivial ?_
      refine R_retz hc5 rfl rfl (Or.inl rfl) ?_
      refine R_s (f' := (18, [some (vR 1), some (vI 1), some (vI p), some (vR 29)], [vI 0], LAY (shA A) (shF F), 0, 0)) hc78 0 rfl trivial ?_
      refine R_if (t := 28) hc78 rfl rfl (fun (z : ¬ 0 = 0) => absurd z (by decide)) (fun (_ : ¬ (¬ 0 = 0)) => ?_)
      refine R_s (P := True) (f' := (24, [some (vR 1), some (vI 1), some (vI p), some (vR 29)], [vI (-3), vR 1], LAY (shA A) (shF F), 0, 0)) hc78 2 rfl trivial ?_
      refine R_cv hc78 rfl rfl ?_ (fun r G h => h)
      refine R_s (P := True) (f' := (3, [some (vR 1), some (vI (-3))], [vI (-2), vI (-3)], LAY (shA A) (shF F), 0, 0)) hc93 2 rfl trivial ?_
      refine R_ic (t := 23) hc93 rfl rfl (fun (z : (-2) < (-3)) => absurd z (by decide)) (fun (_ : ¬ ((-2) < (-3))) => ?_)
      refine R_s (P := True) (f' := (9, [some (vR 1), some (vI (-3))], [vI (-8), vI (-3)], LAY (shA A) (shF F), 0, 0)) hc93 2 rfl trivial ?_
      refine R_ic (t := 23) hc93 rfl rfl (fun (z : (-3) < (-8)) => absurd z (by decide)) (fun (_ : ¬ ((-3) < (-8))) => ?_)
      refine R_s (P := inI 3 ∧ (0 ≤ 3 ∧ 3 < ((A 87).length : Int)) ∧ inI ((rd (A 87) 3) + 1) ∧ (0 ≤ 3 ∧ 3 < ((A 87).length : Int)) ∧ True) (f' := (24, [some (vR 1), some (vI (-3))], [vI (-3)], LAY (u (shA A) 87 (wr (A 87) 3 ((rd (A 87) 3) + 1))) (shF F), 0, 0)) hc93 10 rfl ⟨⟨by omega, by omega⟩, ⟨by omega, by omega⟩, ⟨by omega, by omega⟩, ⟨by omega, by omega⟩, trivial⟩ ?_
      refine R_reti hc93 rfl rfl ?_
      refine R_s (f' := (27, [some (vR 1), some (vI 1), some (vI p), some (vR 29)], [vI (-3)], LAY (u (shA A) 87 (wr (A 87) 3 ((rd (A 87) 3) + 1))) (shF F), 0, 0)) hc78 0 rfl trivial ?_
      refine R_reti hc78 rfl rfl ⟨⟨_, rfl⟩, ⟨_, _, rfl, rfl⟩, ?_⟩
      refine R_s (P := True) (f' := (2, [some (vR 88), some (vI 1), some (vI p)], [vI 1, vR 88], LAY (u (shA A) 87 (wr (A 87) 3 ((rd (A 87) 3) + 1))) (shF F), 0, 0)) hc152 2 rfl trivial ?_
      refine R_cv hc152 rfl rfl ?_ (fun r G h => h)
      refine R_s (P := inI ((F 0) - 1) ∧ True) (f' := (8, [some (vR 88), some (vI 1)], [vI ((F 0) - 1), vI 0, vI 1], LAY (u (shA A) 87 (wr (A 87) 3 ((rd (A 87) 3) + 1))) (shF F), 0, 0)) hc108 6 rfl ⟨⟨by omega, by omega⟩, trivial⟩ ?_
      refine R_cs hc108 rfl rfl ?_ (fun r G h => h)
      refine R_s (P := True) (f' := (2, [some (vI 1), some (vI 0), some (vI ((F 0) - 1))], [vI 0, vI 1], LAY (u (shA A) 87 (wr (A 87) 3 ((rd (A 87) 3) + 1))) (shF F), 0, 0)) hc104 2 rfl trivial ?_
      refine R_ic (t := 14) hc104 rfl rfl (fun (z : 1 < 0) => absurd z (by decide)) (fun (_ : ¬ (1 < 0)) => ?_)
      refine R_s (P := True) (f' := (7, [some (vI 1), some (vI 0), some (vI ((F 0) - 1))], [vI ((F 0) - 1), vI 1], LAY (u (shA A) 87 (wr (A 87) 3 ((rd (A 87) 3) + 1))) (shF F), 0, 0)) hc104 2 rfl trivial ?_
      refine R_ic (t := 14) hc104 rfl rfl (fun (z : (F 0) - 1 < 1) => absurd z (by omega)) (fun (_ : ¬ ((F 0) - 1 < 1)) => ?_)
      refine R_s (P := True) (f' := (15, [some (vI 1), some (vI 0), some (vI ((F 0) - 1))], [vI 1], LAY (u (shA A) 87 (wr (A 87) 3 ((rd (A 87) 3) + 1))) (shF F), 0, 0)) hc104 2 rfl trivial ?_
      refine R_retz hc104 rfl rfl (Or.inr rfl) ?_
      refine R_s (f' := (11, [some (vR 88), some (vI 1)], [vI 1], LAY (u (shA A) 87 (wr (A 87) 3 ((rd (A 87) 3) + 1))) (shF F), 0, 0)) hc108 0 rfl trivial ?_
      refine R_retz hc108 rfl rfl (Or.inr rfl) ?_
      refine R_s (f' := (5, [some (vR 88), some (vI 1), some (vI p)], [vI 1], LAY (u (shA A) 87 (wr (A 87) 3 ((rd (A 87) 3) + 1))) (shF F), 0, 0)) hc152 0 rfl trivial ?_
      refine R_if (t := 16) hc152 rfl rfl (fun (z : 1 = 0) => absurd z (by decide)) (fun (_ : ¬ (1 = 0)) => ?_)
      refine R_s (P := True) (f' := (10, [some (vR 88), some (vI 1), some (vI p)], [vI p, vR 88], LAY (u (shA A) 87 (wr (A 87) 3 ((rd (A 87) 3) + 1))) (shF F), 0, 0)) hc152 2 rfl trivial ?_
      refine R_cv hc152 rfl rfl ?_ (fun r G h => h)
      refine R_s (P := inI ((F 3) - 1) ∧ True) (f' := (8, [some (vR 88), some (vI p)], [vI ((F 3) - 1), vI 0, vI p], LAY (u (shA A) 87 (wr (A 87) 3 ((rd (A 87) 3) + 1))) (shF F), 0, 0)) hc106 6 rfl ⟨⟨by omega, by omega⟩, trivial⟩ ?_
      refine R_cs hc106 rfl rfl ?_ (fun r G h => h)
      refine R_s (P := True) (f' := (2, [some (vI p), some (vI 0), some (vI ((F 3) - 1))], [vI 0, vI p], LAY (u (shA A) 87 (wr (A 87) 3 ((rd (A 87) 3) + 1))) (shF F), 0, 0)) hc104 2 rfl trivial ?_
      refine R_ic (t := 14) hc104 rfl rfl (fun (z : p < 0) => absurd z (by omega)) (fun (_ : ¬ (p < 0)) => ?_)
      refine R_s (P := True) (f' := (7, [some (vI p), some (vI 0), some (vI ((F 3) - 1))], [vI ((F 3) - 1), vI p], LAY (u (shA A) 87 (wr (A 87) 3 ((rd (A 87) 3) + 1))) (shF F), 0, 0)) hc104 2 rfl trivial ?_
      refine R_ic (t := 14) hc104 rfl rfl (fun (_ : (F 3) - 1 < p) => ?_) (fun (z : ¬ ((F 3) - 1 < p)) => absurd (show (F 3) - 1 < p by omega) z)
      refine R_s (P := True) (f' := (15, [some (vI p), some (vI 0), some (vI ((F 3) - 1))], [vI 0], LAY (u (shA A) 87 (wr (A 87) 3 ((rd (A 87) 3) + 1))) (shF F), 0, 0)) hc104 1 rfl trivial ?_
      refine R_retz hc104 rfl rfl (Or.inl rfl) ?_
      refine R_s (f' := (11, [some (vR 88), some (vI p)], [vI 0], LAY (u (shA A) 87 (wr (A 87) 3 ((rd (A 87) 3) + 1))) (shF F), 0, 0)) hc106 0 rfl trivial ?_
      refine R_retz hc106 rfl rfl (Or.inl rfl) ?_
      refine R_s (f' := (13, [some (vR 88), some (vI 1), some (vI p)], [vI 0], LAY (u (shA A) 87 (wr (A 87) 3 ((rd (A 87) 3) + 1))) (shF F), 0, 0)) hc152 0 rfl trivial ?_
      refine R_if (t := 23) hc152 rfl rfl (fun (z : ¬ 0 = 0) => absurd z (by decide)) (fun (_ : ¬ (¬ 0 = 0)) => ?_)
      refine R_s (P := True) (f' := (19, [some (vR 88), some (vI 1), some (vI p)], [vI (-3), vR 88], LAY (u (shA A) 87 (wr (A 87) 3 ((rd (A 87) 3) + 1))) (shF F), 0, 0)) hc152 2 rfl trivial ?_
      refine R_cv hc152 rfl rfl ?_ (fun r G h => h)
      refine R_s (P := inI 3 ∧ (0 ≤ 3 ∧ 3 < ((A 87).length : Int)) ∧ inI ((rd (A 87) 3) + 1) ∧ (0 ≤ 3 ∧ 3 < ((A 87).length : Int)) ∧ True) (f' := (12, [some (vR 88), some (vI (-3))], [vI (-3)], LAY (u (u (shA A) 87 (wr (A 87) 3 ((rd (A 87) 3) + 1))) 89 (wr (A 87) 3 ((rd (A 87) 3) + 1))) (shF F), 0, 0)) hc105 10 rfl ⟨⟨by omega, by omega⟩, ⟨by omega, by omega⟩, ⟨by omega, by omega⟩, ⟨by omega, by omega⟩, trivial⟩ ?_
      refine R_reti hc105 rfl rfl ?_
      refine R_s (f' := (22, [some (vR 88), some (vI 1), some (vI p)], [vI (-3)], LAY (u (u (shA A) 87 (wr (A 87) 3 ((rd (A 87) 3) + 1))) 89 (wr (A 87) 3 ((rd (A 87) 3) + 1))) (shF F), 0, 0)) hc152 0 rfl trivial ?_
      refine R_reti hc152 rfl rfl ?_
      first
        | (exfalso; omega; done)
        | exact ⟨rfl, (u A 87 (wr (A 87) 3 ((rd (A 87) 3) + 1))), F, rfl, rfl, REL_ref hR0 (by decide) (by decide)⟩
    · refine R_s (P := True) (f' := (17, [some (vR 2), some (vI p)], [vI 1], LAY (shA A) (shF F), 0, 0)) hc5 2 rfl trivial ?_
      refine R_retz hc5 rfl rfl (Or.inr rfl) ?_
      refine R_s (f' := (18, [some (vR 1), some (vI 1), some (vI p), some (vR 29)], [vI 1], LAY (shA A) (shF F), 0, 0)) hc78 0 rfl trivial ?_
      refine R_if (t := 28) hc78 rfl rfl (fun (_ : ¬ 1 = 0) => ?_) (fun (z : ¬ (¬ 1 = 0)) => absurd (by decide) z)
      refine R_s (P := True) (f' := (31, [some (vR 1), some (vI 1), some (vI p), some (vR 29)], [vI 1, vR 29, vR 1], LAY (shA A) (shF F), 0, 0)) hc78 3 rfl trivial ?_
      refine R_cv hc78 rfl rfl (l_now1 hR0 hd hS) (fun r G9 hp9 => ?_)
      obtain ⟨rfl, l8, l9, l10, l11, l75, l76, l77, l78, rfl, k8, k9, k10, k11, k75, k76, k77, k78, v75, v76, v77⟩ := hp9
      have y77 : 0 ≤ p → p < F 3 → rd l77 p = tp (p).toNat := fun q1 q2 => by
        have z := v77 (p).toNat (by omega)
        rw [show ((((p).toNat : Nat)) : Int) = p by omega] at z
        exact z
      refine R_s (f' := (34, [some (vR 1), some (vI 1), some (vI p), some (vR 29)], [], LAY (u (u (u (u (u (u (u (u (shA A) 8 l8) 9 l9) 10 l10) 11 l11) 75 l75) 76 l76) 77 l77) 78 l78) (u (u (shF F) 14 mg) 15 lo), 0, 0)) hc78 0 rfl trivial ?_
      refine R_s (P := (0 ≤ p ∧ p < ((l77).length : Int)) ∧ True) (f' := (43, [some (vR 1), some (vI 1), some (vI p), some (vR 29)], [vI (rd l77 p)], LAY (u (u (u (u (u (u (u (u (shA A) 8 l8) 9 l9) 10 l10) 11 l11) 75 l75) 76 l76) 77 l77) 78 l78) (u (u (shF F) 14 mg) 15 lo), 0, 0)) hc78 5 rfl ⟨⟨by omega, by omega⟩, trivial⟩ ?_
      refine R_reti hc78 rfl rfl ⟨⟨_, rfl⟩, ⟨_, _, rfl, rfl⟩, ?_⟩
      refine R_s (P := True) (f' := (2, [some (vR 88), some (vI 1), some (vI p)], [vI 1, vR 88], LAY (u (u (u (u (u (u (u (u (shA A) 8 l8) 9 l9) 10 l10) 11 l11) 75 l75) 76 l76) 77 l77) 78 l78) (u (u (shF F) 14 mg) 15 lo), 0, 0)) hc152 2 rfl trivial ?_
      refine R_cv hc152 rfl rfl ?_ (fun r G h => h)
      refine R_s (P := inI ((F 0) - 1) ∧ True) (f' := (8, [some (vR 88), some (vI 1)], [vI ((F 0) - 1), vI 0, vI 1], LAY (u (u (u (u (u (u (u (u (shA A) 8 l8) 9 l9) 10 l10) 11 l11) 75 l75) 76 l76) 77 l77) 78 l78) (u (u (shF F) 14 mg) 15 lo), 0, 0)) hc108 6 rfl ⟨⟨by omega, by omega⟩, trivial⟩ ?_
      refine R_cs hc108 rfl rfl ?_ (fun r G h => h)
      refine R_s (P := True) (f' := (2, [some (vI 1), some (vI 0), some (vI ((F 0) - 1))], [vI 0, vI 1], LAY (u (u (u (u (u (u (u (u (shA A) 8 l8) 9 l9) 10 l10) 11 l11) 75 l75) 76 l76) 77 l77) 78 l78) (u (u (shF F) 14 mg) 15 lo), 0, 0)) hc104 2 rfl trivial ?_
      refine R_ic (t := 14) hc104 rfl rfl (fun (z : 1 < 0) => absurd z (by decide)) (fun (_ : ¬ (1 < 0)) => ?_)
      refine R_s (P := True) (f' := (7, [some (vI 1), some (vI 0), some (vI ((F 0) - 1))], [vI ((F 0) - 1), vI 1], LAY (u (u (u (u (u (u (u (u (shA A) 8 l8) 9 l9) 10 l10) 11 l11) 75 l75) 76 l76) 77 l77) 78 l78) (u (u (shF F) 14 mg) 15 lo), 0, 0)) hc104 2 rfl trivial ?_
      refine R_ic (t := 14) hc104 rfl rfl (fun (z : (F 0) - 1 < 1) => absurd z (by omega)) (fun (_ : ¬ ((F 0) - 1 < 1)) => ?_)
      refine R_s (P := True) (f' := (15, [some (vI 1), some (vI 0), some (vI ((F 0) - 1))], [vI 1], LAY (u (u (u (u (u (u (u (u (shA A) 8 l8) 9 l9) 10 l10) 11 l11) 75 l75) 76 l76) 77 l77) 78 l78) (u (u (shF F) 14 mg) 15 lo), 0, 0)) hc104 2 rfl trivial ?_
      refine R_retz hc104 rfl rfl (Or.inr rfl) ?_
      refine R_s (f' := (11, [some (vR 88), some (vI 1)], [vI 1], LAY (u (u (u (u (u (u (u (u (shA A) 8 l8) 9 l9) 10 l10) 11 l11) 75 l75) 76 l76) 77 l77) 78 l78) (u (u (shF F) 14 mg) 15 lo), 0, 0)) hc108 0 rfl trivial ?_
      refine R_retz hc108 rfl rfl (Or.inr rfl) ?_
      refine R_s (f' := (5, [some (vR 88), some (vI 1), some (vI p)], [vI 1], LAY (u (u (u (u (u (u (u (u (shA A) 8 l8) 9 l9) 10 l10) 11 l11) 75 l75) 76 l76) 77 l77) 78 l78) (u (u (shF F) 14 mg) 15 lo), 0, 0)) hc152 0 rfl trivial ?_
      refine R_if (t := 16) hc152 rfl rfl (fun (z : 1 = 0) => absurd z (by decide)) (fun (_ : ¬ (1 = 0)) => ?_)
      refine R_s (P := True) (f' := (10, [some (vR 88), some (vI 1), some (vI p)], [vI p, vR 88], LAY (u (u (u (u (u (u (u (u (shA A) 8 l8) 9 l9) 10 l10) 11 l11) 75 l75) 76 l76) 77 l77) 78 l78) (u (u (shF F) 14 mg) 15 lo), 0, 0)) hc152 2 rfl trivial ?_
      refine R_cv hc152 rfl rfl ?_ (fun r G h => h)
      refine R_s (P := inI ((F 3) - 1) ∧ True) (f' := (8, [some (vR 88), some (vI p)], [vI ((F 3) - 1), vI 0, vI p], LAY (u (u (u (u (u (u (u (u (shA A) 8 l8) 9 l9) 10 l10) 11 l11) 75 l75) 76 l76) 77 l77) 78 l78) (u (u (shF F) 14 mg) 15 lo), 0, 0)) hc106 6 rfl ⟨⟨by omega, by omega⟩, trivial⟩ ?_
      refine R_cs hc106 rfl rfl ?_ (fun r G h => h)
      refine R_s (P := True) (f' := (2, [some (vI p), some (vI 0), some (vI ((F 3) - 1))], [vI 0, vI p], LAY (u (u (u (u (u (u (u (u (shA A) 8 l8) 9 l9) 10 l10) 11 l11) 75 l75) 76 l76) 77 l77) 78 l78) (u (u (shF F) 14 mg) 15 lo), 0, 0)) hc104 2 rfl trivial ?_
      refine R_ic (t := 14) hc104 rfl rfl (fun (z : p < 0) => absurd z (by omega)) (fun (_ : ¬ (p < 0)) => ?_)
      refine R_s (P := True) (f' := (7, [some (vI p), some (vI 0), some (vI ((F 3) - 1))], [vI ((F 3) - 1), vI p], LAY (u (u (u (u (u (u (u (u (shA A) 8 l8) 9 l9) 10 l10) 11 l11) 75 l75) 76 l76) 77 l77) 78 l78) (u (u (shF F) 14 mg) 15 lo), 0, 0)) hc104 2 rfl trivial ?_
      refine R_ic (t := 14) hc104 rfl rfl (fun (z : (F 3) - 1 < p) => absurd z (by omega)) (fun (_ : ¬ ((F 3) - 1 < p)) => ?_)
      refine R_s (P := True) (f' := (15, [some (vI p), some (vI 0), some (vI ((F 3) - 1))], [vI 1], LAY (u (u (u (u (u (u (u (u (shA A) 8 l8) 9 l9) 10 l10) 11 l11) 75 l75) 76 l76) 77 l77) 78 l78) (u (u (shF F) 14 mg) 15 lo), 0, 0)) hc104 2 rfl trivial ?_
      refine R_retz hc104 rfl rfl (Or.inr rfl) ?_
      refine R_s (f' := (11, [some (vR 88), some (vI p)], [vI 1], LAY (u (u (u (u (u (u (u (u (shA A) 8 l8) 9 l9) 10 l10) 11 l11) 75 l75) 76 l76) 77 l77) 78 l78) (u (u (shF F) 14 mg) 15 lo), 0, 0)) hc106 0 rfl trivial ?_
      refine R_retz hc106 rfl rfl (Or.inr rfl) ?_
      refine R_s (f' := (13, [some (vR 88), some (vI 1), some (vI p)], [vI 1], LAY (u (u (u (u (u (u (u (u (shA A) 8 l8) 9 l9) 10 l10) 11 l11) 75 l75) 76 l76) 77 l77) 78 l78) (u (u (shF F) 14 mg) 15 lo), 0, 0)) hc152 0 rfl trivial ?_
      refine R_if (t := 23) hc152 rfl rfl (fun (_ : ¬ 1 = 0) => ?_) (fun (z : ¬ (¬ 1 = 0)) => absurd (by decide) z)
      refine R_s (P := True) (f' := (25, [some (vR 88), some (vI 1), some (vI p)], [vI 1, vR 88], LAY (u (u (u (u (u (u (u (u (shA A) 8 l8) 9 l9) 10 l10) 11 l11) 75 l75) 76 l76) 77 l77) 78 l78) (u (u (shF F) 14 mg) 15 lo), 0, 0)) hc152 2 rfl trivial ?_
      refine R_cv hc152 rfl rfl (l_worksR hR0 (A1 := (u (u (u (u (u (u (u (u (shA A) 8 l8) 9 l9) 10 l10) 11 l11) 75 l75) 76 l76) 77 l77) 78 l78)) (F1 := (u (u (shF F) 14 mg) 15 lo)) rfl rfl rfl rfl rfl rfl rfl rfl rfl rfl rfl rfl rfl (hL 104 (by decide)) (hL 105 (by decide)) (hL 107 (by decide)) (hL 108 (by decide)) (hL 109 (by decide)) (hL 110 (by decide)) (hL 111 (by decide)) hD.1 hD.2 rfl hS) (fun r G9 hp9 => ?_)
      obtain ⟨rfl, l104, l105, l107, l108, l109, l110, l111, ac, rfl, k104, k105, k107, k108, k109, k110, k111, hac, w107, w108⟩ := hp9
      have y108 : 0 ≤ p → p < F 3 → rd l108 p = tp (p).toNat := fun q1 q2 => by
        have z := w108 (p).toNat (by omega)
        rw [show ((((p).toNat : Nat)) : Int) = p by omega] at z
        exact z
      refine R_s (f' := (28, [some (vR 88), some (vI 1), some (vI p)], [], LAY (u (u (u (u (u (u (u (u (u (u (u (u (u (u (u (shA A) 8 l8) 9 l9) 10 l10) 11 l11) 75 l75) 76 l76) 77 l77) 78 l78) 109 l109) 104 l104) 105 l105) 110 l110) 111 l111) 108 l108) 107 l107) (u (u (u (u (u (u (shF F) 14 mg) 15 lo) 28 (N_Y A F 1)) 29 ac) 30 mg) 31 lo), 0, 0)) hc152 0 rfl trivial ?_
      refine R_s (P := (0 ≤ p ∧ p < ((l108).length : Int)) ∧ True) (f' := (34, [some (vR 88), some (vI 1), some (vI p)], [vI (rd l108 p)], LAY (u (u (u (u (u (u (u (u (u (u (u (u (u (u (u (shA A) 8 l8) 9 l9) 10 l10) 11 l11) 75 l75) 76 l76) 77 l77) 78 l78) 109 l109) 104 l104) 105 l105) 110 l110) 111 l111) 108 l108) 107 l107) (u (u (u (u (u (u (shF F) 14 mg) 15 lo) 28 (N_Y A F 1)) 29 ac) 30 mg) 31 lo), 0, 0)) hc152 4 rfl ⟨⟨by omega, by omega⟩, trivial⟩ ?_
      refine R_reti hc152 rfl rfl ?_
      first
        | (exfalso; omega; done)
        | exact ⟨(by rw [show rd l108 p = rd l77 p by omega]), (u (u (u (u (u (u (u (u (u (u (u (u (u (u (u A 8 l8) 9 l9) 10 l10) 11 l11) 75 l75) 76 l76) 77 l77) 78 l78) 109 l109) 104 l104) 105 l105) 110 l110) 111 l111) 108 l108) 107 l107), (u (u (u (u (u (u F 14 mg) 15 lo) 28 (N_Y A F 1)) 29 ac) 30 mg) 31 lo), rfl, rfl, ⟨(LENS_u (LENS_u (LENS_u (LENS_u (LENS_u (LENS_u (LENS_u (LENS_u (LENS_u (LENS_u (LENS_u (LENS_u (LENS_u (LENS_u (LENS_u hL (by show (l8).length = (A 8).length; rw [k8, hL 8 (by decide)]; rfl)) (by show (l9).length = (A 9).length; rw [k9, hL 9 (by decide)]; rfl)) (by show (l10).length = (A 10).length; rw [k10, hL 10 (by decide)]; rfl)) (by show (l11).length = (A 11).length; rw [k11, hL 11 (by decide)]; rfl)) (by show (l75).length = (A 75).length; rw [k75, hL 75 (by decide)]; rfl)) (by show (l76).length = (A 76).length; rw [k76, hL 76 (by decide)]; rfl)) (by show (l77).length = (A 77).length; rw [k77, hL 77 (by decide)]; rfl)) (by show (l78).length = (A 78).length; rw [k78, hL 78 (by decide)]; rfl)) (by show (l109).length = (A 109).length; rw [k109, hL 109 (by decide)]; rfl)) (by show (l104).length = (A 104).length; rw [k104, hL 104 (by decide)]; rfl)) (by show (l105).length = (A 105).length; rw [k105, hL 105 (by decide)]; rfl)) (by show (l110).length = (A 110).length; rw [k110, hL 110 (by decide)]; rfl)) (by show (l111).length = (A 111).length; rw [k111, hL 111 (by decide)]; rfl)) (by show (l108).length = (A 108).length; rw [k108, hL 108 (by decide)]; rfl)) (by show (l107).length = (A 107).length; rw [k107, hL 107 (by decide)]; rfl)), hR0.2.1, hR0.2.2.1, hR0.2.2.2.1, hR0.2.2.2.2.1, hR0.2.2.2.2.2.1, hR0.2.2.2.2.2.2.1, hR0.2.2.2.2.2.2.2.1, hR0.2.2.2.2.2.2.2.2.1, (REFU_c hR0.2.2.2.2.2.2.2.2.2)⟩⟩

theorem op_due_2 {c : Int} {A : Nat → List Int} {F : Nat → Int} (hR : REL c A F) (hc : c < 512) (p : Int) (i_p : inI p) (hd : (2 : Int) < F 0) : R 78 (0, L0 78 [vR 1, vI 2, vI p], [], LAY (shA A) (shF F), 0, 0) (fun r G => (∃ x, r = some (vI x)) ∧ (∃ (A1 : Nat → List Int) (F1 : Nat → Int), G = LAY A1 F1 ∧ A1 0 = A 0) ∧ R 152 (0, L0 152 [vR 88, vI 2, vI p], [], G, 0, 0) (fun r2 G2 => r2 = r ∧ ∃ (A' : Nat → List Int) (F' : Nat → Int), G2 = LAY (shA A') (shF F') ∧ A' 0 = A 0 ∧ REL (c + 1) A' F')) := by
  have hR0 := hR
  obtain ⟨hL, hPE, hTH, hTP, hDE, hLE, hNO, hAC, hRO, hRE⟩ := hR
  have j_p := i_p
  unfold inI at j_p
  have h87 : (A 87).length = 9 := hL 87 (by decide)
  have h99 : (A 99).length = 6 := hL 99 (by decide)
  have r2 := REFU_at hRE (k := 2) (by decide) (by decide) hc
  have r3 := REFU_at hRE (k := 3) (by decide) (by decide) hc
  have r4 := REFU_at hRE (k := 4) (by decide) (by decide) hc
  have r5 := REFU_at hRE (k := 5) (by decide) (by decide) hc
  have r6 := REFU_at hRE (k := 6) (by decide) (by decide) hc
  have r7 := REFU_at hRE (k := 7) (by decide) (by decide) hc
  have r8 := REFU_at hRE (k := 8) (by decide) (by decide) hc
  obtain ⟨t1, t2, t3, t4, t5, t6⟩ := hTH
  obtain ⟨p1, p2, p3, p4, p5, p6⟩ := hPE
  have hD := D_at2 hR0 hd
  have he1 := hD.1.1
  have he2 := hD.1.2.1
  have hme : rd (A 99) 2 = F 10 := by
    have := hD.2.2.2.2.1
    omega
  obtain ⟨so, te, tp, mg, pm, lo, hS⟩ := SPL_ex A F (N_al A F) (N_Q A 39) (F 10).toNat (N_Y A F 2)
  refine R_s (P := True) (f' := (2, [some (vR 1), some (vI 2), some (vI p), none], [vI 2, vR 1], LAY (shA A) (shF F), 0, 0)) hc78 2 rfl trivial ?_
  refine R_cv hc78 rfl rfl ?_ (fun r G h => h)
  refine R_s (P := True) (f' := (2, [some (vR 1), some (vI 2)], [vI 2, vR 1], LAY (shA A) (shF F), 0, 0)) hc99 2 rfl trivial ?_
  refine R_cv hc99 rfl rfl ?_ (fun r G h => h)
  refine R_s (P := True) (f' := (1, [some (vR 1), some (vI 2)], [vI 2], LAY (shA A) (shF F), 0, 0)) hc98 1 rfl trivial ?_
  refine R_if (t := 16) hc98 rfl rfl (fun (z : 2 < 0) => absurd z (by decide)) (fun (_ : ¬ (2 < 0)) => ?_)
  refine R_s (P := True) (f' := (9, [some (vR 1), some (vI 2)], [vI (F 0), vI 2], LAY (shA A) (shF F), 0, 0)) hc98 3 rfl trivial ?_
  refine R_ic (t := 16) hc98 rfl rfl (fun (z : F 0 ≤ 2) => absurd z (by omega)) (fun (_ : ¬ (F 0 ≤ 2)) => ?_)
  refine R_s (P := True) (f' := (17, [some (vR 1), some (vI 2)], [vI 1], LAY (shA A) (shF F), 0, 0)) hc98 2 rfl trivial ?_
  refine R_retz hc98 rfl rfl (Or.inr rfl) ?_
  refine R_s (f' := (5, [some (vR 1), some (vI 2)], [vI 1], LAY (shA A) (shF F), 0, 0)) hc99 0 rfl trivial ?_
  refine R_if (t := 17) hc99 rfl rfl (fun (z : 1 = 0) => absurd z (by decide)) (fun (_ : ¬ (1 = 0)) => ?_)
  refine R_s (P := (0 ≤ (2 : Int) ∧ (2 : Int) < (([some 20, some 29, some 38, some 47, some 56, some 65] : List (Option Nat)).length : Int)) ∧ True) (f' := (18, [some (vR 1), some (vI 2)], [vR 38], LAY (shA A) (shF F), 0, 0)) hc99 5 rfl ⟨(by decide), trivial⟩ ?_
  refine R_reta hc99 rfl rfl ?_
  refine R_s (f' := (5, [some (vR 1), some (vI 2), some (vI p), none], [vR 38], LAY (shA A) (shF F), 0, 0)) hc78 0 rfl trivial ?_
  refine R_s (P := True) (f' := (15, [some (vR 1), some (vI 2), some (vI p), some (vR 38)], [vI p, vR 2], LAY (shA A) (shF F), 0, 0)) hc78 6 rfl trivial ?_
  refine R_cv hc78 rfl rfl ?_ (fun r G h => h)
  refine R_s (P := True) (f' := (1, [some (vR 2), some (vI p)], [vI p], LAY (shA A) (shF F), 0, 0)) hc5 1 rfl trivial ?_
  refine R_if (t := 16) hc5 rfl rfl (fun (c4 : p < 0) => ?_) (fun (c4 : ¬ (p < 0)) => ?_)
  · refine R_s (P := True) (f' := (17, [some (vR 2), some (vI p)], [vI 0], LAY (shA A) (shF F), 0, 0)) hc5 1 rfl trivial ?_
    refine R_retz hc5 rfl rfl (Or.inl rfl) ?_
    refine R_s (f' := (18, [some (vR 1), some (vI 2), some (vI p), some (vR 38)], [vI 0], LAY (shA A) (shF F), 0, 0)) hc78 0 rfl trivial ?_
    refine R_if (t := 28) hc78 rfl rfl (fun (z : ¬ 0 = 0) => absurd z (by decide)) (fun (_ : ¬ (¬ 0 = 0)) => ?_)
    refine R_s (P := True) (f' := (24, [some (vR 1), some (vI 2), some (vI p), some (vR 38)], [vI (-3), vR 1], LAY (shA A) (shF F), 0, 0)) hc78 2 rfl trivial ?_
    refine R_cv hc78 rfl rfl ?_ (fun r G h => h)
    refine R_s (P := True) (f' := (3, [some (vR 1), some (vI (-3))], [vI (-2), vI (-3)], LAY (shA A) (shF F), 0, 0)) hc93 2 rfl trivial ?_
    refine R_ic (t := 23) hc93 rfl rfl (fun (z : (-2) < (-3)) => absurd z (by decide)) (fun (_ : ¬ ((-2) < (-3))) => ?_)
    refine R_s (P := True) (f' := (9, [some (vR 1), some (vI (-3))], [vI (-8), vI (-3)], LAY (shA A) (shF F), 0, 0)) hc93 2 rfl trivial ?_
    refine R_ic (t := 23) hc93 rfl rfl (fun (z : (-3) < (-8)) => absurd z (by decide)) (fun (_ : ¬ ((-3) < (-8))) => ?_)
    refine R_s (P := inI 3 ∧ (0 ≤ 3 ∧ 3 < ((A 87).length : Int)) ∧ inI ((rd (A 87) 3) + 1) ∧ (0 ≤ 3 ∧ 3 < ((A 87).length : Int)) ∧ True) (f' := (24, [some (vR 1), some (vI (-3))], [vI (-3)], LAY (u (shA A) 87 (wr (A 87) 3 ((rd (A 87) 3) + 1))) (shF F), 0, 0)) hc93 10 rfl ⟨⟨by omega, by omega⟩, ⟨by omega, by omega⟩, ⟨by omega, by omega⟩, ⟨by omega, by omega⟩, trivial⟩ ?_
    refine R_reti hc93 rfl rfl ?_
    refine R_s (f' := (27, [some (vR 1), some (vI 2), some (vI p), some (vR 38)], [vI (-3)], LAY (u (shA A) 87 (wr (A 87) 3 ((rd (A 87) 3) + 1))) (shF F), 0, 0)) hc78 0 rfl trivial ?_
    refine R_reti hc78 rfl rfl ⟨⟨_, rfl⟩, ⟨_, _, rfl, rfl⟩, ?_⟩
    refine R_s (P := True) (f' := (2, [some (vR 88), some (vI 2), some (vI p)], [vI 2, vR 88], LAY (u (shA A) 87 (wr (A 87) 3 ((rd (A 87) 3) + 1))) (shF F), 0, 0)) hc152 2 rfl trivial ?_
    refine R_cv hc152 rfl rfl ?_ (fun r G h => h)
    refine R_s (P := inI ((F 0) - 1) ∧ True) (f' := (8, [some (vR 88), some (vI 2)], [vI ((F 0) - 1), vI 0, vI 2], LAY (u (shA A) 87 (wr (A 87) 3 ((rd (A 87) 3) + 1))) (shF F), 0, 0)) hc108 6 rfl ⟨⟨by omega, by omega⟩, trivial⟩ ?_
    refine R_cs hc108 rfl rfl ?_ (fun r G h => h)
    refine R_s (P := True) (f' := (2, [some (vI 2), some (vI 0), some (vI ((F 0) - 1))], [vI 0, vI 2], LAY (u (shA A) 87 (wr (A 87) 3 ((rd (A 87) 3) + 1))) (shF F), 0, 0)) hc104 2 rfl trivial ?_
    refine R_ic (t := 14) hc104 rfl rfl (fun (z : 2 < 0) => absurd z (by decide)) (fun (_ : ¬ (2 < 0)) => ?_)
    refine R_s (P := True) (f' := (7, [some (vI 2), some (vI 0), some (vI ((F 0) - 1))], [vI ((F 0) - 1), vI 2], LAY (u (shA A) 87 (wr (A 87) 3 ((rd (A 87) 3) + 1))) (shF F), 0, 0)) hc104 2 rfl trivial ?_
    refine R_ic (t := 14) hc104 rfl rfl (fun (z : (F 0) - 1 < 2) => absurd z (by omega)) (fun (_ : ¬ ((F 0) - 1 < 2)) => ?_)
    refine R_s (P := True) (f' := (15, [some (vI 2), some (vI 0), some (vI ((F 0) - 1))], [vI 1], LAY (u (shA A) 87 (wr (A 87) 3 ((rd (A 87) 3) + 1))) (shF F), 0, 0)) hc104 2 rfl trivial ?_
    refine R_retz hc104 rfl rfl (Or.inr rfl) ?_
    refine R_s (f' := (11, [some (vR 88), some (vI 2)], [vI 1], LAY (u (shA A) 87 (wr (A 87) 3 ((rd (A 87) 3) + 1))) (shF F), 0, 0)) hc108 0 rfl trivial ?_
    refine R_retz hc108 rfl rfl (Or.inr rfl) ?_
    refine R_s (f' := (5, [some (vR 88), some (vI 2), some (vI p)], [vI 1], LAY (u (shA A) 87 (wr (A 87) 3 ((rd (A 87) 3) + 1))) (shF F), 0, 0)) hc152 0 rfl trivial ?_
    refine R_if (t := 16) hc152 rfl rfl (fun (z : 1 = 0) => absurd z (by decide)) (fun (_ : ¬ (1 = 0)) => ?_)
    refine R_s (P := True) (f' := (10, [some (vR 88), some (vI 2), some (vI p)], [vI p, vR 88], LAY (u (shA A) 87 (wr (A 87) 3 ((rd (A 87) 3) + 1))) (shF F), 0, 0)) hc152 2 rfl trivial ?_
    refine R_cv hc152 rfl rfl ?_ (fun r G h => h)
    refine R_s (P := inI ((F 3) - 1) ∧ True) (f' := (8, [some (vR 88), some (vI p)], [vI ((F 3) - 1), vI 0, vI p], LAY (u (shA A) 87 (wr (A 87) 3 ((rd (A 87) 3) + 1))) (shF F), 0, 0)) hc106 6 rfl ⟨⟨by omega, by omega⟩, trivial⟩ ?_
    refine R_cs hc106 rfl rfl ?_ (fun r G h => h)
    refine R_s (P := True) (f' := (2, [some (vI p), some (vI 0), some (vI ((F 3) - 1))], [vI 0, vI p], LAY (u (shA A) 87 (wr (A 87) 3 ((rd (A 87) 3) + 1))) (shF F), 0, 0)) hc104 2 rfl trivial ?_
    refine R_ic (t := 14) hc104 rfl rfl (fun (_ : p < 0) => ?_) (fun (z : ¬ (p < 0)) => absurd (show p < 0 by omega) z)
    refine R_s (P := True) (f' := (15, [some (vI p), some (vI 0), some (vI ((F 3) - 1))], [vI 0], LAY (u (shA A) 87 (wr (A 87) 3 ((rd (A 87) 3) + 1))) (shF F), 0, 0)) hc104 1 rfl trivial ?_
    refine R_retz hc104 rfl rfl (Or.inl rfl) ?_
    refine R_s (f' := (11, [some (vR 88), some (vI p)], [vI 0], LAY (u (shA A) 87 (wr (A 87) 3 ((rd (A 87) 3) + 1))) (shF F), 0, 0)) hc106 0 rfl trivial ?_
    refine R_retz hc106 rfl rfl (Or.inl rfl) ?_
    refine R_s (f' := (13, [some (vR 88), some (vI 2), some (vI p)], [vI 0], LAY (u (shA A) 87 (wr (A 87) 3 ((rd (A 87) 3) + 1))) (shF F), 0, 0)) hc152 0 rfl trivial ?_
    refine R_if (t := 23) hc152 rfl rfl (fun (z : ¬ 0 = 0) => absurd z (by decide)) (fun (_ : ¬ (¬ 0 = 0)) => ?_)
    refine R_s (P := True) (f' := (19, [some (vR 88), some (vI 2), some (vI p)], [vI (-3), vR 88], LAY (u (shA A) 87 (wr (A 87) 3 ((rd (A 87) 3) + 1))) (shF F), 0, 0)) hc152 2 rfl trivial ?_
    refine R_cv hc152 rfl rfl ?_ (fun r G h => h)
    refine R_s (P := inI 3 ∧ (0 ≤ 3 ∧ 3 < ((A 87).length : Int)) ∧ inI ((rd (A 87) 3) + 1) ∧ (0 ≤ 3 ∧ 3 < ((A 87).length : Int)) ∧ True) (f' := (12, [some (vR 88), some (vI (-3))], [vI (-3)], LAY (u (u (shA A) 87 (wr (A 87) 3 ((rd (A 87) 3) + 1))) 89 (wr (A 87) 3 ((rd (A 87) 3) + 1))) (shF F), 0, 0)) hc105 10 rfl ⟨⟨by omega, by omega⟩, ⟨by omega, by omega⟩, ⟨by omega, by omega⟩, ⟨by omega, by omega⟩, trivial⟩ ?_
    refine R_reti hc105 rfl rfl ?_
    refine R_s (f' := (22, [some (vR 88), some (vI 2), some (vI p)], [vI (-3)], LAY (u (u (shA A) 87 (wr (A 87) 3 ((rd (A 87) 3) + 1))) 89 (wr (A 87) 3 ((rd (A 87) 3) + 1))) (shF F), 0, 0)) hc152 0 rfl trivial ?_
    refine R_reti hc152 rfl rfl ?_
    first
      | (exfalso; omega; done)
      | exact ⟨rfl, (u A 87 (wr (A 87) 3 ((rd (A 87) 3) + 1))), F, rfl, rfl, REL_ref hR0 (by decide) (by decide)⟩
  · refine R_s (P := True) (f' := (9, [some (vR 2), some (vI p)], [vI (F 3), vI p], LAY (shA A) (shF F), 0, 0)) hc5 3 rfl trivial ?_
    refine R_ic (t := 16) hc5 rfl rfl (fun (c5 : F 3 ≤ p) => ?_) (fun (c5 : ¬ (F 3 ≤ p)) => ?_)
    · refine R_s (P := True) (f' := (17, [some (vR 2), some (vI p)], [vI 0], LAY (shA A) (shF F), 0, 0)) hc5 1 rfl trivial ?_
      refine R_retz hc5 rfl rfl (Or.inl rfl) ?_
      refine R_s (f' := (18, [some (vR 1), some (vI 2), some (vI p), some (vR 38)], [vI 0], LAY (shA A) (shF F), 0, 0)) hc78 0 rfl trivial ?_
      refine R_if (t := 28) hc78 rfl rfl (fun (z : ¬ 0 = 0) => absurd z (by decide)) (fun (_ : ¬ (¬ 0 = 0)) => ?_)
      refine R_s (P := True) (f' := (24, [some (vR 1), some (vI 2), some (vI p), some (vR 38)], [vI (-3), vR 1], LAY (shA A) (shF F), 0, 0)) hc78 2 rfl trivial ?_
      refine R_cv hc78 rfl rfl ?_ (fun r G h => h)
      refine R_s (P := True) (f' := (3, [some (vR 1), some (vI (-3))], [vI (-2), vI (-3)], LAY (shA A) (shF F), 0, 0)) hc93 2 rfl trivial ?_
      refine R_ic (t := 23) hc93 rfl rfl (fun (z : (-2) < (-3)) => absurd z (by decide)) (fun (_ : ¬ ((-2) < (-3))) => ?_)
      refine R_s (P := True) (f' := (9, [some (vR 1), some (vI (-3))], [vI (-8), vI (-3)], LAY (shA A) (shF F), 0, 0)) hc93 2 rfl trivial ?_
      refine R_ic (t := 23) hc93 rfl rfl (fun (z : (-3) < (-8)) => absurd z (by decide)) (fun (_ : ¬ ((-3) < (-8))) => ?_)
      refine R_s (P := inI 3 ∧ (0 ≤ 3 ∧ 3 < ((A 87).length : Int)) ∧ inI ((rd (A 87) 3) + 1) ∧ (0 ≤ 3 ∧ 3 < ((A 87).length : Int)) ∧ True) (f' := (24, [some (vR 1), some (vI (-3))], [vI (-3)], LAY (u (shA A) 87 (wr (A 87) 3 ((rd (A 87) 3) + 1))) (shF F), 0, 0)) hc93 10 rfl ⟨⟨by omega, by omega⟩, ⟨by omega, by omega⟩, ⟨by omega, by omega⟩, ⟨by omega, by omega⟩, trivial⟩ ?_
      refine R_reti hc93 rfl rfl ?_
      refine R_s (f' := (27, [some (vR 1), some (vI 2), some (vI p), some (vR 38)], [vI (-3)], LAY (u (shA A) 87 (wr (A 87) 3 ((rd (A 87) 3) + 1))) (shF F), 0, 0)) hc78 0 rfl trivial ?_
      refine R_reti hc78 rfl rfl ⟨⟨_, rfl⟩, ⟨_, _, rfl, rfl⟩, ?_⟩
      refine R_s (P := True) (f' := (2, [some (vR 88), some (vI 2), some (vI p)], [vI 2, vR 88], LAY (u (shA A) 87 (wr (A 87) 3 ((rd (A 87) 3) + 1))) (shF F), 0, 0)) hc152 2 rfl trivial ?_
      refine R_cv hc152 rfl rfl ?_ (fun r G h => h)
      refine R_s (P := inI ((F 0) - 1) ∧ True) (f' := (8, [some (vR 88), some (vI 2)], [vI ((F 0) - 1), vI 0, vI 2], LAY (u (shA A) 87 (wr (A 87) 3 ((rd (A 87) 3) + 1))) (shF F), 0, 0)) hc108 6 rfl ⟨⟨by omega, by omega⟩, trivial⟩ ?_
      refine R_cs hc108 rfl rfl ?_ (fun r G h => h)
      refine R_s (P := True) (f' := (2, [some (vI 2), some (vI 0), some (vI ((F 0) - 1))], [vI 0, vI 2], LAY (u (shA A) 87 (wr (A 87) 3 ((rd (A 87) 3) + 1))) (shF F), 0, 0)) hc104 2 rfl trivial ?_
      refine R_ic (t := 14) hc104 rfl rfl (fun (z : 2 < 0) => absurd z (by decide)) (fun (_ : ¬ (2 < 0)) => ?_)
      refine R_s (P := True) (f' := (7, [some (vI 2), some (vI 0), some (vI ((F 0) - 1))], [vI ((F 0) - 1), vI 2], LAY (u (shA A) 87 (wr (A 87) 3 ((rd (A 87) 3) + 1))) (shF F), 0, 0)) hc104 2 rfl trivial ?_
      refine R_ic (t := 14) hc104 rfl rfl (fun (z : (F 0) - 1 < 2) => absurd z (by omega)) (fun (_ : ¬ ((F 0) - 1 < 2)) => ?_)
      refine R_s (P := True) (f' := (15, [some (vI 2), some (vI 0), some (vI ((F 0) - 1))], [vI 1], LAY (u (shA A) 87 (wr (A 87) 3 ((rd (A 87) 3) + 1))) (shF F), 0, 0)) hc104 2 rfl trivial ?_
      refine R_retz hc104 rfl rfl (Or.inr rfl) ?_
      refine R_s (f' := (11, [some (vR 88), some (vI 2)], [vI 1], LAY (u (shA A) 87 (wr (A 87) 3 ((rd (A 87) 3) + 1))) (shF F), 0, 0)) hc108 0 rfl trivial ?_
      refine R_retz hc108 rfl rfl (Or.inr rfl) ?_
      refine R_s (f' := (5, [some (vR 88), some (vI 2), some (vI p)], [vI 1], LAY (u (shA A) 87 (wr (A 87) 3 ((rd (A 87) 3) + 1))) (shF F), 0, 0)) hc152 0 rfl trivial ?_
      refine R_if (t := 16) hc152 rfl rfl (fun (z : 1 = 0) => absurd z (by decide)) (fun (_ : ¬ (1 = 0)) => ?_)
      refine R_s (P := True) (f' := (10, [some (vR 88), some (vI 2), some (vI p)], [vI p, vR 88], LAY (u (shA A) 87 (wr (A 87) 3 ((rd (A 87) 3) + 1))) (shF F), 0, 0)) hc152 2 rfl trivial ?_
      refine R_cv hc152 rfl rfl ?_ (fun r G h => h)
      refine R_s (P := inI ((F 3) - 1) ∧ True) (f' := (8, [some (vR 88), some (vI p)], [vI ((F 3) - 1), vI 0, vI p], LAY (u (shA A) 87 (wr (A 87) 3 ((rd (A 87) 3) + 1))) (shF F), 0, 0)) hc106 6 rfl ⟨⟨by omega, by omega⟩, trivial⟩ ?_
      refine R_cs hc106 rfl rfl ?_ (fun r G h => h)
      refine R_s (P := True) (f' := (2, [some (vI p), some (vI 0), some (vI ((F 3) - 1))], [vI 0, vI p], LAY (u (shA A) 87 (wr (A 87) 3 ((rd (A 87) 3) + 1))) (shF F), 0, 0)) hc104 2 rfl trivial ?_
      refine R_ic (t := 14) hc104 rfl rfl (fun (z : p < 0) => absurd z (by omega)) (fun (_ : ¬ (p < 0)) => ?_)
      refine R_s (P := True) (f' := (7, [some (vI p), some (vI 0), some (vI ((F 3) - 1))], [vI ((F 3) - 1), vI p], LAY (u (shA A) 87 (wr (A 87) 3 ((rd (A 87) 3) + 1))) (shF F), 0, 0)) hc104 2 rfl trivial ?_
      refine R_ic (t := 14) hc104 rfl rfl (fun (_ : (F 3) - 1 < p) => ?_) (fun (z : ¬ ((F 3) - 1 < p)) => absurd (show (F 3) - 1 < p by omega) z)
      refine R_s (P := True) (f' := (15, [some (vI p), some (vI 0), some (vI ((F 3) - 1))], [vI 0], LAY (u (shA A) 87 (wr (A 87) 3 ((rd (A 87) 3) + 1))) (shF F), 0, 0)) hc104 1 rfl trivial ?_
      refine R_retz hc104 rfl rfl (Or.inl rfl) ?_
      refine R_s (f' := (11, [some (vR 88), some (vI p)], [vI 0], LAY (u (shA A) 87 (wr (A 87) 3 ((rd (A 87) 3) + 1))) (shF F), 0, 0)) hc106 0 rfl trivial ?_
      refine R_retz hc106 rfl rfl (Or.inl rfl) ?_
      refine R_s (f' := (13, [some (vR 88), some (vI 2), some (vI p)], [vI 0], LAY (u (shA A) 87 (wr (A 87) 3 ((rd (A 87) 3) + 1))) (shF F), 0, 0)) hc152 0 rfl trivial ?_
      refine R_if (t := 23) hc152 rfl rfl (fun (z : ¬ 0 = 0) => absurd z (by decide)) (fun (_ : ¬ (¬ 0 = 0)) => ?_)
      refine R_s (P := True) (f' := (19, [some (vR 88), some (vI 2), some (vI p)], [vI (-3), vR 88], LAY (u (shA A) 87 (wr (A 87) 3 ((rd (A 87) 3) + 1))) (shF F), 0, 0)) hc152 2 rfl trivial ?_
      refine R_cv hc152 rfl rfl ?_ (fun r G h => h)
      refine R_s (P := inI 3 ∧ (0 ≤ 3 ∧ 3 < ((A 87).length : Int)) ∧ inI ((rd (A 87) 3) + 1) ∧ (0 ≤ 3 ∧ 3 < ((A 87).length : Int)) ∧ True) (f' := (12, [some (vR 88), some (vI (-3))], [vI (-3)], LAY (u (u (shA A) 87 (wr (A 87) 3 ((rd (A 87) 3) + 1))) 89 (wr (A 87) 3 ((rd (A 87) 3) + 1))) (shF F), 0, 0)) hc105 10 rfl ⟨⟨by omega, by omega⟩, ⟨by omega, by omega⟩, ⟨by omega, by omega⟩, ⟨by omega, by omega⟩, trivial⟩ ?_
      refine R_reti hc105 rfl rfl ?_
      refine R_s (f' := (22, [some (vR 88), some (vI 2), some (vI p)], [vI (-3)], LAY (u (u (shA A) 87 (wr (A 87) 3 ((rd (A 87) 3) + 1))) 89 (wr (A 87) 3 ((rd (A 87) 3) + 1))) (shF F), 0, 0)) hc152 0 rfl trivial ?_
      refine R_reti hc152 rfl rfl ?_
      first
        | (exfalso; omega; done)
        | exact ⟨rfl, (u A 87 (wr (A 87) 3 ((rd (A 87) 3) + 1))), F, rfl, rfl, REL_ref hR0 (by decide) (by decide)⟩
    · refine R_s (P := True) (f' := (17, [some (vR 2), some (vI p)], [vI 1], LAY (shA A) (shF F), 0, 0)) hc5 2 rfl trivial ?_
      refine R_retz hc5 rfl rfl (Or.inr rfl) ?_
      refine R_s (f' := (18, [some (vR 1), some (vI 2), some (vI p), some (vR 38)], [vI 1], LAY (shA A) (shF F), 0, 0)) hc78 0 rfl trivial ?_
      refine R_if (t := 28) hc78 rfl rfl (fun (_ : ¬ 1 = 0) => ?_) (fun (z : ¬ (¬ 1 = 0)) => absurd (by decide) z)
      refine R_s (P := True) (f' := (31, [some (vR 1), some (vI 2), some (vI p), some (vR 38)], [vI 2, vR 38, vR 1], LAY (shA A) (shF F), 0, 0)) hc78 3 rfl trivial ?_
      refine R_cv hc78 rfl rfl (l_now2 hR0 hd hS) (fun r G9 hp9 => ?_)
      obtain ⟨rfl, l8, l9, l10, l11, l75, l76, l77, l78, rfl, k8, k9, k10, k11, k75, k76, k77, k78, v75, v76, v77⟩ := hp9
      have y77 : 0 ≤ p → p < F 3 → rd l77 p = tp (p).toNat := fun q1 q2 => by
        have z := v77 (p).toNat (by omega)
        rw [show ((((p).toNat : Nat)) : Int) = p by omega] at z
        exact z
      refine R_s (f' := (34, [some (vR 1), some (vI 2), some (vI p), some (vR 38)], [], LAY (u (u (u (u (u (u (u (u (shA A) 8 l8) 9 l9) 10 l10) 11 l11) 75 l75) 76 l76) 77 l77) 78 l78) (u (u (shF F) 14 mg) 15 lo), 0, 0)) hc78 0 rfl trivial ?_
      refine R_s (P := (0 ≤ p ∧ p < ((l77).length : Int)) ∧ True) (f' := (43, [some (vR 1), some (vI 2), some (vI p), some (vR 38)], [vI (rd l77 p)], LAY (u (u (u (u (u (u (u (u (shA A) 8 l8) 9 l9) 10 l10) 11 l11) 75 l75) 76 l76) 77 l77) 78 l78) (u (u (shF F) 14 mg) 15 lo), 0, 0)) hc78 5 rfl ⟨⟨by omega, by omega⟩, trivial⟩ ?_
      refine R_reti hc78 rfl rfl ⟨⟨_, rfl⟩, ⟨_, _, rfl, rfl⟩, ?_⟩
      refine R_s (P := True) (f' := (2, [some (vR 88), some (vI 2), some (vI p)], [vI 2, vR 88], LAY (u (u (u (u (u (u (u (u (shA A) 8 l8) 9 l9) 10 l10) 11 l11) 75 l75) 76 l76) 77 l77) 78 l78) (u (u (shF F) 14 mg) 15 lo), 0, 0)) hc152 2 rfl trivial ?_
      refine R_cv hc152 rfl rfl ?_ (fun r G h => h)
      refine R_s (P := inI ((F 0) - 1) ∧ True) (f' := (8, [some (vR 88), some (vI 2)], [vI ((F 0) - 1), vI 0, vI 2], LAY (u (u (u (u (u (u (u (u (shA A) 8 l8) 9 l9) 10 l10) 11 l11) 75 l75) 76 l76) 77 l77) 78 l78) (u (u (shF F) 14 mg) 15 lo), 0, 0)) hc108 6 rfl ⟨⟨by omega, by omega⟩, trivial⟩ ?_
      refine R_cs hc108 rfl rfl ?_ (fun r G h => h)
      refine R_s (P := True) (f' := (2, [some (vI 2), some (vI 0), some (vI ((F 0) - 1))], [vI 0, vI 2], LAY (u (u (u (u (u (u (u (u (shA A) 8 l8) 9 l9) 10 l10) 11 l11) 75 l75) 76 l76) 77 l77) 78 l78) (u (u (shF F) 14 mg) 15 lo), 0, 0)) hc104 2 rfl trivial ?_
      refine R_ic (t := 14) hc104 rfl rfl (fun (z : 2 < 0) => absurd z (by decide)) (fun (_ : ¬ (2 < 0)) => ?_)
      refine R_s (P := True) (f' := (7, [some (vI 2), some (vI 0), some (vI ((F 0) - 1))], [vI ((F 0) - 1), vI 2], LAY (u (u (u (u (u (u (u (u (shA A) 8 l8) 9 l9) 10 l10) 11 l11) 75 l75) 76 l76) 77 l77) 78 l78) (u (u (shF F) 14 mg) 15 lo), 0, 0)) hc104 2 rfl trivial ?_
      refine R_ic (t := 14) hc104 rfl rfl (fun (z : (F 0) - 1 < 2) => absurd z (by omega)) (fun (_ : ¬ ((F 0) - 1 < 2)) => ?_)
      refine R_s (P := True) (f' := (15, [some (vI 2), some (vI 0), some (vI ((F 0) - 1))], [vI 1], LAY (u (u (u (u (u (u (u (u (shA A) 8 l8) 9 l9) 10 l10) 11 l11) 75 l75) 76 l76) 77 l77) 78 l78) (u (u (shF F) 14 mg) 15 lo), 0, 0)) hc104 2 rfl trivial ?_
      refine R_retz hc104 rfl rfl (Or.inr rfl) ?_
      refine R_s (f' := (11, [some (vR 88), some (vI 2)], [vI 1], LAY (u (u (u (u (u (u (u (u (shA A) 8 l8) 9 l9) 10 l10) 11 l11) 75 l75) 76 l76) 77 l77) 78 l78) (u (u (shF F) 14 mg) 15 lo), 0, 0)) hc108 0 rfl trivial ?_
      refine R_retz hc108 rfl rfl (Or.inr rfl) ?_
      refine R_s (f' := (5, [some (vR 88), some (vI 2), some (vI p)], [vI 1], LAY (u (u (u (u (u (u (u (u (shA A) 8 l8) 9 l9) 10 l10) 11 l11) 75 l75) 76 l76) 77 l77) 78 l78) (u (u (shF F) 14 mg) 15 lo), 0, 0)) hc152 0 rfl trivial ?_
      refine R_if (t := 16) hc152 rfl rfl (fun (z : 1 = 0) => absurd z (by decide)) (fun (_ : ¬ (1 = 0)) => ?_)
      refine R_s (P := True) (f' := (10, [some (vR 88), some (vI 2), some (vI p)], [vI p, vR 88], LAY (u (u (u (u (u (u (u (u (shA A) 8 l8) 9 l9) 10 l10) 11 l11) 75 l75) 76 l76) 77 l77) 78 l78) (u (u (shF F) 14 mg) 15 lo), 0, 0)) hc152 2 rfl trivial ?_
      refine R_cv hc152 rfl rfl ?_ (fun r G h => h)
      refine R_s (P := inI ((F 3) - 1) ∧ True) (f' := (8, [some (vR 88), some (vI p)], [vI ((F 3) - 1), vI 0, vI p], LAY (u (u (u (u (u (u (u (u (shA A) 8 l8) 9 l9) 10 l10) 11 l11) 75 l75) 76 l76) 77 l77) 78 l78) (u (u (shF F) 14 mg) 15 lo), 0, 0)) hc106 6 rfl ⟨⟨by omega, by omega⟩, trivial⟩ ?_
      refine R_cs hc106 rfl rfl ?_ (fun r G h => h)
      refine R_s (P := True) (f' := (2, [some (vI p), some (vI 0), some (vI ((F 3) - 1))], [vI 0, vI p], LAY (u (u (u (u (u (u (u (u (shA A) 8 l8) 9 l9) 10 l10) 11 l11) 75 l75) 76 l76) 77 l77) 78 l78) (u (u (shF F) 14 mg) 15 lo), 0, 0)) hc104 2 rfl trivial ?_
      refine R_ic (t := 14) hc104 rfl rfl (fun (z : p < 0) => absurd z (by omega)) (fun (_ : ¬ (p < 0)) => ?_)
      refine R_s (P := True) (f' := (7, [some (vI p), some (vI 0), some (vI ((F 3) - 1))], [vI ((F 3) - 1), vI p], LAY (u (u (u (u (u (u (u (u (shA A) 8 l8) 9 l9) 10 l10) 11 l11) 75 l75) 76 l76) 77 l77) 78 l78) (u (u (shF F) 14 mg) 15 lo), 0, 0)) hc104 2 rfl trivial ?_
      refine R_ic (t := 14) hc104 rfl rfl (fun (z : (F 3) - 1 < p) => absurd z (by omega)) (fun (_ : ¬ ((F 3) - 1 < p)) => ?_)
      refine R_s (P := True) (f' := (15, [some (vI p), some (vI 0), some (vI ((F 3) - 1))], [vI 1], LAY (u (u (u (u (u (u (u (u (shA A) 8 l8) 9 l9) 10 l10) 11 l11) 75 l75) 76 l76) 77 l77) 78 l78) (u (u (shF F) 14 mg) 15 lo), 0, 0)) hc104 2 rfl trivial ?_
      refine R_retz hc104 rfl rfl (Or.inr rfl) ?_
      refine R_s (f' := (11, [some (vR 88), some (vI p)], [vI 1], LAY (u (u (u (u (u (u (u (u (shA A) 8 l8) 9 l9) 10 l10) 11 l11) 75 l75) 76 l76) 77 l77) 78 l78) (u (u (shF F) 14 mg) 15 lo), 0, 0)) hc106 0 rfl trivial ?_
      refine R_retz hc106 rfl rfl (Or.inr rfl) ?_
      refine R_s (f' := (13, [some (vR 88), some (vI 2), some (vI p)], [vI 1], LAY (u (u (u (u (u (u (u (u (shA A) 8 l8) 9 l9) 10 l10) 11 l11) 75 l75) 76 l76) 77 l77) 78 l78) (u (u (shF F) 14 mg) 15 lo), 0, 0)) hc152 0 rfl trivial ?_
      refine R_if (t := 23) hc152 rfl rfl (fun (_ : ¬ 1 = 0) => ?_) (fun (z : ¬ (¬ 1 = 0)) => absurd (by decide) z)
      refine R_s (P := True) (f' := (25, [some (vR 88), some (vI 2), some (vI p)], [vI 2, vR 88], LAY (u (u (u (u (u (u (u (u (shA A) 8 l8) 9 l9) 10 l10) 11 l11) 75 l75) 76 l76) 77 l77) 78 l78) (u (u (shF F) 14 mg) 15 lo), 0, 0)) hc152 2 rfl trivial ?_
      refine R_cv hc152 rfl rfl (l_worksR hR0 (A1 := (u (u (u (u (u (u (u (u (shA A) 8 l8) 9 l9) 10 l10) 11 l11) 75 l75) 76 l76) 77 l77) 78 l78)) (F1 := (u (u (shF F) 14 mg) 15 lo)) rfl rfl rfl rfl rfl rfl rfl rfl rfl rfl rfl rfl rfl (hL 104 (by decide)) (hL 105 (by decide)) (hL 107 (by decide)) (hL 108 (by decide)) (hL 109 (by decide)) (hL 110 (by decide)) (hL 111 (by decide)) hD.1 hD.2 rfl hS) (fun r G9 hp9 => ?_)
      obtain ⟨rfl, l104, l105, l107, l108, l109, l110, l111, ac, rfl, k104, k105, k107, k108, k109, k110, k111, hac, w107, w108⟩ := hp9
      have y108 : 0 ≤ p → p < F 3 → rd l108 p = tp (p).toNat := fun q1 q2 => by
        have z := w108 (p).toNat (by omega)
        rw [show ((((p).toNat : Nat)) : Int) = p by omega] at z
        exact z
      refine R_s (f' := (28, [some (vR 88), some (vI 2), some (vI p)], [], LAY (u (u (u (u (u (u (u (u (u (u (u (u (u (u (u (shA A) 8 l8) 9 l9) 10 l10) 11 l11) 75 l75) 76 l76) 77 l77) 78 l78) 109 l109) 104 l104) 105 l105) 110 l110) 111 l111) 108 l108) 107 l107) (u (u (u (u (u (u (shF F) 14 mg) 15 lo) 28 (N_Y A F 2)) 29 ac) 30 mg) 31 lo), 0, 0)) hc152 0 rfl trivial ?_
      refine R_s (P := (0 ≤ p ∧ p < ((l108).length : Int)) ∧ True) (f' := (34, [some (vR 88), some (vI 2), some (vI p)], [vI (rd l108 p)], LAY (u (u (u (u (u (u (u (u (u (u (u (u (u (u (u (shA A) 8 l8) 9 l9) 10 l10) 11 l11) 75 l75) 76 l76) 77 l77) 78 l78) 109 l109) 104 l104) 105 l105) 110 l110) 111 l111) 108 l108) 107 l107) (u (u (u (u (u (u (shF F) 14 mg) 15 lo) 28 (N_Y A F 2)) 29 ac) 30 mg) 31 lo), 0, 0)) hc152 4 rfl ⟨⟨by omega, by omega⟩, trivial⟩ ?_
      refine R_reti hc152 rfl rfl ?_
      first
        | (exfalso; omega; done)
        | exact ⟨(by rw [show rd l108 p = rd l77 p by omega]), (u (u (u (u (u (u (u (u (u (u (u (u (u (u (u A 8 l8) 9 l9) 10 l10) 11 l11) 75 l75) 76 l76) 77 l77) 78 l78) 109 l109) 104 l104) 105 l105) 110 l110) 111 l111) 108 l108) 107 l107), (u (u (u (u (u (u F 14 mg) 15 lo) 28 (N_Y A F 2)) 29 ac) 30 mg) 31 lo), rfl, rfl, ⟨(LENS_u (LENS_u (LENS_u (LENS_u (LENS_u (LENS_u (LENS_u (LENS_u (LENS_u (LENS_u (LENS_u (LENS_u (LENS_u (LENS_u (LENS_u hL (by show (l8).length = (A 8).length; rw [k8, hL 8 (by decide)]; rfl)) (by show (l9).length = (A 9).length; rw [k9, hL 9 (by decide)]; rfl)) (by show (l10).length = (A 10).length; rw [k10, hL 10 (by decide)]; rfl)) (by show (l11).length = (A 11).length; rw [k11, hL 11 (by decide)]; rfl)) (by show (l75).length = (A 75).length; rw [k75, hL 75 (by decide)]; rfl)) (by show (l76).length = (A 76).length; rw [k76, hL 76 (by decide)]; rfl)) (by show (l77).length = (A 77).length; rw [k77, hL 77 (by decide)]; rfl)) (by show (l78).length = (A 78).length; rw [k78, hL 78 (by decide)]; rfl)) (by show (l109).length = (A 109).length; rw [k109, hL 109 (by decide)]; rfl)) (by show (l104).length = (A 104).length; rw [k104, hL 104 (by decide)]; rfl)) (by show (l105).length = (A 105).length; rw [k105, hL 105 (by decide)]; rfl)) (by show (l110).length = (A 110).length; rw [k110, hL 110 (by decide)]; rfl)) (by show (l111).length = (A 111).length; rw [k111, hL 111 (by decide)]; rfl)) (by show (l108).length = (A 108).length; rw [k108, hL 108 (by decide)]; rfl)) (by show (l107).length = (A 107).length; rw [k107, hL 107 (by decide)]; rfl)), hR0.2.1, hR0.2.2.1, hR0.2.2.2.1, hR0.2.2.2.2.1, hR0.2.2.2.2.2.1, hR0.2.2.2.2.2.2.1, hR0.2.2.2.2.2.2.2.1, hR0.2.2.2.2.2.2.2.2.1, (REFU_c hR0.2.2.2.2.2.2.2.2.2)⟩⟩

theorem op_due_3 {c : Int} {A : Nat → List Int} {F : Nat → Int} (hR : REL c A F) (hc : c < 512) (p : Int) (i_p : inI p) (hd : (3 : Int) < F 0) : R 78 (0, L0 78 [vR 1, vI 3, vI p], [], LAY (shA A) (shF F), 0, 0) (fun r G => (∃ x, r = some (vI x)) ∧ (∃ (A1 : Nat → List Int) (F1 : Nat → Int), G = LAY A1 F1 ∧ A1 0 = A 0) ∧ R 152 (0, L0 152 [vR 88, vI 3, vI p], [], G, 0, 0) (fun r2 G2 => r2 = r ∧ ∃ (A' : Nat → List Int) (F' : Nat → Int), G2 = LAY (shA A') (shF F') ∧ A' 0 = A 0 ∧ REL (c + 1) A' F')) := by
  have hR0 := hR
  obtain ⟨hL, hPE, hTH, hTP, hDE, hLE, hNO, hAC, hRO, hRE⟩ := hR
  have j_p := i_p
  unfold inI at j_p
  have h87 : (A 87).length = 9 := hL 87 (by decide)
  have h99 : (A 99).length = 6 := hL 99 (by decide)
  have r2 := REFU_at hRE (k := 2) (by decide) (by decide) hc
  have r3 := REFU_at hRE (k := 3) (by decide) (by decide) hc
  have r4 := REFU_at hRE (k := 4) (by decide) (by decide) hc
  have r5 := REFU_at hRE (k := 5) (by decide) (by decide) hc
  have r6 := REFU_at hRE (k := 6) (by decide) (by decide) hc
  have r7 := REFU_at hRE (k := 7) (by decide) (by decide) hc
  have r8 := REFU_at hRE (k := 8) (by decide) (by decide) hc
  obtain ⟨t1, t2, t3, t4, t5, t6⟩ := hTH
  obtain ⟨p1, p2, p3, p4, p5, p6⟩ := hPE
  have hD := D_at3 hR0 hd
  have he1 := hD.1.1
  have he2 := hD.1.2.1
  have hme : rd (A 99) 3 = F 11 := by
    have := hD.2.2.2.2.1
    omega
  obtain ⟨so, te, tp, mg, pm, lo, hS⟩ := SPL_ex A F (N_al A F) (N_Q A 48) (F 11).toNat (N_Y A F 3)
  refine R_s (P := True) (f' := (2, [some (vR 1), some (vI 3), some (vI p), none], [vI 3, vR 1], LAY (shA A) (shF F), 0, 0)) hc78 2 rfl trivial ?_
  refine R_cv hc78 rfl rfl ?_ (fun r G h => h)
  refine R_s (P := True) (f' := (2, [some (vR 1), some (vI 3)], [vI 3, vR 1], LAY (shA A) (shF F), 0, 0)) hc99 2 rfl trivial ?_
  refine R_cv hc99 rfl rfl ?_ (fun r G h => h)
  refine R_s (P := True) (f' := (1, [some (vR 1), some (vI 3)], [vI 3], LAY (shA A) (shF F), 0, 0)) hc98 1 rfl trivial ?_
  refine R_if (t := 16) hc98 rfl rfl (fun (z : 3 < 0) => absurd z (by decide)) (fun (_ : ¬ (3 < 0)) => ?_)
  refine R_s (P := True) (f' := (9, [some (vR 1), some (vI 3)], [vI (F 0), vI 3], LAY (shA A) (shF F), 0, 0)) hc98 3 rfl trivial ?_
  refine R_ic (t := 16) hc98 rfl rfl (fun (z : F 0 ≤ 3) => absurd z (by omega)) (fun (_ : ¬ (F 0 ≤ 3)) => ?_)
  refine R_s (P := True) (f' := (17, [some (vR 1), some (vI 3)], [vI 1], LAY (shA A) (shF F), 0, 0)) hc98 2 rfl trivial ?_
  refine R_retz hc98 rfl rfl (Or.inr rfl) ?_
  refine R_s (f' := (5, [some (vR 1), some (vI 3)], [vI 1], LAY (shA A) (shF F), 0, 0)) hc99 0 rfl trivial ?_
  refine R_if (t := 17) hc99 rfl rfl (fun (z : 1 = 0) => absurd z (by decide)) (fun (_ : ¬ (1 = 0)) => ?_)
  refine R_s (P := (0 ≤ (3 : Int) ∧ (3 : Int) < (([some 20, some 29, some 38, some 47, some 56, some 65] : List (Option Nat)).length : Int)) ∧ True) (f' := (18, [some (vR 1), some (vI 3)], [vR 47], LAY (shA A) (shF F), 0, 0)) hc99 5 rfl ⟨(by decide), trivial⟩ ?_
  refine R_reta hc99 rfl rfl ?_
  refine R_s (f' := (5, [some (vR 1), some (vI 3), some (vI p), none], [vR 47], LAY (shA A) (shF F), 0, 0)) hc78 0 rfl trivial ?_
  refine R_s (P := True) (f' := (15, [some (vR 1), some (vI 3), some (vI p), some (vR 47)], [vI p, vR 2], LAY (shA A) (shF F), 0, 0)) hc78 6 rfl trivial ?_
  refine R_cv hc78 rfl rfl ?_ (fun r G h => h)
  refine R_s (P := True) (f' := (1, [some (vR 2), some (vI p)], [vI p], LAY (shA A) (shF F), 0, 0)) hc5 1 rfl trivial ?_
  refine R_if (t := 16) hc5 rfl rfl (fun (c4 : p < 0) => ?_) (fun (c4 : ¬ (p < 0)) => ?_)
  · refine R_s (P := True) (f' := (17, [some (vR 2), some (vI p)], [vI 0], LAY (shA A) (shF F), 0, 0)) hc5 1 rfl trivial ?_
    refine R_retz hc5 rfl rfl (Or.inl rfl) ?_
    refine R_s (f' := (18, [some (vR 1), some (vI 3), some (vI p), some (vR 47)], [vI 0], LAY (shA A) (shF F), 0, 0)) hc78 0 rfl trivial ?_
    refine R_if (t := 28) hc78 rfl rfl (fun (z : ¬ 0 = 0) => absurd z (by decide)) (fun (_ : ¬ (¬ 0 = 0)) => ?_)
    refine R_s (P := True) (f' := (24, [some (vR 1), some (vI 3), some (vI p), some (vR 47)], [vI (-3), vR 1], LAY (shA A) (shF F), 0, 0)) hc78 2 rfl trivial ?_
    refine R_cv hc78 rfl rfl ?_ (fun r G h => h)
    refine R_s (P := True) (f' := (3, [some (vR 1), some (vI (-3))], [vI (-2), vI (-3)], LAY (shA A) (shF F), 0, 0)) hc93 2 rfl trivial ?_
    refine R_ic (t := 23) hc93 rfl rfl (fun (z : (-2) < (-3)) => absurd z (by decide)) (fun (_ : ¬ ((-2) < (-3))) => ?_)
    refine R_s (P := True) (f' := (9, [some (vR 1), some (vI (-3))], [vI (-8), vI (-3)], LAY (shA A) (shF F), 0, 0)) hc93 2 rfl trivial ?_
    refine R_ic (t := 23) hc93 rfl rfl (fun (z : (-3) < (-8)) => absurd z (by decide)) (fun (_ : ¬ ((-3) < (-8))) => ?_)
    refine R_s (P := inI 3 ∧ (0 ≤ 3 ∧ 3 < ((A 87).length : Int)) ∧ inI ((rd (A 87) 3) + 1) ∧ (0 ≤ 3 ∧ 3 < ((A 87).length : Int)) ∧ True) (f' := (24, [some (vR 1), some (vI (-3))], [vI (-3)], LAY (u (shA A) 87 (wr (A 87) 3 ((rd (A 87) 3) + 1))) (shF F), 0, 0)) hc93 10 rfl ⟨⟨by omega, by omega⟩, ⟨by omega, by omega⟩, ⟨by omega, by omega⟩, ⟨by omega, by omega⟩, trivial⟩ ?_
    refine R_reti hc93 rfl rfl ?_
    refine R_s (f' := (27, [some (vR 1), some (vI 3), some (vI p), some (vR 47)], [vI (-3)], LAY (u (shA A) 87 (wr (A 87) 3 ((rd (A 87) 3) + 1))) (shF F), 0, 0)) hc78 0 rfl trivial ?_
    refine R_reti hc78 rfl rfl ⟨⟨_, rfl⟩, ⟨_, _, rfl, rfl⟩, ?_⟩
    refine R_s (P := True) (f' := (2, [some (vR 88), some (vI 3), some (vI p)], [vI 3, vR 88], LAY (u (shA A) 87 (wr (A 87) 3 ((rd (A 87) 3) + 1))) (shF F), 0, 0)) hc152 2 rfl trivial ?_
    refine R_cv hc152 rfl rfl ?_ (fun r G h => h)
    refine R_s (P := inI ((F 0) - 1) ∧ True) (f' := (8, [some (vR 88), some (vI 3)], [vI ((F 0) - 1), vI 0, vI 3], LAY (u (shA A) 87 (wr (A 87) 3 ((rd (A 87) 3) + 1))) (shF F), 0, 0)) hc108 6 rfl ⟨⟨by omega, by omega⟩, trivial⟩ ?_
    refine R_cs hc108 rfl rfl ?_ (fun r G h => h)
    refine R_s (P := True) (f' := (2, [some (vI 3), some (vI 0), some (vI ((F 0) - 1))], [vI 0, vI 3], LAY (u (shA A) 87 (wr (A 87) 3 ((rd (A 87) 3) + 1))) (shF F), 0, 0)) hc104 2 rfl trivial ?_
    refine R_ic (t := 14) hc104 rfl rfl (fun (z : 3 < 0) => absurd z (by decide)) (fun (_ : ¬ (3 < 0)) => ?_)
    refine R_s (P := True) (f' := (7, [some (vI 3), some (vI 0), some (vI ((F 0) - 1))], [vI ((F 0) - 1), vI 3], LAY (u (shA A) 87 (wr (A 87) 3 ((rd (A 87) 3) + 1))) (shF F), 0, 0)) hc104 2 rfl trivial ?_
    refine R_ic (t := 14) hc104 rfl rfl (fun (z : (F 0) - 1 < 3) => absurd z (by omega)) (fun (_ : ¬ ((F 0) - 1 < 3)) => ?_)
    refine R_s (P := True) (f' := (15, [some (vI 3), some (vI 0), some (vI ((F 0) - 1))], [vI 1], LAY (u (shA A) 87 (wr (A 87) 3 ((rd (A 87) 3) + 1))) (shF F), 0, 0)) hc104 2 rfl trivial ?_
    refine R_retz hc104 rfl rfl (Or.inr rfl) ?_
    refine R_s (f' := (11, [some (vR 88), some (vI 3)], [vI 1], LAY (u (shA A) 87 (wr (A 87) 3 ((rd (A 87) 3) + 1))) (shF F), 0, 0)) hc108 0 rfl trivial ?_
    refine R_retz hc108 rfl rfl (Or.inr rfl) ?_
    refine R_s (f' := (5, [some (vR 88), some (vI 3), some (vI p)], [vI 1], LAY (u (shA A) 87 (wr (A 87) 3 ((rd (A 87) 3) + 1))) (shF F), 0, 0)) hc152 0 rfl trivial ?_
    refine R_if (t := 16) hc152 rfl rfl (fun (z : 1 = 0) => absurd z (by decide)) (fun (_ : ¬ (1 = 0)) => ?_)
    refine R_s (P := True) (f' := (10, [some (vR 88), some (vI 3), some (vI p)], [vI p, vR 88], LAY (u (shA A) 87 (wr (A 87) 3 ((rd (A 87) 3) + 1))) (shF F), 0, 0)) hc152 2 rfl trivial ?_
    refine R_cv hc152 rfl rfl ?_ (fun r G h => h)
    refine R_s (P := inI ((F 3) - 1) ∧ True) (f' := (8, [some (vR 88), some (vI p)], [vI ((F 3) - 1), vI 0, vI p], LAY (u (shA A) 87 (wr (A 87) 3 ((rd (A 87) 3) + 1))) (shF F), 0, 0)) hc106 6 rfl ⟨⟨by omega, by omega⟩, trivial⟩ ?_
    refine R_cs hc106 rfl rfl ?_ (fun r G h => h)
    refine R_s (P := True) (f' := (2, [some (vI p), some (vI 0), some (vI ((F 3) - 1))], [vI 0, vI p], LAY (u (shA A) 87 (wr (A 87) 3 ((rd (A 87) 3) + 1))) (shF F), 0, 0)) hc104 2 rfl trivial ?_
    refine R_ic (t := 14) hc104 rfl rfl (fun (_ : p < 0) => ?_) (fun (z : ¬ (p < 0)) => absurd (show p < 0 by omega) z)
    refine R_s (P := True) (f' := (15, [some (vI p), some (vI 0), some (vI ((F 3) - 1))], [vI 0], LAY (u (shA A) 87 (wr (A 87) 3 ((rd (A 87) 3) + 1))) (shF F), 0, 0)) hc104 1 rfl trivial ?_
    refine R_retz hc104 rfl rfl (Or.inl rfl) ?_
    refine R_s (f' := (11, [some (vR 88), some (vI p)], [vI 0], LAY (u (shA A) 87 (wr (A 87) 3 ((rd (A 87) 3) + 1))) (shF F), 0, 0)) hc106 0 rfl trivial ?_
    refine R_retz hc106 rfl rfl (Or.inl rfl) ?_
    refine R_s (f' := (13, [some (vR 88), some (vI 3), some (vI p)], [vI 0], LAY (u (shA A) 87 (wr (A 87) 3 ((rd (A 87) 3) + 1))) (shF F), 0, 0)) hc152 0 rfl trivial ?_
    refine R_if (t := 23) hc152 rfl rfl (fun (z : ¬ 0 = 0) => absurd z (by decide)) (fun (_ : ¬ (¬ 0 = 0)) => ?_)
    refine R_s (P := True) (f' := (19, [some (vR 88), some (vI 3), some (vI p)], [vI (-3), vR 88], LAY (u (shA A) 87 (wr (A 87) 3 ((rd (A 87) 3) + 1))) (shF F), 0, 0)) hc152 2 rfl trivial ?_
    refine R_cv hc152 rfl rfl ?_ (fun r G h => h)
    refine R_s (P := inI 3 ∧ (0 ≤ 3 ∧ 3 < ((A 87).length : Int)) ∧ inI ((rd (A 87) 3) + 1) ∧ (0 ≤ 3 ∧ 3 < ((A 87).length : Int)) ∧ True) (f' := (12, [some (vR 88), some (vI (-3))], [vI (-3)], LAY (u (u (shA A) 87 (wr (A 87) 3 ((rd (A 87) 3) + 1))) 89 (wr (A 87) 3 ((rd (A 87) 3) + 1))) (shF F), 0, 0)) hc105 10 rfl ⟨⟨by omega, by omega⟩, ⟨by omega, by omega⟩, ⟨by omega, by omega⟩, ⟨by omega, by omega⟩, trivial⟩ ?_
    refine R_reti hc105 rfl rfl ?_
    refine R_s (f' := (22, [some (vR 88), some (vI 3), some (vI p)], [vI (-3)], LAY (u (u (shA A) 87 (wr (A 87) 3 ((rd (A 87) 3) + 1))) 89 (wr (A 87) 3 ((rd (A 87) 3) + 1))) (shF F), 0, 0)) hc152 0 rfl trivial ?_
    refine R_reti hc152 rfl rfl ?_
    first
      | (exfalso; omega; done)
      | exact ⟨rfl, (u A 87 (wr (A 87) 3 ((rd (A 87) 3) + 1))), F, rfl, rfl, REL_ref hR0 (by decide) (by decide)⟩
  · refine R_s (P := True) (f' := (9, [some (vR 2), some (vI p)], [vI (F 3), vI p], LAY (shA A) (shF F), 0, 0)) hc5 3 rfl trivial ?_
    refine R_ic (t := 16) hc5 rfl rfl (fun (c5 : F 3 ≤ p) => ?_) (fun (c5 : ¬ (F 3 ≤ p)) => ?_)
    · refine R_s (P := True) (f' := (17, [some (vR 2), some (vI p)], [vI 0], LAY (shA A) (shF F), 0, 0)) hc5 1 rfl trivial ?_
      refine R_retz hc5 rfl rfl (Or.inl rfl) ?_
      refine R_s (f' := (18, [some (vR 1), some (vI 3), some (vI p), some (vR 47)], [vI 0], LAY (shA A) (shF F), 0, 0)) hc78 0 rfl trivial ?_
      refine R_if (t := 28) hc78 rfl rfl (fun (z : ¬ 0 = 0) => absurd z (by decide)) (fun (_ : ¬ (¬ 0 = 0)) => ?_)
      refine R_s (P := True) (f' := (24, [some (vR 1), some (vI 3), some (vI p), some (vR 47)], [vI (-3), vR 1], LAY (shA A) (shF F), 0, 0)) hc78 2 rfl trivial ?_
      refine R_cv hc78 rfl rfl ?_ (fun r G h => h)
      refine R_s (P := True) (f' := (3, [some (vR 1), some (vI (-3))], [vI (-2), vI (-3)], LAY (shA A) (shF F), 0, 0)) hc93 2 rfl trivial ?_
      refine R_ic (t := 23) hc93 rfl rfl (fun (z : (-2) < (-3)) => absurd z (by decide)) (fun (_ : ¬ ((-2) < (-3))) => ?_)
      refine R_s (P := True) (f' := (9, [some (vR 1), some (vI (-3))], [vI (-8), vI (-3)], LAY (shA A) (shF F), 0, 0)) hc93 2 rfl trivial ?_
      refine R_ic (t := 23) hc93 rfl rfl (fun (z : (-3) < (-8)) => absurd z (by decide)) (fun (_ : ¬ ((-3) < (-8))) => ?_)
      refine R_s (P := inI 3 ∧ (0 ≤ 3 ∧ 3 < ((A 87).length : Int)) ∧ inI ((rd (A 87) 3) + 1) ∧ (0 ≤ 3 ∧ 3 < ((A 87).length : Int)) ∧ True) (f' := (24, [some (vR 1), some (vI (-3))], [vI (-3)], LAY (u (shA A) 87 (wr (A 87) 3 ((rd (A 87) 3) + 1))) (shF F), 0, 0)) hc93 10 rfl ⟨⟨by omega, by omega⟩, ⟨by omega, by omega⟩, ⟨by omega, by omega⟩, ⟨by omega, by omega⟩, trivial⟩ ?_
      refine R_reti hc93 rfl rfl ?_
      refine R_s (f' := (27, [some (vR 1), some (vI 3), some (vI p), some (vR 47)], [vI (-3)], LAY (u (shA A) 87 (wr (A 87) 3 ((rd (A 87) 3) + 1))) (shF F), 0, 0)) hc78 0 rfl trivial ?_
      refine R_reti hc78 rfl rfl ⟨⟨_, rfl⟩, ⟨_, _, rfl, rfl⟩, ?_⟩
      refine R_s (P := True) (f' := (2, [some (vR 88), some (vI 3), some (vI p)], [vI 3, vR 88], LAY (u (shA A) 87 (wr (A 87) 3 ((rd (A 87) 3) + 1))) (shF F), 0, 0)) hc152 2 rfl trivial ?_
      refine R_cv hc152 rfl rfl ?_ (fun r G h => h)
      refine R_s (P := inI ((F 0) - 1) ∧ True) (f' := (8, [some (vR 88), some (vI 3)], [vI ((F 0) - 1), vI 0, vI 3], LAY (u (shA A) 87 (wr (A 87) 3 ((rd (A 87) 3) + 1))) (shF F), 0, 0)) hc108 6 rfl ⟨⟨by omega, by omega⟩, trivial⟩ ?_
      refine R_cs hc108 rfl rfl ?_ (fun r G h => h)
      refine R_s (P := True) (f' := (2, [some (vI 3), some (vI 0), some (vI ((F 0) - 1))], [vI 0, vI 3], LAY (u (shA A) 87 (wr (A 87) 3 ((rd (A 87) 3) + 1))) (shF F), 0, 0)) hc104 2 rfl trivial ?_
      refine R_ic (t := 14) hc104 rfl rfl (fun (z : 3 < 0) => absurd z (by decide)) (fun (_ : ¬ (3 < 0)) => ?_)
      refine R_s (P := True) (f' := (7, [some (vI 3), some (vI 0), some (vI ((F 0) - 1))], [vI ((F 0) - 1), vI 3], LAY (u (shA A) 87 (wr (A 87) 3 ((rd (A 87) 3) + 1))) (shF F), 0, 0)) hc104 2 rfl trivial ?_
      refine R_ic (t := 14) hc104 rfl rfl (fun (z : (F 0) - 1 < 3) => absurd z (by omega)) (fun (_ : ¬ ((F 0) - 1 < 3)) => ?_)
      refine R_s (P := True) (f' := (15, [some (vI 3), some (vI 0), some (vI ((F 0) - 1))], [vI 1], LAY (u (shA A) 87 (wr (A 87) 3 ((rd (A 87) 3) + 1))) (shF F), 0, 0)) hc104 2 rfl trivial ?_
      refine R_retz hc104 rfl rfl (Or.inr rfl) ?_
      refine R_s (f' := (11, [some (vR 88), some (vI 3)], [vI 1], LAY (u (shA A) 87 (wr (A 87) 3 ((rd (A 87) 3) + 1))) (shF F), 0, 0)) hc108 0 rfl trivial ?_
      refine R_retz hc108 rfl rfl (Or.inr rfl) ?_
      refine R_s (f' := (5, [some (vR 88), some (vI 3), some (vI p)], [vI 1], LAY (u (shA A) 87 (wr (A 87) 3 ((rd (A 87) 3) + 1))) (shF F), 0, 0)) hc152 0 rfl trivial ?_
      refine R_if (t := 16) hc152 rfl rfl (fun (z : 1 = 0) => absurd z (by decide)) (fun (_ : ¬ (1 = 0)) => ?_)
      refine R_s (P := True) (f' := (10, [some (vR 88), some (vI 3), some (vI p)], [vI p, vR 88], LAY (u (shA A) 87 (wr (A 87) 3 ((rd (A 87) 3) + 1))) (shF F), 0, 0)) hc152 2 rfl trivial ?_
      refine R_cv hc152 rfl rfl ?_ (fun r G h => h)
      refine R_s (P := inI ((F 3) - 1) ∧ True) (f' := (8, [some (vR 88), some (vI p)], [vI ((F 3) - 1), vI 0, vI p], LAY (u (shA A) 87 (wr (A 87) 3 ((rd (A 87) 3) + 1))) (shF F), 0, 0)) hc106 6 rfl ⟨⟨by omega, by omega⟩, trivial⟩ ?_
      refine R_cs hc106 rfl rfl ?_ (fun r G h => h)
      refine R_s (P := True) (f' := (2, [some (vI p), some (vI 0), some (vI ((F 3) - 1))], [vI 0, vI p], LAY (u (shA A) 87 (wr (A 87) 3 ((rd (A 87) 3) + 1))) (shF F), 0, 0)) hc104 2 rfl trivial ?_
      refine R_ic (t := 14) hc104 rfl rfl (fun (z : p < 0) => absurd z (by omega)) (fun (_ : ¬ (p < 0)) => ?_)
      refine R_s (P := True) (f' := (7, [some (vI p), some (vI 0), some (vI ((F 3) - 1))], [vI ((F 3) - 1), vI p], LAY (u (shA A) 87 (wr (A 87) 3 ((rd (A 87) 3) + 1))) (shF F), 0, 0)) hc104 2 rfl trivial ?_
      refine R_ic (t := 14) hc104 rfl rfl (fun (_ : (F 3) - 1 < p) => ?_) (fun (z : ¬ ((F 3) - 1 < p)) => absurd (show (F 3) - 1 < p by omega) z)
      refine R_s (P := True) (f' := (15, [some (vI p), some (vI 0), some (vI ((F 3) - 1))], [vI 0], LAY (u (shA A) 87 (wr (A 87) 3 ((rd (A 87) 3) + 1))) (shF F), 0, 0)) hc104 1 rfl trivial ?_
      refine R_retz hc104 rfl rfl (Or.inl rfl) ?_
      refine R_s (f' := (11, [some (vR 88), some (vI p)], [vI 0], LAY (u (shA A) 87 (wr (A 87) 3 ((rd (A 87) 3) + 1))) (shF F), 0, 0)) hc106 0 rfl trivial ?_
      refine R_retz hc106 rfl rfl (Or.inl rfl) ?_
      refine R_s (f' := (13, [some (vR 88), some (vI 3), some (vI p)], [vI 0], LAY (u (shA A) 87 (wr (A 87) 3 ((rd (A 87) 3) + 1))) (shF F), 0, 0)) hc152 0 rfl trivial ?_
      refine R_if (t := 23) hc152 rfl rfl (fun (z : ¬ 0 = 0) => absurd z (by decide)) (fun (_ : ¬ (¬ 0 = 0)) => ?_)
      refine R_s (P := True) (f' := (19, [some (vR 88), some (vI 3), some (vI p)], [vI (-3), vR 88], LAY (u (shA A) 87 (wr (A 87) 3 ((rd (A 87) 3) + 1))) (shF F), 0, 0)) hc152 2 rfl trivial ?_
      refine R_cv hc152 rfl rfl ?_ (fun r G h => h)
      refine R_s (P := inI 3 ∧ (0 ≤ 3 ∧ 3 < ((A 87).length : Int)) ∧ inI ((rd (A 87) 3) + 1) ∧ (0 ≤ 3 ∧ 3 < ((A 87).length : Int)) ∧ True) (f' := (12, [some (vR 88), some (vI (-3))], [vI (-3)], LAY (u (u (shA A) 87 (wr (A 87) 3 ((rd (A 87) 3) + 1))) 89 (wr (A 87) 3 ((rd (A 87) 3) + 1))) (shF F), 0, 0)) hc105 10 rfl ⟨⟨by omega, by omega⟩, ⟨by omega, by omega⟩, ⟨by omega, by omega⟩, ⟨by omega, by omega⟩, trivial⟩ ?_
      refine R_reti hc105 rfl rfl ?_
      refine R_s (f' := (22, [some (vR 88), some (vI 3), some (vI p)], [vI (-3)], LAY (u (u (shA A) 87 (wr (A 87) 3 ((rd (A 87) 3) + 1))) 89 (wr (A 87) 3 ((rd (A 87) 3) + 1))) (shF F), 0, 0)) hc152 0 rfl trivial ?_
      refine R_reti hc152 rfl rfl ?_
      first
        | (exfalso; omega; done)
        | exact ⟨rfl, (u A 87 (wr (A 87) 3 ((rd (A 87) 3) + 1))), F, rfl, rfl, REL_ref hR0 (by decide) (by decide)⟩
    · refine R_s (P := True) (f' := (17, [some (vR 2), some (vI p)], [vI 1], LAY (shA A) (shF F), 0, 0)) hc5 2 rfl trivial ?_
      refine R_retz hc5 rfl rfl (Or.inr rfl) ?_
      refine R_s (f' := (18, [some (vR 1), some (vI 3), some (vI p), some (vR 47)], [vI 1], LAY (shA A) (shF F), 0, 0)) hc78 0 rfl trivial ?_
      refine R_if (t := 28) hc78 rfl rfl (fun (_ : ¬ 1 = 0) => ?_) (fun (z : ¬ (¬ 1 = 0)) => absurd (by decide) z)
      refine R_s (P := True) (f' := (31, [some (vR 1), some (vI 3), some (vI p), some (vR 47)], [vI 3, vR 47, vR 1], LAY (shA A) (shF F), 0, 0)) hc78 3 rfl trivial ?_
      refine R_cv hc78 rfl rfl (l_now3 hR0 hd hS) (fun r G9 hp9 => ?_)
      obtain ⟨rfl, l8, l9, l10, l11, l75, l76, l77, l78, rfl, k8, k9, k10, k11, k75, k76, k77, k78, v75, v76, v77⟩ := hp9
      have y77 : 0 ≤ p → p < F 3 → rd l77 p = tp (p).toNat := fun q1 q2 => by
        have z := v77 (p).toNat (by omega)
        rw [show ((((p).toNat : Nat)) : Int) = p by omega] at z
        exact z
      refine R_s (f' := (34, [some (vR 1), some (vI 3), some (vI p), some (vR 47)], [], LAY (u (u (u (u (u (u (u (u (shA A) 8 l8) 9 l9) 10 l10) 11 l11) 75 l75) 76 l76) 77 l77) 78 l78) (u (u (shF F) 14 mg) 15 lo), 0, 0)) hc78 0 rfl trivial ?_
      refine R_s (P := (0 ≤ p ∧ p < ((l77).length : Int)) ∧ True) (f' := (43, [some (vR 1), some (vI 3), some (vI p), some (vR 47)], [vI (rd l77 p)], LAY (u (u (u (u (u (u (u (u (shA A) 8 l8) 9 l9) 10 l10) 11 l11) 75 l75) 76 l76) 77 l77) 78 l78) (u (u (shF F) 14 mg) 15 lo), 0, 0)) hc78 5 rfl ⟨⟨by omega, by omega⟩, trivial⟩ ?_
      refine R_reti hc78 rfl rfl ⟨⟨_, rfl⟩, ⟨_, _, rfl, rfl⟩, ?_⟩
      refine R_s (P := True) (f' := (2, [some (vR 88), some (vI 3), some (vI p)], [vI 3, vR 88], LAY (u (u (u (u (u (u (u (u (shA A) 8 l8) 9 l9) 10 l10) 11 l11) 75 l75) 76 l76) 77 l77) 78 l78) (u (u (shF F) 14 mg) 15 lo), 0, 0)) hc152 2 rfl trivial ?_
      refine R_cv hc152 rfl rfl ?_ (fun r G h => h)
      refine R_s (P := inI ((F 0) - 1) ∧ True) (f' := (8, [some (vR 88), some (vI 3)], [vI ((F 0) - 1), vI 0, vI 3], LAY (u (u (u (u (u (u (u (u (shA A) 8 l8) 9 l9) 10 l10) 11 l11) 75 l75) 76 l76) 77 l77) 78 l78) (u (u (shF F) 14 mg) 15 lo), 0, 0)) hc108 6 rfl ⟨⟨by omega, by omega⟩, trivial⟩ ?_
      refine R_cs hc108 rfl rfl ?_ (fun r G h => h)
      refine R_s (P := True) (f' := (2, [some (vI 3), some (vI 0), some (vI ((F 0) - 1))], [vI 0, vI 3], LAY (u (u (u (u (u (u (u (u (shA A) 8 l8) 9 l9) 10 l10) 11 l11) 75 l75) 76 l76) 77 l77) 78 l78) (u (u (shF F) 14 mg) 15 lo), 0, 0)) hc104 2 rfl trivial ?_
      refine R_ic (t := 14) hc104 rfl rfl (fun (z : 3 < 0) => absurd z (by decide)) (fun (_ : ¬ (3 < 0)) => ?_)
      refine R_s (P := True) (f' := (7, [some (vI 3), some (vI 0), some (vI ((F 0) - 1))], [vI ((F 0) - 1), vI 3], LAY (u (u (u (u (u (u (u (u (shA A) 8 l8) 9 l9) 10 l10) 11 l11) 75 l75) 76 l76) 77 l77) 78 l78) (u (u (shF F) 14 mg) 15 lo), 0, 0)) hc104 2 rfl trivial ?_
      refine R_ic (t := 14) hc104 rfl rfl (fun (z : (F 0) - 1 < 3) => absurd z (by omega)) (fun (_ : ¬ ((F 0) - 1 < 3)) => ?_)
      refine R_s (P := True) (f' := (15, [some (vI 3), some (vI 0), some (vI ((F 0) - 1))], [vI 1], LAY (u (u (u (u (u (u (u (u (shA A) 8 l8) 9 l9) 10 l10) 11 l11) 75 l75) 76 l76) 77 l77) 78 l78) (u (u (shF F) 14 mg) 15 lo), 0, 0)) hc104 2 rfl trivial ?_
      refine R_retz hc104 rfl rfl (Or.inr rfl) ?_
      refine R_s (f' := (11, [some (vR 88), some (vI 3)], [vI 1], LAY (u (u (u (u (u (u (u (u (shA A) 8 l8) 9 l9) 10 l10) 11 l11) 75 l75) 76 l76) 77 l77) 78 l78) (u (u (shF F) 14 mg) 15 lo), 0, 0)) hc108 0 rfl trivial ?_
      refine R_retz hc108 rfl rfl (Or.inr rfl) ?_
      refine R_s (f' := (5, [some (vR 88), some (vI 3), some (vI p)], [vI 1], LAY (u (u (u (u (u (u (u (u (shA A) 8 l8) 9 l9) 10 l10) 11 l11) 75 l75) 76 l76) 77 l77) 78 l78) (u (u (shF F) 14 mg) 15 lo), 0, 0)) hc152 0 rfl trivial ?_
      refine R_if (t := 16) hc152 rfl rfl (fun (z : 1 = 0) => absurd z (by decide)) (fun (_ : ¬ (1 = 0)) => ?_)
      refine R_s (P := True) (f' := (10, [some (vR 88), some (vI 3), some (vI p)], [vI p, vR 88], LAY (u (u (u (u (u (u (u (u (shA A) 8 l8) 9 l9) 10 l10) 11 l11) 75 l75) 76 l76) 77 l77) 78 l78) (u (u (shF F) 14 mg) 15 lo), 0, 0)) hc152 2 rfl trivial ?_
      refine R_cv hc152 rfl rfl ?_ (fun r G h => h)
      refine R_s (P := inI ((F 3) - 1) ∧ True) (f' := (8, [some (vR 88), some (vI p)], [vI ((F 3) - 1), vI 0, vI p], LAY (u (u (u (u (u (u (u (u (shA A) 8 l8) 9 l9) 10 l10) 11 l11) 75 l75) 76 l76) 77 l77) 78 l78) (u (u (shF F) 14 mg) 15 lo), 0, 0)) hc106 6 rfl ⟨⟨by omega, by omega⟩, trivial⟩ ?_
      refine R_cs hc106 rfl rfl ?_ (fun r G h => h)
      refine R_s (P := True) (f' := (2, [some (vI p), some (vI 0), some (vI ((F 3) - 1))], [vI 0, vI p], LAY (u (u (u (u (u (u (u (u (shA A) 8 l8) 9 l9) 10 l10) 11 l11) 75 l75) 76 l76) 77 l77) 78 l78) (u (u (shF F) 14 mg) 15 lo), 0, 0)) hc104 2 rfl trivial ?_
      refine R_ic (t := 14) hc104 rfl rfl (fun (z : p < 0) => absurd z (by omega)) (fun (_ : ¬ (p < 0)) => ?_)
      refine R_s (P := True) (f' := (7, [some (vI p), some (vI 0), some (vI ((F 3) - 1))], [vI ((F 3) - 1), vI p], LAY (u (u (u (u (u (u (u (u (shA A) 8 l8) 9 l9) 10 l10) 11 l11) 75 l75) 76 l76) 77 l77) 78 l78) (u (u (shF F) 14 mg) 15 lo), 0, 0)) hc104 2 rfl trivial ?_
      refine R_ic (t := 14) hc104 rfl rfl (fun (z : (F 3) - 1 < p) => absurd z (by omega)) (fun (_ : ¬ ((F 3) - 1 < p)) => ?_)
      refine R_s (P := True) (f' := (15, [some (vI p), some (vI 0), some (vI ((F 3) - 1))], [vI 1], LAY (u (u (u (u (u (u (u (u (shA A) 8 l8) 9 l9) 10 l10) 11 l11) 75 l75) 76 l76) 77 l77) 78 l78) (u (u (shF F) 14 mg) 15 lo), 0, 0)) hc104 2 rfl trivial ?_
      refine R_retz hc104 rfl rfl (Or.inr rfl) ?_
      refine R_s (f' := (11, [some (vR 88), some (vI p)], [vI 1], LAY (u (u (u (u (u (u (u (u (shA A) 8 l8) 9 l9) 10 l10) 11 l11) 75 l75) 76 l76) 77 l77) 78 l78) (u (u (shF F) 14 mg) 15 lo), 0, 0)) hc106 0 rfl trivial ?_
      refine R_retz hc106 rfl rfl (Or.inr rfl) ?_
      refine R_s (f' := (13, [some (vR 88), some (vI 3), some (vI p)], [vI 1], LAY (u (u (u (u (u (u (u (u (shA A) 8 l8) 9 l9) 10 l10) 11 l11) 75 l75) 76 l76) 77 l77) 78 l78) (u (u (shF F) 14 mg) 15 lo), 0, 0)) hc152 0 rfl trivial ?_
      refine R_if (t := 23) hc152 rfl rfl (fun (_ : ¬ 1 = 0) => ?_) (fun (z : ¬ (¬ 1 = 0)) => absurd (by decide) z)
      refine R_s (P := True) (f' := (25, [some (vR 88), some (vI 3), some (vI p)], [vI 3, vR 88], LAY (u (u (u (u (u (u (u (u (shA A) 8 l8) 9 l9) 10 l10) 11 l11) 75 l75) 76 l76) 77 l77) 78 l78) (u (u (shF F) 14 mg) 15 lo), 0, 0)) hc152 2 rfl trivial ?_
      refine R_cv hc152 rfl rfl (l_worksR hR0 (A1 := (u (u (u (u (u (u (u (u (shA A) 8 l8) 9 l9) 10 l10) 11 l11) 75 l75) 76 l76) 77 l77) 78 l78)) (F1 := (u (u (shF F) 14 mg) 15 lo)) rfl rfl rfl rfl rfl rfl rfl rfl rfl rfl rfl rfl rfl (hL 104 (by decide)) (hL 105 (by decide)) (hL 107 (by decide)) (hL 108 (by decide)) (hL 109 (by decide)) (hL 110 (by decide)) (hL 111 (by decide)) hD.1 hD.2 rfl hS) (fun r G9 hp9 => ?_)
      obtain ⟨rfl, l104, l105, l107, l108, l109, l110, l111, ac, rfl, k104, k105, k107, k108, k109, k110, k111, hac, w107, w108⟩ := hp9
      have y108 : 0 ≤ p → p < F 3 → rd l108 p = tp (p).toNat := fun q1 q2 => by
        have z := w108 (p).toNat (by omega)
        rw [show ((((p).toNat : Nat)) : Int) = p by omega] at z
        exact z
      refine R_s (f' := (28, [some (vR 88), some (vI 3), some (vI p)], [], LAY (u (u (u (u (u (u (u (u (u (u (u (u (u (u (u (shA A) 8 l8) 9 l9) 10 l10) 11 l11) 75 l75) 76 l76) 77 l77) 78 l78) 109 l109) 104 l104) 105 l105) 110 l110) 111 l111) 108 l108) 107 l107) (u (u (u (u (u (u (shF F) 14 mg) 15 lo) 28 (N_Y A F 3)) 29 ac) 30 mg) 31 lo), 0, 0)) hc152 0 rfl trivial ?_
      refine R_s (P := (0 ≤ p ∧ p < ((l108).length : Int)) ∧ True) (f' := (34, [some (vR 88), some (vI 3), some (vI p)], [vI (rd l108 p)], LAY (u (u (u (u (u (u (u (u (u (u (u (u (u (u (u (shA A) 8 l8) 9 l9) 10 l10) 11 l11) 75 l75) 76 l76) 77 l77) 78 l78) 109 l109) 104 l104) 105 l105) 110 l110) 111 l111) 108 l108) 107 l107) (u (u (u (u (u (u (shF F) 14 mg) 15 lo) 28 (N_Y A F 3)) 29 ac) 30 mg) 31 lo), 0, 0)) hc152 4 rfl ⟨⟨by omega, by omega⟩, trivial⟩ ?_
      refine R_reti hc152 rfl rfl ?_
      first
        | (exfalso; omega; done)
        | exact ⟨(by rw [show rd l108 p = rd l77 p by omega]), (u (u (u (u (u (u (u (u (u (u (u (u (u (u (u A 8 l8) 9 l9) 10 l10) 11 l11) 75 l75) 76 l76) 77 l77) 78 l78) 109 l109) 104 l104) 105 l105) 110 l110) 111 l111) 108 l108) 107 l107), (u (u (u (u (u (u F 14 mg) 15 lo) 28 (N_Y A F 3)) 29 ac) 30 mg) 31 lo), rfl, rfl, ⟨(LENS_u (LENS_u (LENS_u (LENS_u (LENS_u (LENS_u (LENS_u (LENS_u (LENS_u (LENS_u (LENS_u (LENS_u (LENS_u (LENS_u (LENS_u hL (by show (l8).length = (A 8).length; rw [k8, hL 8 (by decide)]; rfl)) (by show (l9).length = (A 9).length; rw [k9, hL 9 (by decide)]; rfl)) (by show (l10).length = (A 10).length; rw [k10, hL 10 (by decide)]; rfl)) (by show (l11).length = (A 11).length; rw [k11, hL 11 (by decide)]; rfl)) (by show (l75).length = (A 75).length; rw [k75, hL 75 (by decide)]; rfl)) (by show (l76).length = (A 76).length; rw [k76, hL 76 (by decide)]; rfl)) (by show (l77).length = (A 77).length; rw [k77, hL 77 (by decide)]; rfl)) (by show (l78).length = (A 78).length; rw [k78, hL 78 (by decide)]; rfl)) (by show (l109).length = (A 109).length; rw [k109, hL 109 (by decide)]; rfl)) (by show (l104).length = (A 104).length; rw [k104, hL 104 (by decide)]; rfl)) (by show (l105).length = (A 105).length; rw [k105, hL 105 (by decide)]; rfl)) (by show (l110).length = (A 110).length; rw [k110, hL 110 (by decide)]; rfl)) (by show (l111).length = (A 111).length; rw [k111, hL 111 (by decide)]; rfl)) (by show (l108).length = (A 108).length; rw [k108, hL 108 (by decide)]; rfl)) (by show (l107).length = (A 107).length; rw [k107, hL 107 (by decide)]; rfl)), hR0.2.1, hR0.2.2.1, hR0.2.2.2.1, hR0.2.2.2.2.1, hR0.2.2.2.2.2.1, hR0.2.2.2.2.2.2.1, hR0.2.2.2.2.2.2.2.1, hR0.2.2.2.2.2.2.2.2.1, (REFU_c hR0.2.2.2.2.2.2.2.2.2)⟩⟩

theorem op_due_4 {c : Int} {A : Nat → List Int} {F : Nat → Int} (hR : REL c A F) (hc : c < 512) (p : Int) (i_p : inI p) (hd : (4 : Int) < F 0) : R 78 (0, L0 78 [vR 1, vI 4, vI p], [], LAY (shA A) (shF F), 0, 0) (fun r G => (∃ x, r = some (vI x)) ∧ (∃ (A1 : Nat → List Int) (F1 : Nat → Int), G = LAY A1 F1 ∧ A1 0 = A 0) ∧ R 152 (0, L0 152 [vR 88, vI 4, vI p], [], G, 0, 0) (fun r2 G2 => r2 = r ∧ ∃ (A' : Nat → List Int) (F' : Nat → Int), G2 = LAY (shA A') (shF F') ∧ A' 0 = A 0 ∧ REL (c + 1) A' F')) := by
  have hR0 := hR
  obtain ⟨hL, hPE, hTH, hTP, hDE, hLE, hNO, hAC, hRO, hRE⟩ := hR
  have j_p := i_p
  unfold inI at j_p
  have h87 : (A 87).length = 9 := hL 87 (by decide)
  have h99 : (A 99).length = 6 := hL 99 (by decide)
  have r2 := REFU_at hRE (k := 2) (by decide) (by decide) hc
  have r3 := REFU_at hRE (k := 3) (by decide) (by decide) hc
  have r4 := REFU_at hRE (k := 4) (by decide) (by decide) hc
  have r5 := REFU_at hRE (k := 5) (by decide) (by decide) hc
  have r6 := REFU_at hRE (k := 6) (by decide) (by decide) hc
  have r7 := REFU_at hRE (k := 7) (by decide) (by decide) hc
  have r8 := REFU_at hRE (k := 8) (by decide) (by decide) hc
  obtain ⟨t1, t2, t3, t4, t5, t6⟩ := hTH
  obtain ⟨p1, p2, p3, p4, p5, p6⟩ := hPE
  have hD := D_at4 hR0 hd
  have he1 := hD.1.1
  have he2 := hD.1.2.1
  have hme : rd (A 99) 4 = F 12 := by
    have := hD.2.2.2.2.1
    omega
  obtain ⟨so, te, tp, mg, pm, lo, hS⟩ := SPL_ex A F (N_al A F) (N_Q A 57) (F 12).toNat (N_Y A F 4)
  refine R_s (P := True) (f' := (2, [some (vR 1), some (vI 4), some (vI p), none], [vI 4, vR 1], LAY (shA A) (shF F), 0, 0)) hc78 2 rfl trivial ?_
  refine R_cv hc78 rfl rfl ?_ (fun r G h => h)
  refine R_s (P := True) (f' := (2, [some (vR 1), some (vI 4)], [vI 4, vR 1], LAY (shA A) (shF F), 0, 0)) hc99 2 rfl trivial ?_
  refine R_cv hc99 rfl rfl ?_ (fun r G h => h)
  refine R_s (P := True) (f' := (1, [some (vR 1), some (vI 4)], [vI 4], LAY (shA A) (shF F), 0, 0)) hc98 1 rfl trivial ?_
  refine R_if (t := 16) hc98 rfl rfl (fun (z : 4 < 0) => absurd z (by decide)) (fun (_ : ¬ (4 < 0)) => ?_)
  refine R_s (P := True) (f' := (9, [some (vR 1), some (vI 4)], [vI (F 0), vI 4], LAY (shA A) (shF F), 0, 0)) hc98 3 rfl trivial ?_
  refine R_ic (t := 16) hc98 rfl rfl (fun (z : F 0 ≤ 4) => absurd z (by omega)) (fun (_ : ¬ (F 0 ≤ 4)) => ?_)
  refine R_s (P := True) (f' := (17, [some (vR 1), some (vI 4)], [vI 1], LAY (shA A) (shF F), 0, 0)) hc98 2 rfl trivial ?_
  refine R_retz hc98 rfl rfl (Or.inr rfl) ?_
  refine R_s (f' := (5, [some (vR 1), some (vI 4)], [vI 1], LAY (shA A) (shF F), 0, 0)) hc99 0 rfl trivial ?_
  refine R_if (t := 17) hc99 rfl rfl (fun (z : 1 = 0) => absurd z (by decide)) (fun (_ : ¬ (1 = 0)) => ?_)
  refine R_s (P := (0 ≤ (4 : Int) ∧ (4 : Int) < (([some 20, some 29, some 38, some 47, some 56, some 65] : List (Option Nat)).length : Int)) ∧ True) (f' := (18, [some (vR 1), some (vI 4)], [vR 56], LAY (shA A) (shF F), 0, 0)) hc99 5 rfl ⟨(by decide), trivial⟩ ?_
  refine R_reta hc99 rfl rfl ?_
  refine R_s (f' := (5, [some (vR 1), some (vI 4), some (vI p), none], [vR 56], LAY (shA A) (shF F), 0, 0)) hc78 0 rfl trivial ?_
  refine R_s (P := True) (f' := (15, [some (vR 1), some (vI 4), some (vI p), some (vR 56)], [vI p, vR 2], LAY (shA A) (shF F), 0, 0)) hc78 6 rfl trivial ?_
  refine R_cv hc78 rfl rfl ?_ (fun r G h => h)
  refine R_s (P := True) (f' := (1, [some (vR 2), some (vI p)], [vI p], LAY (shA A) (shF F), 0, 0)) hc5 1 rfl trivial ?_
  refine R_if (t := 16) hc5 rfl rfl (fun (c4 : p < 0) => ?_) (fun (c4 : ¬ (p < 0)) => ?_)
  · refine R_s (P := True) (f' := (17, [some (vR 2), some (vI p)], [vI 0], LAY (shA A) (shF F), 0, 0)) hc5 1 rfl trivial ?_
    refine R_retz hc5 rfl rfl (Or.inl rfl) ?_
    refine R_s (f' := (18, [some (vR 1), some (vI 4), some (vI p), some (vR 56)], [vI 0], LAY (shA A) (shF F), 0, 0)) hc78 0 rfl trivial ?_
    refine R_if (t := 28) hc78 rfl rfl (fun (z : ¬ 0 = 0) => absurd z (by decide)) (fun (_ : ¬ (¬ 0 = 0)) => ?_)
    refine R_s (P := True) (f' := (24, [some (vR 1), some (vI 4), some (vI p), some (vR 56)], [vI (-3), vR 1], LAY (shA A) (shF F), 0, 0)) hc78 2 rfl trivial ?_
    refine R_cv hc78 rfl rfl ?_ (fun r G h => h)
    refine R_s (P := True) (f' := (3, [some (vR 1), some (vI (-3))], [vI (-2), vI (-3)], LAY (shA A) (shF F), 0, 0)) hc93 2 rfl trivial ?_
    refine R_ic (t := 23) hc93 rfl rfl (fun (z : (-2) < (-3)) => absurd z (by decide)) (fun (_ : ¬ ((-2) < (-3))) => ?_)
    refine R_s (P := True) (f' := (9, [some (vR 1), some (vI (-3))], [vI (-8), vI (-3)], LAY (shA A) (shF F), 0, 0)) hc93 2 rfl trivial ?_
    refine R_ic (t := 23) hc93 rfl rfl (fun (z : (-3) < (-8)) => absurd z (by decide)) (fun (_ : ¬ ((-3) < (-8))) => ?_)
    refine R_s (P := inI 3 ∧ (0 ≤ 3 ∧ 3 < ((A 87).length : Int)) ∧ inI ((rd (A 87) 3) + 1) ∧ (0 ≤ 3 ∧ 3 < ((A 87).length : Int)) ∧ True) (f' := (24, [some (vR 1), some (vI (-3))], [vI (-3)], LAY (u (shA A) 87 (wr (A 87) 3 ((rd (A 87) 3) + 1))) (shF F), 0, 0)) hc93 10 rfl ⟨⟨by omega, by omega⟩, ⟨by omega, by omega⟩, ⟨by omega, by omega⟩, ⟨by omega, by omega⟩, trivial⟩ ?_
    refine R_reti hc93 rfl rfl ?_
    refine R_s (f' := (27, [some (vR 1), some (vI 4), some (vI p), some (vR 56)], [vI (-3)], LAY (u (shA A) 87 (wr (A 87) 3 ((rd (A 87) 3) + 1))) (shF F), 0, 0)) hc78 0 rfl trivial ?_
    refine R_reti hc78 rfl rfl ⟨⟨_, rfl⟩, ⟨_, _, rfl, rfl⟩, ?_⟩
    refine R_s (P := True) (f' := (2, [some (vR 88), some (vI 4), some (vI p)], [vI 4, vR 88], LAY (u (shA A) 87 (wr (A 87) 3 ((rd (A 87) 3) + 1))) (shF F), 0, 0)) hc152 2 rfl trivial ?_
    refine R_cv hc152 rfl rfl ?_ (fun r G h => h)
    refine R_s (P := inI ((F 0) - 1) ∧ True) (f' := (8, [some (vR 88), some (vI 4)], [vI ((F 0) - 1), vI 0, vI 4], LAY (u (shA A) 87 (wr (A 87) 3 ((rd (A 87) 3) + 1))) (shF F), 0, 0)) hc108 6 rfl ⟨⟨by omega, by omega⟩, trivial⟩ ?_
    refine R_cs hc108 rfl rfl ?_ (fun r G h => h)
    refine R_s (P := True) (f' := (2, [some (vI 4), some (vI 0), some (vI ((F 0) - 1))], [vI 0, vI 4], LAY (u (shA A) 87 (wr (A 87) 3 ((rd (A 87) 3) + 1))) (shF F), 0, 0)) hc104 2 rfl trivial ?_
    refine R_ic (t := 14) hc104 rfl rfl (fun (z : 4 < 0) => absurd z (by decide)) (fun (_ : ¬ (4 < 0)) => ?_)
    refine R_s (P := True) (f' := (7, [some (vI 4), some (vI 0), some (vI ((F 0) - 1))], [vI ((F 0) - 1), vI 4], LAY (u (shA A) 87 (wr (A 87) 3 ((rd (A 87) 3) + 1))) (shF F), 0, 0)) hc104 2 rfl trivial ?_
    refine R_ic (t := 14) hc104 rfl rfl (fun (z : (F 0) - 1 < 4) => absurd z (by omega)) (fun (_ : ¬ ((F 0) - 1 < 4)) => ?_)
    refine R_s (P := True) (f' := (15, [some (vI 4), some (vI 0), some (vI ((F 0) - 1))], [vI 1], LAY (u (shA A) 87 (wr (A 87) 3 ((rd (A 87) 3) + 1))) (shF F), 0, 0)) hc104 2 rfl trivial ?_
    refine R_retz hc104 rfl rfl (Or.inr rfl) ?_
    refine R_s (f' := (11, [some (vR 88), some (vI 4)], [vI 1], LAY (u (shA A) 87 (wr (A 87) 3 ((rd (A 87) 3) + 1))) (shF F), 0, 0)) hc108 0 rfl trivial ?_
    refine R_retz hc108 rfl rfl (Or.inr rfl) ?_
    refine R_s (f' := (5, [some (vR 88), some (vI 4), some (vI p)], [vI 1], LAY (u (shA A) 87 (wr (A 87) 3 ((rd (A 87) 3) + 1))) (shF F), 0, 0)) hc152 0 rfl trivial ?_
    refine R_if (t := 16) hc152 rfl rfl (fun (z : 1 = 0) => absurd z (by decide)) (fun (_ : ¬ (1 = 0)) => ?_)
    refine R_s (P := True) (f' := (10, [some (vR 88), some (vI 4), some (vI p)], [vI p, vR 88], LAY (u (shA A) 87 (wr (A 87) 3 ((rd (A 87) 3) + 1))) (shF F), 0, 0)) hc152 2 rfl trivial ?_
    refine R_cv hc152 rfl rfl ?_ (fun r G h => h)
    refine R_s (P := inI ((F 3) - 1) ∧ True) (f' := (8, [some (vR 88), some (vI p)], [vI ((F 3) - 1), vI 0, vI p], LAY (u (shA A) 87 (wr (A 87) 3 ((rd (A 87) 3) + 1))) (shF F), 0, 0)) hc106 6 rfl ⟨⟨by omega, by omega⟩, trivial⟩ ?_
    refine R_cs hc106 rfl rfl ?_ (fun r G h => h)
    refine R_s (P := True) (f' := (2, [some (vI p), some (vI 0), some (vI ((F 3) - 1))], [vI 0, vI p], LAY (u (shA A) 87 (wr (A 87) 3 ((rd (A 87) 3) + 1))) (shF F), 0, 0)) hc104 2 rfl trivial ?_
    refine R_ic (t := 14) hc104 rfl rfl (fun (_ : p < 0) => ?_) (fun (z : ¬ (p < 0)) => absurd (show p < 0 by omega) z)
    refine R_s (P := True) (f' := (15, [some (vI p), some (vI 0), some (vI ((F 3) - 1))], [vI 0], LAY (u (shA A) 87 (wr (A 87) 3 ((rd (A 87) 3) + 1))) (shF F), 0, 0)) hc104 1 rfl trivial ?_
    refine R_retz hc104 rfl rfl (Or.inl rfl) ?_
    refine R_s (f' := (11, [some (vR 88), some (vI p)], [vI 0], LAY (u (shA A) 87 (wr (A 87) 3 ((rd (A 87) 3) + 1))) (shF F), 0, 0)) hc106 0 rfl trivial ?_
    refine R_retz hc106 rfl rfl (Or.inl rfl) ?_
    refine R_s (f' := (13, [some (vR 88), some (vI 4), some (vI p)], [vI 0], LAY (u (shA A) 87 (wr (A 87) 3 ((rd (A 87) 3) + 1))) (shF F), 0, 0)) hc152 0 rfl trivial ?_
    refine R_if (t := 23) hc152 rfl rfl (fun (z : ¬ 0 = 0) => absurd z (by decide)) (fun (_ : ¬ (¬ 0 = 0)) => ?_)
    refine R_s (P := True) (f' := (19, [some (vR 88), some (vI 4), some (vI p)], [vI (-3), vR 88], LAY (u (shA A) 87 (wr (A 87) 3 ((rd (A 87) 3) + 1))) (shF F), 0, 0)) hc152 2 rfl trivial ?_
    refine R_cv hc152 rfl rfl ?_ (fun r G h => h)
    refine R_s (P := inI 3 ∧ (0 ≤ 3 ∧ 3 < ((A 87).length : Int)) ∧ inI ((rd (A 87) 3) + 1) ∧ (0 ≤ 3 ∧ 3 < ((A 87).length : Int)) ∧ True) (f' := (12, [some (vR 88), some (vI (-3))], [vI (-3)], LAY (u (u (shA A) 87 (wr (A 87) 3 ((rd (A 87) 3) + 1))) 89 (wr (A 87) 3 ((rd (A 87) 3) + 1))) (shF F), 0, 0)) hc105 10 rfl ⟨⟨by omega, by omega⟩, ⟨by omega, by omega⟩, ⟨by omega, by omega⟩, ⟨by omega, by omega⟩, trivial⟩ ?_
    refine R_reti hc105 rfl rfl ?_
    refine R_s (f' := (22, [some (vR 88), some (vI 4), some (vI p)], [vI (-3)], LAY (u (u (shA A) 87 (wr (A 87) 3 ((rd (A 87) 3) + 1))) 89 (wr (A 87) 3 ((rd (A 87) 3) + 1))) (shF F), 0, 0)) hc152 0 rfl trivial ?_
    refine R_reti hc152 rfl rfl ?_
    first
      | (exfalso; omega; done)
      | exact ⟨rfl, (u A 87 (wr (A 87) 3 ((rd (A 87) 3) + 1))), F, rfl, rfl, REL_ref hR0 (by decide) (by decide)⟩
  · refine R_s (P := True) (f' := (9, [some (vR 2), some (vI p)], [vI (F 3), vI p], LAY (shA A) (shF F), 0, 0)) hc5 3 rfl trivial ?_
    refine R_ic (t := 16) hc5 rfl rfl (fun (c5 : F 3 ≤ p) => ?_) (fun (c5 : ¬ (F 3 ≤ p)) => ?_)
    · refine R_s (P := True) (f' := (17, [some (vR 2), some (vI p)], [vI 0], LAY (shA A) (shF F), 0, 0)) hc5 1 rfl trivial ?_
      refine R_retz hc5 rfl rfl (Or.inl rfl) ?_
      refine R_s (f' := (18, [some (vR 1), some (vI 4), some (vI p), some (vR 56)], [vI 0], LAY (shA A) (shF F), 0, 0)) hc78 0 rfl trivial ?_
      refine R_if (t := 28) hc78 rfl rfl (fun (z : ¬ 0 = 0) => absurd z (by decide)) (fun (_ : ¬ (¬ 0 = 0)) => ?_)
      refine R_s (P := True) (f' := (24, [some (vR 1), some (vI 4), some (vI p), some (vR 56)], [vI (-3), vR 1], LAY (shA A) (shF F), 0, 0)) hc78 2 rfl trivial ?_
      refine R_cv hc78 rfl rfl ?_ (fun r G h => h)
      refine R_s (P := True) (f' := (3, [some (vR 1), some (vI (-3))], [vI (-2), vI (-3)], LAY (shA A) (shF F), 0, 0)) hc93 2 rfl trivial ?_
      refine R_ic (t := 23) hc93 rfl rfl (fun (z : (-2) < (-3)) => absurd z (by decide)) (fun (_ : ¬ ((-2) < (-3))) => ?_)
      refine R_s (P := True) (f' := (9, [some (vR 1), some (vI (-3))], [vI (-8), vI (-3)], LAY (shA A) (shF F), 0, 0)) hc93 2 rfl trivial ?_
      refine R_ic (t := 23) hc93 rfl rfl (fun (z : (-3) < (-8)) => absurd z (by decide)) (fun (_ : ¬ ((-3) < (-8))) => ?_)
      refine R_s (P := inI 3 ∧ (0 ≤ 3 ∧ 3 < ((A 87).length : Int)) ∧ inI ((rd (A 87) 3) + 1) ∧ (0 ≤ 3 ∧ 3 < ((A 87).length : Int)) ∧ True) (f' := (24, [some (vR 1), some (vI (-3))], [vI (-3)], LAY (u (shA A) 87 (wr (A 87) 3 ((rd (A 87) 3) + 1))) (shF F), 0, 0)) hc93 10 rfl ⟨⟨by omega, by omega⟩, ⟨by omega, by omega⟩, ⟨by omega, by omega⟩, ⟨by omega, by omega⟩, trivial⟩ ?_
      refine R_reti hc93 rfl rfl ?_
      refine R_s (f' := (27, [some (vR 1), some (vI 4), some (vI p), some (vR 56)], [vI (-3)], LAY (u (shA A) 87 (wr (A 87) 3 ((rd (A 87) 3) + 1))) (shF F), 0, 0)) hc78 0 rfl trivial ?_
      refine R_reti hc78 rfl rfl ⟨⟨_, rfl⟩, ⟨_, _, rfl, rfl⟩, ?_⟩
      refine R_s (P := True) (f' := (2, [some (vR 88), some (vI 4), some (vI p)], [vI 4, vR 88], LAY (u (shA A) 87 (wr (A 87) 3 ((rd (A 87) 3) + 1))) (shF F), 0, 0)) hc152 2 rfl trivial ?_
      refine R_cv hc152 rfl rfl ?_ (fun r G h => h)
      refine R_s (P := inI ((F 0) - 1) ∧ True) (f' := (8, [some (vR 88), some (vI 4)], [vI ((F 0) - 1), vI 0, vI 4], LAY (u (shA A) 87 (wr (A 87) 3 ((rd (A 87) 3) + 1))) (shF F), 0, 0)) hc108 6 rfl ⟨⟨by omega, by omega⟩, trivial⟩ ?_
      refine R_cs hc108 rfl rfl ?_ (fun r G h => h)
      refine R_s (P := True) (f' := (2, [some (vI 4), some (vI 0), some (vI ((F 0) - 1))], [vI 0, vI 4], LAY (u (shA A) 87 (wr (A 87) 3 ((rd (A 87) 3) + 1))) (shF F), 0, 0)) hc104 2 rfl trivial ?_
      refine R_ic (t := 14) hc104 rfl rfl (fun (z : 4 < 0) => absurd z (by decide)) (fun (_ : ¬ (4 < 0)) => ?_)
      refine R_s (P := True) (f' := (7, [some (vI 4), some (vI 0), some (vI ((F 0) - 1))], [vI ((F 0) - 1), vI 4], LAY (u (shA A) 87 (wr (A 87) 3 ((rd (A 87) 3) + 1))) (shF F), 0, 0)) hc104 2 rfl trivial ?_
      refine R_ic (t := 14) hc104 rfl rfl (fun (z : (F 0) - 1 < 4) => absurd z (by omega)) (fun (_ : ¬ ((F 0) - 1 < 4)) => ?_)
      refine R_s (P := True) (f' := (15, [some (vI 4), some (vI 0), some (vI ((F 0) - 1))], [vI 1], LAY (u (shA A) 87 (wr (A 87) 3 ((rd (A 87) 3) + 1))) (shF F), 0, 0)) hc104 2 rfl trivial ?_
      refine R_retz hc104 rfl rfl (Or.inr rfl) ?_
      refine R_s (f' := (11, [some (vR 88), some (vI 4)], [vI 1], LAY (u (shA A) 87 (wr (A 87) 3 ((rd (A 87) 3) + 1))) (shF F), 0, 0)) hc108 0 rfl trivial ?_
      refine R_retz hc108 rfl rfl (Or.inr rfl) ?_
      refine R_s (f' := (5, [some (vR 88), some (vI 4), some (vI p)], [vI 1], LAY (u (shA A) 87 (wr (A 87) 3 ((rd (A 87) 3) + 1))) (shF F), 0, 0)) hc152 0 rfl trivial ?_
      refine R_if (t := 16) hc152 rfl rfl (fun (z : 1 = 0) => absurd z (by decide)) (fun (_ : ¬ (1 = 0)) => ?_)
      refine R_s (P := True) (f' := (10, [some (vR 88), some (vI 4), some (vI p)], [vI p, vR 88], LAY (u (shA A) 87 (wr (A 87) 3 ((rd (A 87) 3) + 1))) (shF F), 0, 0)) hc152 2 rfl trivial ?_
      refine R_cv hc152 rfl rfl ?_ (fun r G h => h)
      refine R_s (P := inI ((F 3) - 1) ∧ True) (f' := (8, [some (vR 88), some (vI p)], [vI ((F 3) - 1), vI 0, vI p], LAY (u (shA A) 87 (wr (A 87) 3 ((rd (A 87) 3) + 1))) (shF F), 0, 0)) hc106 6 rfl ⟨⟨by omega, by omega⟩, trivial⟩ ?_
      refine R_cs hc106 rfl rfl ?_ (fun r G h => h)
      refine R_s (P := True) (f' := (2, [some (vI p), some (vI 0), some (vI ((F 3) - 1))], [vI 0, vI p], LAY (u (shA A) 87 (wr (A 87) 3 ((rd (A 87) 3) + 1))) (shF F), 0, 0)) hc104 2 rfl trivial ?_
      refine R_ic (t := 14) hc104 rfl rfl (fun (z : p < 0) => absurd z (by omega)) (fun (_ : ¬ (p < 0)) => ?_)
      refine R_s (P := True) (f' := (7, [some (vI p), some (vI 0), some (vI ((F 3) - 1))], [vI ((F 3) - 1), vI p], LAY (u (shA A) 87 (wr (A 87) 3 ((rd (A 87) 3) + 1))) (shF F), 0, 0)) hc104 2 rfl trivial ?_
      refine R_ic (t := 14) hc104 rfl rfl (fun (_ : (F 3) - 1 < p) => ?_) (fun (z : ¬ ((F 3) - 1 < p)) => absurd (show (F 3) - 1 < p by omega) z)
      refine R_s (P := True) (f' := (15, [some (vI p), some (vI 0), some (vI ((F 3) - 1))], [vI 0], LAY (u (shA A) 87 (wr (A 87) 3 ((rd (A 87) 3) + 1))) (shF F), 0, 0)) hc104 1 rfl trivial ?_
      refine R_retz hc104 rfl rfl (Or.inl rfl) ?_
      refine R_s (f' := (11, [some (vR 88), some (vI p)], [vI 0], LAY (u (shA A) 87 (wr (A 87) 3 ((rd (A 87) 3) + 1))) (shF F), 0, 0)) hc106 0 rfl trivial ?_
      refine R_retz hc106 rfl rfl (Or.inl rfl) ?_
      refine R_s (f' := (13, [some (vR 88), some (vI 4), some (vI p)], [vI 0], LAY (u (shA A) 87 (wr (A 87) 3 ((rd (A 87) 3) + 1))) (shF F), 0, 0)) hc152 0 rfl trivial ?_
      refine R_if (t := 23) hc152 rfl rfl (fun (z : ¬ 0 = 0) => absurd z (by decide)) (fun (_ : ¬ (¬ 0 = 0)) => ?_)
      refine R_s (P := True) (f' := (19, [some (vR 88), some (vI 4), some (vI p)], [vI (-3), vR 88], LAY (u (shA A) 87 (wr (A 87) 3 ((rd (A 87) 3) + 1))) (shF F), 0, 0)) hc152 2 rfl trivial ?_
      refine R_cv hc152 rfl rfl ?_ (fun r G h => h)
      refine R_s (P := inI 3 ∧ (0 ≤ 3 ∧ 3 < ((A 87).length : Int)) ∧ inI ((rd (A 87) 3) + 1) ∧ (0 ≤ 3 ∧ 3 < ((A 87).length : Int)) ∧ True) (f' := (12, [some (vR 88), some (vI (-3))], [vI (-3)], LAY (u (u (shA A) 87 (wr (A 87) 3 ((rd (A 87) 3) + 1))) 89 (wr (A 87) 3 ((rd (A 87) 3) + 1))) (shF F), 0, 0)) hc105 10 rfl ⟨⟨by omega, by omega⟩, ⟨by omega, by omega⟩, ⟨by omega, by omega⟩, ⟨by omega, by omega⟩, trivial⟩ ?_
      refine R_reti hc105 rfl rfl ?_
      refine R_s (f' := (22, [some (vR 88), some (vI 4), some (vI p)], [vI (-3)], LAY (u (u (shA A) 87 (wr (A 87) 3 ((rd (A 87) 3) + 1))) 89 (wr (A 87) 3 ((rd (A 87) 3) + 1))) (shF F), 0, 0)) hc152 0 rfl trivial ?_
      refine R_reti hc152 rfl rfl ?_
      first
        | (exfalso; omega; done)
        | exact ⟨rfl, (u A 87 (wr (A 87) 3 ((rd (A 87) 3) + 1))), F, rfl, rfl, REL_ref hR0 (by decide) (by decide)⟩
    · refine R_s (P := True) (f' := (17, [some (vR 2), some (vI p)], [vI 1], LAY (shA A) (shF F), 0, 0)) hc5 2 rfl trivial ?_
      refine R_retz hc5 rfl rfl (Or.inr rfl) ?_
      refine R_s (f' := (18, [some (vR 1), some (vI 4), some (vI p), some (vR 56)], [vI 1], LAY (shA A) (shF F), 0, 0)) hc78 0 rfl trivial ?_
      refine R_if (t := 28) hc78 rfl rfl (fun (_ : ¬ 1 = 0) => ?_) (fun (z : ¬ (¬ 1 = 0)) => absurd (by decide) z)
      refine R_s (P := True) (f' := (31, [some (vR 1), some (vI 4), some (vI p), some (vR 56)], [vI 4, vR 56, vR 1], LAY (shA A) (shF F), 0, 0)) hc78 3 rfl trivial ?_
      refine R_cv hc78 rfl rfl (l_now4 hR0 hd hS) (fun r G9 hp9 => ?_)
      obtain ⟨rfl, l8, l9, l10, l11, l75, l76, l77, l78, rfl, k8, k9, k10, k11, k75, k76, k77, k78, v75, v76, v77⟩ := hp9
      have y77 : 0 ≤ p → p < F 3 → rd l77 p = tp (p).toNat := fun q1 q2 => by
        have z := v77 (p).toNat (by omega)
        rw [show ((((p).toNat : Nat)) : Int) = p by omega] at z
        exact z
      refine R_s (f' := (34, [some (vR 1), some (vI 4), some (vI p), some (vR 56)], [], LAY (u (u (u (u (u (u (u (u (shA A) 8 l8) 9 l9) 10 l10) 11 l11) 75 l75) 76 l76) 77 l77) 78 l78) (u (u (shF F) 14 mg) 15 lo), 0, 0)) hc78 0 rfl trivial ?_
      refine R_s (P := (0 ≤ p ∧ p < ((l77).length : Int)) ∧ True) (f' := (43, [some (vR 1), some (vI 4), some (vI p), some (vR 56)], [vI (rd l77 p)], LAY (u (u (u (u (u (u (u (u (shA A) 8 l8) 9 l9) 10 l10) 11 l11) 75 l75) 76 l76) 77 l77) 78 l78) (u (u (shF F) 14 mg) 15 lo), 0, 0)) hc78 5 rfl ⟨⟨by omega, by omega⟩, trivial⟩ ?_
      refine R_reti hc78 rfl rfl ⟨⟨_, rfl⟩, ⟨_, _, rfl, rfl⟩, ?_⟩
      refine R_s (P := True) (f' := (2, [some (vR 88), some (vI 4), some (vI p)], [vI 4, vR 88], LAY (u (u (u (u (u (u (u (u (shA A) 8 l8) 9 l9) 10 l10) 11 l11) 75 l75) 76 l76) 77 l77) 78 l78) (u (u (shF F) 14 mg) 15 lo), 0, 0)) hc152 2 rfl trivial ?_
      refine R_cv hc152 rfl rfl ?_ (fun r G h => h)
      refine R_s (P := inI ((F 0) - 1) ∧ True) (f' := (8, [some (vR 88), some (vI 4)], [vI ((F 0) - 1), vI 0, vI 4], LAY (u (u (u (u (u (u (u (u (shA A) 8 l8) 9 l9) 10 l10) 11 l11) 75 l75) 76 l76) 77 l77) 78 l78) (u (u (shF F) 14 mg) 15 lo), 0, 0)) hc108 6 rfl ⟨⟨by omega, by omega⟩, trivial⟩ ?_
      refine R_cs hc108 rfl rfl ?_ (fun r G h => h)
      refine R_s (P := True) (f' := (2, [some (vI 4), some (vI 0), some (vI ((F 0) - 1))], [vI 0, vI 4], LAY (u (u (u (u (u (u (u (u (shA A) 8 l8) 9 l9) 10 l10) 11 l11) 75 l75) 76 l76) 77 l77) 78 l78) (u (u (shF F) 14 mg) 15 lo), 0, 0)) hc104 2 rfl trivial ?_
      refine R_ic (t := 14) hc104 rfl rfl (fun (z : 4 < 0) => absurd z (by decide)) (fun (_ : ¬ (4 < 0)) => ?_)
      refine R_s (P := True) (f' := (7, [some (vI 4), some (vI 0), some (vI ((F 0) - 1))], [vI ((F 0) - 1), vI 4], LAY (u (u (u (u (u (u (u (u (shA A) 8 l8) 9 l9) 10 l10) 11 l11) 75 l75) 76 l76) 77 l77) 78 l78) (u (u (shF F) 14 mg) 15 lo), 0, 0)) hc104 2 rfl trivial ?_
      refine R_ic (t := 14) hc104 rfl rfl (fun (z : (F 0) - 1 < 4) => absurd z (by omega)) (fun (_ : ¬ ((F 0) - 1 < 4)) => ?_)
      refine R_s (P := True) (f' := (15, [some (vI 4), some (vI 0), some (vI ((F 0) - 1))], [vI 1], LAY (u (u (u (u (u (u (u (u (shA A) 8 l8) 9 l9) 10 l10) 11 l11) 75 l75) 76 l76) 77 l77) 78 l78) (u (u (shF F) 14 mg) 15 lo), 0, 0)) hc104 2 rfl trivial ?_
      refine R_retz hc104 rfl rfl (Or.inr rfl) ?_
      refine R_s (f' := (11, [some (vR 88), some (vI 4)], [vI 1], LAY (u (u (u (u (u (u (u (u (shA A) 8 l8) 9 l9) 10 l10) 11 l11) 75 l75) 76 l76) 77 l77) 78 l78) (u (u (shF F) 14 mg) 15 lo), 0, 0)) hc108 0 rfl trivial ?_
      refine R_retz hc108 rfl rfl (Or.inr rfl) ?_
      refine R_s (f' := (5, [some (vR 88), some (vI 4), some (vI p)], [vI 1], LAY (u (u (u (u (u (u (u (u (shA A) 8 l8) 9 l9) 10 l10) 11 l11) 75 l75) 76 l76) 77 l77) 78 l78) (u (u (shF F) 14 mg) 15 lo), 0, 0)) hc152 0 rfl trivial ?_
      refine R_if (t := 16) hc152 rfl rfl (fun (z : 1 = 0) => absurd z (by decide)) (fun (_ : ¬ (1 = 0)) => ?_)
      refine R_s (P := True) (f' := (10, [some (vR 88), some (vI 4), some (vI p)], [vI p, vR 88], LAY (u (u (u (u (u (u (u (u (shA A) 8 l8) 9 l9) 10 l10) 11 l11) 75 l75) 76 l76) 77 l77) 78 l78) (u (u (shF F) 14 mg) 15 lo), 0, 0)) hc152 2 rfl trivial ?_
      refine R_cv hc152 rfl rfl ?_ (fun r G h => h)
      refine R_s (P := inI ((F 3) - 1) ∧ True) (f' := (8, [some (vR 88), some (vI p)], [vI ((F 3) - 1), vI 0, vI p], LAY (u (u (u (u (u (u (u (u (shA A) 8 l8) 9 l9) 10 l10) 11 l11) 75 l75) 76 l76) 77 l77) 78 l78) (u (u (shF F) 14 mg) 15 lo), 0, 0)) hc106 6 rfl ⟨⟨by omega, by omega⟩, trivial⟩ ?_
      refine R_cs hc106 rfl rfl ?_ (fun r G h => h)
      refine R_s (P := True) (f' := (2, [some (vI p), some (vI 0), some (vI ((F 3) - 1))], [vI 0, vI p], LAY (u (u (u (u (u (u (u (u (shA A) 8 l8) 9 l9) 10 l10) 11 l11) 75 l75) 76 l76) 77 l77) 78 l78) (u (u (shF F) 14 mg) 15 lo), 0, 0)) hc104 2 rfl trivial ?_
      refine R_ic (t := 14) hc104 rfl rfl (fun (z : p < 0) => absurd z (by omega)) (fun (_ : ¬ (p < 0)) => ?_)
      refine R_s (P := True) (f' := (7, [some (vI p), some (vI 0), some (vI ((F 3) - 1))], [vI ((F 3) - 1), vI p], LAY (u (u (u (u (u (u (u (u (shA A) 8 l8) 9 l9) 10 l10) 11 l11) 75 l75) 76 l76) 77 l77) 78 l78) (u (u (shF F) 14 mg) 15 lo), 0, 0)) hc104 2 rfl trivial ?_
      refine R_ic (t := 14) hc104 rfl rfl (fun (z : (F 3) - 1 < p) => absurd z (by omega)) (fun (_ : ¬ ((F 3) - 1 < p)) => ?_)
      refine R_s (P := True) (f' := (15, [some (vI p), some (vI 0), some (vI ((F 3) - 1))], [vI 1], LAY (u (u (u (u (u (u (u (u (shA A) 8 l8) 9 l9) 10 l10) 11 l11) 75 l75) 76 l76) 77 l77) 78 l78) (u (u (shF F) 14 mg) 15 lo), 0, 0)) hc104 2 rfl trivial ?_
      refine R_retz hc104 rfl rfl (Or.inr rfl) ?_
      refine R_s (f' := (11, [some (vR 88), some (vI p)], [vI 1], LAY (u (u (u (u (u (u (u (u (shA A) 8 l8) 9 l9) 10 l10) 11 l11) 75 l75) 76 l76) 77 l77) 78 l78) (u (u (shF F) 14 mg) 15 lo), 0, 0)) hc106 0 rfl trivial ?_
      refine R_retz hc106 rfl rfl (Or.inr rfl) ?_
      refine R_s (f' := (13, [some (vR 88), some (vI 4), some (vI p)], [vI 1], LAY (u (u (u (u (u (u (u (u (shA A) 8 l8) 9 l9) 10 l10) 11 l11) 75 l75) 76 l76) 77 l77) 78 l78) (u (u (shF F) 14 mg) 15 lo), 0, 0)) hc152 0 rfl trivial ?_
      refine R_if (t := 23) hc152 rfl rfl (fun (_ : ¬ 1 = 0) => ?_) (fun (z : ¬ (¬ 1 = 0)) => absurd (by decide) z)
      refine R_s (P := True) (f' := (25, [some (vR 88), some (vI 4), some (vI p)], [vI 4, vR 88], LAY (u (u (u (u (u (u (u (u (shA A) 8 l8) 9 l9) 10 l10) 11 l11) 75 l75) 76 l76) 77 l77) 78 l78) (u (u (shF F) 14 mg) 15 lo), 0, 0)) hc152 2 rfl trivial ?_
      refine R_cv hc152 rfl rfl (l_worksR hR0 (A1 := (u (u (u (u (u (u (u (u (shA A) 8 l8) 9 l9) 10 l10) 11 l11) 75 l75) 76 l76) 77 l77) 78 l78)) (F1 := (u (u (shF F) 14 mg) 15 lo)) rfl rfl rfl rfl rfl rfl rfl rfl rfl rfl rfl rfl rfl (hL 104 (by decide)) (hL 105 (by decide)) (hL 107 (by decide)) (hL 108 (by decide)) (hL 109 (by decide)) (hL 110 (by decide)) (hL 111 (by decide)) hD.1 hD.2 rfl hS) (fun r G9 hp9 => ?_)
      obtain ⟨rfl, l104, l105, l107, l108, l109, l110, l111, ac, rfl, k104, k105, k107, k108, k109, k110, k111, hac, w107, w108⟩ := hp9
      have y108 : 0 ≤ p → p < F 3 → rd l108 p = tp (p).toNat := fun q1 q2 => by
        have z := w108 (p).toNat (by omega)
        rw [show ((((p).toNat : Nat)) : Int) = p by omega] at z
        exact z
      refine R_s (f' := (28, [some (vR 88), some (vI 4), some (vI p)], [], LAY (u (u (u (u (u (u (u (u (u (u (u (u (u (u (u (shA A) 8 l8) 9 l9) 10 l10) 11 l11) 75 l75) 76 l76) 77 l77) 78 l78) 109 l109) 104 l104) 105 l105) 110 l110) 111 l111) 108 l108) 107 l107) (u (u (u (u (u (u (shF F) 14 mg) 15 lo) 28 (N_Y A F 4)) 29 ac) 30 mg) 31 lo), 0, 0)) hc152 0 rfl trivial ?_
      refine R_s (P := (0 ≤ p ∧ p < ((l108).length : Int)) ∧ True) (f' := (34, [some (vR 88), some (vI 4), some (vI p)], [vI (rd l108 p)], LAY (u (u (u (u (u (u (u (u (u (u (u (u (u (u (u (shA A) 8 l8) 9 l9) 10 l10) 11 l11) 75 l75) 76 l76) 77 l77) 78 l78) 109 l109) 104 l104) 105 l105) 110 l110) 111 l111) 108 l108) 107 l107) (u (u (u (u (u (u (shF F) 14 mg) 15 lo) 28 (N_Y A F 4)) 29 ac) 30 mg) 31 lo), 0, 0)) hc152 4 rfl ⟨⟨by omega, by omega⟩, trivial⟩ ?_
      refine R_reti hc152 rfl rfl ?_
      first
        | (exfalso; omega; done)
        | exact ⟨(by rw [show rd l108 p = rd l77 p by omega]), (u (u (u (u (u (u (u (u (u (u (u (u (u (u (u A 8 l8) 9 l9) 10 l10) 11 l11) 75 l75) 76 l76) 77 l77) 78 l78) 109 l109) 104 l104) 105 l105) 110 l110) 111 l111) 108 l108) 107 l107), (u (u (u (u (u (u F 14 mg) 15 lo) 28 (N_Y A F 4)) 29 ac) 30 mg) 31 lo), rfl, rfl, ⟨(LENS_u (LENS_u (LENS_u (LENS_u (LENS_u (LENS_u (LENS_u (LENS_u (LENS_u (LENS_u (LENS_u (LENS_u (LENS_u (LENS_u (LENS_u hL (by show (l8).length = (A 8).length; rw [k8, hL 8 (by decide)]; rfl)) (by show (l9).length = (A 9).length; rw [k9, hL 9 (by decide)]; rfl)) (by show (l10).length = (A 10).length; rw [k10, hL 10 (by decide)]; rfl)) (by show (l11).length = (A 11).length; rw [k11, hL 11 (by decide)]; rfl)) (by show (l75).length = (A 75).length; rw [k75, hL 75 (by decide)]; rfl)) (by show (l76).length = (A 76).length; rw [k76, hL 76 (by decide)]; rfl)) (by show (l77).length = (A 77).length; rw [k77, hL 77 (by decide)]; rfl)) (by show (l78).length = (A 78).length; rw [k78, hL 78 (by decide)]; rfl)) (by show (l109).length = (A 109).length; rw [k109, hL 109 (by decide)]; rfl)) (by show (l104).length = (A 104).length; rw [k104, hL 104 (by decide)]; rfl)) (by show (l105).length = (A 105).length; rw [k105, hL 105 (by decide)]; rfl)) (by show (l110).length = (A 110).length; rw [k110, hL 110 (by decide)]; rfl)) (by show (l111).length = (A 111).length; rw [k111, hL 111 (by decide)]; rfl)) (by show (l108).length = (A 108).length; rw [k108, hL 108 (by decide)]; rfl)) (by show (l107).length = (A 107).length; rw [k107, hL 107 (by decide)]; rfl)), hR0.2.1, hR0.2.2.1, hR0.2.2.2.1, hR0.2.2.2.2.1, hR0.2.2.2.2.2.1, hR0.2.2.2.2.2.2.1, hR0.2.2.2.2.2.2.2.1, hR0.2.2.2.2.2.2.2.2.1, (REFU_c hR0.2.2.2.2.2.2.2.2.2)⟩⟩

theorem op_due_5 {c : Int} {A : Nat → List Int} {F : Nat → Int} (hR : REL c A F) (hc : c < 512) (p : Int) (i_p : inI p) (hd : (5 : Int) < F 0) : R 78 (0, L0 78 [vR 1, vI 5, vI p], [], LAY (shA A) (shF F), 0, 0) (fun r G => (∃ x, r = some (vI x)) ∧ (∃ (A1 : Nat → List Int) (F1 : Nat → Int), G = LAY A1 F1 ∧ A1 0 = A 0) ∧ R 152 (0, L0 152 [vR 88, vI 5, vI p], [], G, 0, 0) (fun r2 G2 => r2 = r ∧ ∃ (A' : Nat → List Int) (F' : Nat → Int), G2 = LAY (shA A') (shF F') ∧ A' 0 = A 0 ∧ REL (c + 1) A' F')) := by
  have hR0 := hR
  obtain ⟨hL, hPE, hTH, hTP, hDE, hLE, hNO, hAC, hRO, hRE⟩ := hR
  have j_p := i_p
  unfold inI at j_p
  have h87 : (A 87).length = 9 := hL 87 (by decide)
  have h99 : (A 99).length = 6 := hL 99 (by decide)
  have r2 := REFU_at hRE (k := 2) (by decide) (by decide) hc
  have r3 := REFU_at hRE (k := 3) (by decide) (by decide) hc
  have r4 := REFU_at hRE (k := 4) (by decide) (by decide) hc
  have r5 := REFU_at hRE (k := 5) (by decide) (by decide) hc
  have r6 := REFU_at hRE (k := 6) (by decide) (by decide) hc
  have r7 := REFU_at hRE (k := 7) (by decide) (by decide) hc
  have r8 := REFU_at hRE (k := 8) (by decide) (by decide) hc
  obtain ⟨t1, t2, t3, t4, t5, t6⟩ := hTH
  obtain ⟨p1, p2, p3, p4, p5, p6⟩ := hPE
  have hD := D_at5 hR0 hd
  have he1 := hD.1.1
  have he2 := hD.1.2.1
  have hme : rd (A 99) 5 = F 13 := by
    have := hD.2.2.2.2.1
    omega
  obtain ⟨so, te, tp, mg, pm, lo, hS⟩ := SPL_ex A F (N_al A F) (N_Q A 66) (F 13).toNat (N_Y A F 5)
  refine R_s (P := True) (f' := (2, [some (vR 1), some (vI 5), some (vI p), none], [vI 5, vR 1], LAY (shA A) (shF F), 0, 0)) hc78 2 rfl trivial ?_
  refine R_cv hc78 rfl rfl ?_ (fun r G h => h)
  refine R_s (P := True) (f' := (2, [some (vR 1), some (vI 5)], [vI 5, vR 1], LAY (shA A) (shF F), 0, 0)) hc99 2 rfl trivial ?_
  refine R_cv hc99 rfl rfl ?_ (fun r G h => h)
  refine R_s (P := True) (f' := (1, [some (vR 1), some (vI 5)], [vI 5], LAY (shA A) (shF F), 0, 0)) hc98 1 rfl trivial ?_
  refine R_if (t := 16) hc98 rfl rfl (fun (z : 5 < 0) => absurd z (by decide)) (fun (_ : ¬ (5 < 0)) => ?_)
  refine R_s (P := True) (f' := (9, [some (vR 1), some (vI 5)], [vI (F 0), vI 5], LAY (shA A) (shF F), 0, 0)) hc98 3 rfl trivial ?_
  refine R_ic (t := 16) hc98 rfl rfl (fun (z : F 0 ≤ 5) => absurd z (by omega)) (fun (_ : ¬ (F 0 ≤ 5)) => ?_)
  refine R_s (P := True) (f' := (17, [some (vR 1), some (vI 5)], [vI 1], LAY (shA A) (shF F), 0, 0)) hc98 2 rfl trivial ?_
  refine R_retz hc98 rfl rfl (Or.inr rfl) ?_
  refine R_s (f' := (5, [some (vR 1), some (vI 5)], [vI 1], LAY (shA A) (shF F), 0, 0)) hc99 0 rfl trivial ?_
  refine R_if (t := 17) hc99 rfl rfl (fun (z : 1 = 0) => absurd z (by decide)) (fun (_ : ¬ (1 = 0)) => ?_)
  refine R_s (P := (0 ≤ (5 : Int) ∧ (5 : Int) < (([some 20, some 29, some 38, some 47, some 56, some 65] : List (Option Nat)).length : Int)) ∧ True) (f' := (18, [some (vR 1), some (vI 5)], [vR 65], LAY (shA A) (shF F), 0, 0)) hc99 5 rfl ⟨(by decide), trivial⟩ ?_
  refine R_reta hc99 rfl rfl ?_
  refine R_s (f' := (5, [some (vR 1), some (vI 5), some (vI p), none], [vR 65], LAY (shA A) (shF F), 0, 0)) hc78 0 rfl trivial ?_
  refine R_s (P := True) (f' := (15, [some (vR 1), some (vI 5), some (vI p), some (vR 65)], [vI p, vR 2], LAY (shA A) (shF F), 0, 0)) hc78 6 rfl trivial ?_
  refine R_cv hc78 rfl rfl ?_ (fun r G h => h)
  refine R_s (P := True) (f' := (1, [some (vR 2), some (vI p)], [vI p], LAY (shA A) (shF F), 0, 0)) hc5 1 rfl trivial ?_
  refine R_if (t := 16) hc5 rfl rfl (fun (c4 : p < 0) => ?_) (fun (c4 : ¬ (p < 0)) => ?_)
  · refine R_s (P := True) (f' := (17, [some (vR 2), some (vI p)], [vI 0], LAY (shA A) (shF F), 0, 0)) hc5 1 rfl trivial ?_
    refine R_retz hc5 rfl rfl (Or.inl rfl) ?_
    refine R_s (f' := (18, [some (vR 1), some (vI 5), some (vI p), some (vR 65)], [vI 0], LAY (shA A) (shF F), 0, 0)) hc78 0 rfl trivial ?_
    refine R_if (t := 28) hc78 rfl rfl (fun (z : ¬ 0 = 0) => absurd z (by decide)) (fun (_ : ¬ (¬ 0 = 0)) => ?_)
    refine R_s (P := True) (f' := (24, [some (vR 1), some (vI 5), some (vI p), some (vR 65)], [vI (-3), vR 1], LAY (shA A) (shF F), 0, 0)) hc78 2 rfl trivial ?_
    refine R_cv hc78 rfl rfl ?_ (fun r G h => h)
    refine R_s (P := True) (f' := (3, [some (vR 1), some (vI (-3))], [vI (-2), vI (-3)], LAY (shA A) (shF F), 0, 0)) hc93 2 rfl trivial ?_
    refine R_ic (t := 23) hc93 rfl rfl (fun (z : (-2) < (-3)) => absurd z (by decide)) (fun (_ : ¬ ((-2) < (-3))) => ?_)
    refine R_s (P := True) (f' := (9, [some (vR 1), some (vI (-3))], [vI (-8), vI (-3)], LAY (shA A) (shF F), 0, 0)) hc93 2 rfl trivial ?_
    refine R_ic (t := 23) hc93 rfl rfl (fun (z : (-3) < (-8)) => absurd z (by decide)) (fun (_ : ¬ ((-3) < (-8))) => ?_)
    refine R_s (P := inI 3 ∧ (0 ≤ 3 ∧ 3 < ((A 87).length : Int)) ∧ inI ((rd (A 87) 3) + 1) ∧ (0 ≤ 3 ∧ 3 < ((A 87).length : Int)) ∧ True) (f' := (24, [some (vR 1), some (vI (-3))], [vI (-3)], LAY (u (shA A) 87 (wr (A 87) 3 ((rd (A 87) 3) + 1))) (shF F), 0, 0)) hc93 10 rfl ⟨⟨by omega, by omega⟩, ⟨by omega, by omega⟩, ⟨by omega, by omega⟩, ⟨by omega, by omega⟩, trivial⟩ ?_
    refine R_reti hc93 rfl rfl ?_
    refine R_s (f' := (27, [some (vR 1), some (vI 5), some (vI p), some (vR 65)], [vI (-3)], LAY (u (shA A) 87 (wr (A 87) 3 ((rd (A 87) 3) + 1))) (shF F), 0, 0)) hc78 0 rfl trivial ?_
    refine R_reti hc78 rfl rfl ⟨⟨_, rfl⟩, ⟨_, _, rfl, rfl⟩, ?_⟩
    refine R_s (P := True) (f' := (2, [some (vR 88), some (vI 5), some (vI p)], [vI 5, vR 88], LAY (u (shA A) 87 (wr (A 87) 3 ((rd (A 87) 3) + 1))) (shF F), 0, 0)) hc152 2 rfl trivial ?_
    refine R_cv hc152 rfl rfl ?_ (fun r G h => h)
    refine R_s (P := inI ((F 0) - 1) ∧ True) (f' := (8, [some (vR 88), some (vI 5)], [vI ((F 0) - 1), vI 0, vI 5], LAY (u (shA A) 87 (wr (A 87) 3 ((rd (A 87) 3) + 1))) (shF F), 0, 0)) hc108 6 rfl ⟨⟨by omega, by omega⟩, trivial⟩ ?_
    refine R_cs hc108 rfl rfl ?_ (fun r G h => h)
    refine R_s (P := True) (f' := (2, [some (vI 5), some (vI 0), some (vI ((F 0) - 1))], [vI 0, vI 5], LAY (u (shA A) 87 (wr (A 87) 3 ((rd (A 87) 3) + 1))) (shF F), 0, 0)) hc104 2 rfl trivial ?_
    refine R_ic (t := 14) hc104 rfl rfl (fun (z : 5 < 0) => absurd z (by decide)) (fun (_ : ¬ (5 < 0)) => ?_)
    refine R_s (P := True) (f' := (7, [some (vI 5), some (vI 0), some (vI ((F 0) - 1))], [vI ((F 0) - 1), vI 5], LAY (u (shA A) 87 (wr (A 87) 3 ((rd (A 87) 3) + 1))) (shF F), 0, 0)) hc104 2 rfl trivial ?_
    refine R_ic (t := 14) hc104 rfl rfl (fun (z : (F 0) - 1 < 5) => absurd z (by omega)) (fun (_ : ¬ ((F 0) - 1 < 5)) => ?_)
    refine R_s (P := True) (f' := (15, [some (vI 5), some (vI 0), some (vI ((F 0) - 1))], [vI 1], LAY (u (shA A) 87 (wr (A 87) 3 ((rd (A 87) 3) + 1))) (shF F), 0, 0)) hc104 2 rfl trivial ?_
    refine R_retz hc104 rfl rfl (Or.inr rfl) ?_
    refine R_s (f' := (11, [some (vR 88), some (vI 5)], [vI 1], LAY (u (shA A) 87 (wr (A 87) 3 ((rd (A 87) 3) + 1))) (shF F), 0, 0)) hc108 0 rfl trivial ?_
    refine R_retz hc108 rfl rfl (Or.inr rfl) ?_
    refine R_s (f' := (5, [some (vR 88), some (vI 5), some (vI p)], [vI 1], LAY (u (shA A) 87 (wr (A 87) 3 ((rd (A 87) 3) + 1))) (shF F), 0, 0)) hc152 0 rfl trivial ?_
    refine R_if (t := 16) hc152 rfl rfl (fun (z : 1 = 0) => absurd z (by decide)) (fun (_ : ¬ (1 = 0)) => ?_)
    refine R_s (P := True) (f' := (10, [some (vR 88), some (vI 5), some (vI p)], [vI p, vR 88], LAY (u (shA A) 87 (wr (A 87) 3 ((rd (A 87) 3) + 1))) (shF F), 0, 0)) hc152 2 rfl trivial ?_
    refine R_cv hc152 rfl rfl ?_ (fun r G h => h)
    refine R_s (P := inI ((F 3) - 1) ∧ True) (f' := (8, [some (vR 88), some (vI p)], [vI ((F 3) - 1), vI 0, vI p], LAY (u (shA A) 87 (wr (A 87) 3 ((rd (A 87) 3) + 1))) (shF F), 0, 0)) hc106 6 rfl ⟨⟨by omega, by omega⟩, trivial⟩ ?_
    refine R_cs hc106 rfl rfl ?_ (fun r G h => h)
    refine R_s (P := True) (f' := (2, [some (vI p), some (vI 0), some (vI ((F 3) - 1))], [vI 0, vI p], LAY (u (shA A) 87 (wr (A 87) 3 ((rd (A 87) 3) + 1))) (shF F), 0, 0)) hc104 2 rfl trivial ?_
    refine R_ic (t := 14) hc104 rfl rfl (fun (_ : p < 0) => ?_) (fun (z : ¬ (p < 0)) => absurd (show p < 0 by omega) z)
    refine R_s (P := True) (f' := (15, [some (vI p), some (vI 0), some (vI ((F 3) - 1))], [vI 0], LAY (u (shA A) 87 (wr (A 87) 3 ((rd (A 87) 3) + 1))) (shF F), 0, 0)) hc104 1 rfl trivial ?_
    refine R_retz hc104 rfl rfl (Or.inl rfl) ?_
    refine R_s (f' := (11, [some (vR 88), some (vI p)], [vI 0], LAY (u (shA A) 87 (wr (A 87) 3 ((rd (A 87) 3) + 1))) (shF F), 0, 0)) hc106 0 rfl trivial ?_
    refine R_retz hc106 rfl rfl (Or.inl rfl) ?_
    refine R_s (f' := (13, [some (vR 88), some (vI 5), some (vI p)], [vI 0], LAY (u (shA A) 87 (wr (A 87) 3 ((rd (A 87) 3) + 1))) (shF F), 0, 0)) hc152 0 rfl trivial ?_
    refine R_if (t := 23) hc152 rfl rfl (fun (z : ¬ 0 = 0) => absurd z (by decide)) (fun (_ : ¬ (¬ 0 = 0)) => ?_)
    refine R_s (P := True) (f' := (19, [some (vR 88), some (vI 5), some (vI p)], [vI (-3), vR 88], LAY (u (shA A) 87 (wr (A 87) 3 ((rd (A 87) 3) + 1))) (shF F), 0, 0)) hc152 2 rfl trivial ?_
    refine R_cv hc152 rfl rfl ?_ (fun r G h => h)
    refine R_s (P := inI 3 ∧ (0 ≤ 3 ∧ 3 < ((A 87).length : Int)) ∧ inI ((rd (A 87) 3) + 1) ∧ (0 ≤ 3 ∧ 3 < ((A 87).length : Int)) ∧ True) (f' := (12, [some (vR 88), some (vI (-3))], [vI (-3)], LAY (u (u (shA A) 87 (wr (A 87) 3 ((rd (A 87) 3) + 1))) 89 (wr (A 87) 3 ((rd (A 87) 3) + 1))) (shF F), 0, 0)) hc105 10 rfl ⟨⟨by omega, by omega⟩, ⟨by omega, by omega⟩, ⟨by omega, by omega⟩, ⟨by omega, by omega⟩, trivial⟩ ?_
    refine R_reti hc105 rfl rfl ?_
    refine R_s (f' := (22, [some (vR 88), some (vI 5), some (vI p)], [vI (-3)], LAY (u (u (shA A) 87 (wr (A 87) 3 ((rd (A 87) 3) + 1))) 89 (wr (A 87) 3 ((rd (A 87) 3) + 1))) (shF F), 0, 0)) hc152 0 rfl trivial ?_
    refine R_reti hc152 rfl rfl ?_
    first
      | (exfalso; omega; done)
      | exact ⟨rfl, (u A 87 (wr (A 87) 3 ((rd (A 87) 3) + 1))), F, rfl, rfl, REL_ref hR0 (by decide) (by decide)⟩
  · refine R_s (P := True) (f' := (9, [some (vR 2), some (vI p)], [vI (F 3), vI p], LAY (shA A) (shF F), 0, 0)) hc5 3 rfl trivial ?_
    refine R_ic (t := 16) hc5 rfl rfl (fun (c5 : F 3 ≤ p) => ?_) (fun (c5 : ¬ (F 3 ≤ p)) => ?_)
    · refine R_s (P := True) (f' := (17, [some (vR 2), some (vI p)], [vI 0], LAY (shA A) (shF F), 0, 0)) hc5 1 rfl trivial ?_
      refine R_retz hc5 rfl rfl (Or.inl rfl) ?_
      refine R_s (f' := (18, [some (vR 1), some (vI 5), some (vI p), some (vR 65)], [vI 0], LAY (shA A) (shF F), 0, 0)) hc78 0 rfl trivial ?_
      refine R_if (t := 28) hc78 rfl rfl (fun (z : ¬ 0 = 0) => absurd z (by decide)) (fun (_ : ¬ (¬ 0 = 0)) => ?_)
      refine R_s (P := True) (f' := (24, [some (vR 1), some (vI 5), some (vI p), some (vR 65)], [vI (-3), vR 1], LAY (shA A) (shF F), 0, 0)) hc78 2 rfl trivial ?_
      refine R_cv hc78 rfl rfl ?_ (fun r G h => h)
      refine R_s (P := True) (f' := (3, [some (vR 1), some (vI (-3))], [vI (-2), vI (-3)], LAY (shA A) (shF F), 0, 0)) hc93 2 rfl trivial ?_
      refine R_ic (t := 23) hc93 rfl rfl (fun (z : (-2) < (-3)) => absurd z (by decide)) (fun (_ : ¬ ((-2) < (-3))) => ?_)
      refine R_s (P := True) (f' := (9, [some (vR 1), some (vI (-3))], [vI (-8), vI (-3)], LAY (shA A) (shF F), 0, 0)) hc93 2 rfl trivial ?_
      refine R_ic (t := 23) hc93 rfl rfl (fun (z : (-3) < (-8)) => absurd z (by decide)) (fun (_ : ¬ ((-3) < (-8))) => ?_)
      refine R_s (P := inI 3 ∧ (0 ≤ 3 ∧ 3 < ((A 87).length : Int)) ∧ inI ((rd (A 87) 3) + 1) ∧ (0 ≤ 3 ∧ 3 < ((A 87).length : Int)) ∧ True) (f' := (24, [some (vR 1), some (vI (-3))], [vI (-3)], LAY (u (shA A) 87 (wr (A 87) 3 ((rd (A 87) 3) + 1))) (shF F), 0, 0)) hc93 10 rfl ⟨⟨by omega, by omega⟩, ⟨by omega, by omega⟩, ⟨by omega, by omega⟩, ⟨by omega, by omega⟩, trivial⟩ ?_
      refine R_reti hc93 rfl rfl ?_
      refine R_s (f' := (27, [some (vR 1), some (vI 5), some (vI p), some (vR 65)], [vI (-3)], LAY (u (shA A) 87 (wr (A 87) 3 ((rd (A 87) 3) + 1))) (shF F), 0, 0)) hc78 0 rfl trivial ?_
      refine R_reti hc78 rfl rfl ⟨⟨_, rfl⟩, ⟨_, _, rfl, rfl⟩, ?_⟩
      refine R_s (P := True) (f' := (2, [some (vR 88), some (vI 5), some (vI p)], [vI 5, vR 88], LAY (u (shA A) 87 (wr (A 87) 3 ((rd (A 87) 3) + 1))) (shF F), 0, 0)) hc152 2 rfl trivial ?_
      refine R_cv hc152 rfl rfl ?_ (fun r G h => h)
      refine R_s (P := inI ((F 0) - 1) ∧ True) (f' := (8, [some (vR 88), some (vI 5)], [vI ((F 0) - 1), vI 0, vI 5], LAY (u (shA A) 87 (wr (A 87) 3 ((rd (A 87) 3) + 1))) (shF F), 0, 0)) hc108 6 rfl ⟨⟨by omega, by omega⟩, trivial⟩ ?_
      refine R_cs hc108 rfl rfl ?_ (fun r G h => h)
      refine R_s (P := True) (f' := (2, [some (vI 5), some (vI 0), some (vI ((F 0) - 1))], [vI 0, vI 5], LAY (u (shA A) 87 (wr (A 87) 3 ((rd (A 87) 3) + 1))) (shF F), 0, 0)) hc104 2 rfl trivial ?_
      refine R_ic (t := 14) hc104 rfl rfl (fun (z : 5 < 0) => absurd z (by decide)) (fun (_ : ¬ (5 < 0)) => ?_)
      refine R_s (P := True) (f' := (7, [some (vI 5), some (vI 0), some (vI ((F 0) - 1))], [vI ((F 0) - 1), vI 5], LAY (u (shA A) 87 (wr (A 87) 3 ((rd (A 87) 3) + 1))) (shF F), 0, 0)) hc104 2 rfl trivial ?_
      refine R_ic (t := 14) hc104 rfl rfl (fun (z : (F 0) - 1 < 5) => absurd z (by omega)) (fun (_ : ¬ ((F 0) - 1 < 5)) => ?_)
      refine R_s (P := True) (f' := (15, [some (vI 5), some (vI 0), some (vI ((F 0) - 1))], [vI 1], LAY (u (shA A) 87 (wr (A 87) 3 ((rd (A 87) 3) + 1))) (shF F), 0, 0)) hc104 2 rfl trivial ?_
      refine R_retz hc104 rfl rfl (Or.inr rfl) ?_
      refine R_s (f' := (11, [some (vR 88), some (vI 5)], [vI 1], LAY (u (shA A) 87 (wr (A 87) 3 ((rd (A 87) 3) + 1))) (shF F), 0, 0)) hc108 0 rfl trivial ?_
      refine R_retz hc108 rfl rfl (Or.inr rfl) ?_
      refine R_s (f' := (5, [some (vR 88), some (vI 5), some (vI p)], [vI 1], LAY (u (shA A) 87 (wr (A 87) 3 ((rd (A 87) 3) + 1))) (shF F), 0, 0)) hc152 0 rfl trivial ?_
      refine R_if (t := 16) hc152 rfl rfl (fun (z : 1 = 0) => absurd z (by decide)) (fun (_ : ¬ (1 = 0)) => ?_)
      refine R_s (P := True) (f' := (10, [some (vR 88), some (vI 5), some (vI p)], [vI p, vR 88], LAY (u (shA A) 87 (wr (A 87) 3 ((rd (A 87) 3) + 1))) (shF F), 0, 0)) hc152 2 rfl trivial ?_
      refine R_cv hc152 rfl rfl ?_ (fun r G h => h)
      refine R_s (P := inI ((F 3) - 1) ∧ True) (f' := (8, [some (vR 88), some (vI p)], [vI ((F 3) - 1), vI 0, vI p], LAY (u (shA A) 87 (wr (A 87) 3 ((rd (A 87) 3) + 1))) (shF F), 0, 0)) hc106 6 rfl ⟨⟨by omega, by omega⟩, trivial⟩ ?_
      refine R_cs hc106 rfl rfl ?_ (fun r G h => h)
      refine R_s (P := True) (f' := (2, [some (vI p), some (vI 0), some (vI ((F 3) - 1))], [vI 0, vI p], LAY (u (shA A) 87 (wr (A 87) 3 ((rd (A 87) 3) + 1))) (shF F), 0, 0)) hc104 2 rfl trivial ?_
      refine R_ic (t := 14) hc104 rfl rfl (fun (z : p < 0) => absurd z (by omega)) (fun (_ : ¬ (p < 0)) => ?_)
      refine R_s (P := True) (f' := (7, [some (vI p), some (vI 0), some (vI ((F 3) - 1))], [vI ((F 3) - 1), vI p], LAY (u (shA A) 87 (wr (A 87) 3 ((rd (A 87) 3) + 1))) (shF F), 0, 0)) hc104 2 rfl trivial ?_
      refine R_ic (t := 14) hc104 rfl rfl (fun (_ : (F 3) - 1 < p) => ?_) (fun (z : ¬ ((F 3) - 1 < p)) => absurd (show (F 3) - 1 < p by omega) z)
      refine R_s (P := True) (f' := (15, [some (vI p), some (vI 0), some (vI ((F 3) - 1))], [vI 0], LAY (u (shA A) 87 (wr (A 87) 3 ((rd (A 87) 3) + 1))) (shF F), 0, 0)) hc104 1 rfl trivial ?_
      refine R_retz hc104 rfl rfl (Or.inl rfl) ?_
      refine R_s (f' := (11, [some (vR 88), some (vI p)], [vI 0], LAY (u (shA A) 87 (wr (A 87) 3 ((rd (A 87) 3) + 1))) (shF F), 0, 0)) hc106 0 rfl trivial ?_
      refine R_retz hc106 rfl rfl (Or.inl rfl) ?_
      refine R_s (f' := (13, [some (vR 88), some (vI 5), some (vI p)], [vI 0], LAY (u (shA A) 87 (wr (A 87) 3 ((rd (A 87) 3) + 1))) (shF F), 0, 0)) hc152 0 rfl trivial ?_
      refine R_if (t := 23) hc152 rfl rfl (fun (z : ¬ 0 = 0) => absurd z (by decide)) (fun (_ : ¬ (¬ 0 = 0)) => ?_)
      refine R_s (P := True) (f' := (19, [some (vR 88), some (vI 5), some (vI p)], [vI (-3), vR 88], LAY (u (shA A) 87 (wr (A 87) 3 ((rd (A 87) 3) + 1))) (shF F), 0, 0)) hc152 2 rfl trivial ?_
      refine R_cv hc152 rfl rfl ?_ (fun r G h => h)
      refine R_s (P := inI 3 ∧ (0 ≤ 3 ∧ 3 < ((A 87).length : Int)) ∧ inI ((rd (A 87) 3) + 1) ∧ (0 ≤ 3 ∧ 3 < ((A 87).length : Int)) ∧ True) (f' := (12, [some (vR 88), some (vI (-3))], [vI (-3)], LAY (u (u (shA A) 87 (wr (A 87) 3 ((rd (A 87) 3) + 1))) 89 (wr (A 87) 3 ((rd (A 87) 3) + 1))) (shF F), 0, 0)) hc105 10 rfl ⟨⟨by omega, by omega⟩, ⟨by omega, by omega⟩, ⟨by omega, by omega⟩, ⟨by omega, by omega⟩, trivial⟩ ?_
      refine R_reti hc105 rfl rfl ?_
      refine R_s (f' := (22, [some (vR 88), some (vI 5), some (vI p)], [vI (-3)], LAY (u (u (shA A) 87 (wr (A 87) 3 ((rd (A 87) 3) + 1))) 89 (wr (A 87) 3 ((rd (A 87) 3) + 1))) (shF F), 0, 0)) hc152 0 rfl trivial ?_
      refine R_reti hc152 rfl rfl ?_
      first
        | (exfalso; omega; done)
        | exact ⟨rfl, (u A 87 (wr (A 87) 3 ((rd (A 87) 3) + 1))), F, rfl, rfl, REL_ref hR0 (by decide) (by decide)⟩
    · refine R_s (P := True) (f' := (17, [some (vR 2), some (vI p)], [vI 1], LAY (shA A) (shF F), 0, 0)) hc5 2 rfl trivial ?_
      refine R_retz hc5 rfl rfl (Or.inr rfl) ?_
      refine R_s (f' := (18, [some (vR 1), some (vI 5), some (vI p), some (vR 65)], [vI 1], LAY (shA A) (shF F), 0, 0)) hc78 0 rfl trivial ?_
      refine R_if (t := 28) hc78 rfl rfl (fun (_ : ¬ 1 = 0) => ?_) (fun (z : ¬ (¬ 1 = 0)) => absurd (by decide) z)
      refine R_s (P := True) (f' := (31, [some (vR 1), some (vI 5), some (vI p), some (vR 65)], [vI 5, vR 65, vR 1], LAY (shA A) (shF F), 0, 0)) hc78 3 rfl trivial ?_
      refine R_cv hc78 rfl rfl (l_now5 hR0 hd hS) (fun r G9 hp9 => ?_)
      obtain ⟨rfl, l8, l9, l10, l11, l75, l76, l77, l78, rfl, k8, k9, k10, k11, k75, k76, k77, k78, v75, v76, v77⟩ := hp9
      have y77 : 0 ≤ p → p < F 3 → rd l77 p = tp (p).toNat := fun q1 q2 => by
        have z := v77 (p).toNat (by omega)
        rw [show ((((p).toNat : Nat)) : Int) = p by omega] at z
        exact z
      refine R_s (f' := (34, [some (vR 1), some (vI 5), some (vI p), some (vR 65)], [], LAY (u (u (u (u (u (u (u (u (shA A) 8 l8) 9 l9) 10 l10) 11 l11) 75 l75) 76 l76) 77 l77) 78 l78) (u (u (shF F) 14 mg) 15 lo), 0, 0)) hc78 0 rfl trivial ?_
      refine R_s (P := (0 ≤ p ∧ p < ((l77).length : Int)) ∧ True) (f' := (43, [some (vR 1), some (vI 5), some (vI p), some (vR 65)], [vI (rd l77 p)], LAY (u (u (u (u (u (u (u (u (shA A) 8 l8) 9 l9) 10 l10) 11 l11) 75 l75) 76 l76) 77 l77) 78 l78) (u (u (shF F) 14 mg) 15 lo), 0, 0)) hc78 5 rfl ⟨⟨by omega, by omega⟩, trivial⟩ ?_
      refine R_reti hc78 rfl rfl ⟨⟨_, rfl⟩, ⟨_, _, rfl, rfl⟩, ?_⟩
      refine R_s (P := True) (f' := (2, [some (vR 88), some (vI 5), some (vI p)], [vI 5, vR 88], LAY (u (u (u (u (u (u (u (u (shA A) 8 l8) 9 l9) 10 l10) 11 l11) 75 l75) 76 l76) 77 l77) 78 l78) (u (u (shF F) 14 mg) 15 lo), 0, 0)) hc152 2 rfl trivial ?_
      refine R_cv hc152 rfl rfl ?_ (fun r G h => h)
      refine R_s (P := inI ((F 0) - 1) ∧ True) (f' := (8, [some (vR 88), some (vI 5)], [vI ((F 0) - 1), vI 0, vI 5], LAY (u (u (u (u (u (u (u (u (shA A) 8 l8) 9 l9) 10 l10) 11 l11) 75 l75) 76 l76) 77 l77) 78 l78) (u (u (shF F) 14 mg) 15 lo), 0, 0)) hc108 6 rfl ⟨⟨by omega, by omega⟩, trivial⟩ ?_
      refine R_cs hc108 rfl rfl ?_ (fun r G h => h)
      refine R_s (P := True) (f' := (2, [some (vI 5), some (vI 0), some (vI ((F 0) - 1))], [vI 0, vI 5], LAY (u (u (u (u (u (u (u (u (shA A) 8 l8) 9 l9) 10 l10) 11 l11) 75 l75) 76 l76) 77 l77) 78 l78) (u (u (shF F) 14 mg) 15 lo), 0, 0)) hc104 2 rfl trivial ?_
      refine R_ic (t := 14) hc104 rfl rfl (fun (z : 5 < 0) => absurd z (by decide)) (fun (_ : ¬ (5 < 0)) => ?_)
      refine R_s (P := True) (f' := (7, [some (vI 5), some (vI 0), some (vI ((F 0) - 1))], [vI ((F 0) - 1), vI 5], LAY (u (u (u (u (u (u (u (u (shA A) 8 l8) 9 l9) 10 l10) 11 l11) 75 l75) 76 l76) 77 l77) 78 l78) (u (u (shF F) 14 mg) 15 lo), 0, 0)) hc104 2 rfl trivial ?_
      refine R_ic (t := 14) hc104 rfl rfl (fun (z : (F 0) - 1 < 5) => absurd z (by omega)) (fun (_ : ¬ ((F 0) - 1 < 5)) => ?_)
      refine R_s (P := True) (f' := (15, [some (vI 5), some (vI 0), some (vI ((F 0) - 1))], [vI 1], LAY (u (u (u (u (u (u (u (u (shA A) 8 l8) 9 l9) 10 l10) 11 l11) 75 l75) 76 l76) 77 l77) 78 l78) (u (u (shF F) 14 mg) 15 lo), 0, 0)) hc104 2 rfl trivial ?_
      refine R_retz hc104 rfl rfl (Or.inr rfl) ?_
      refine R_s (f' := (11, [some (vR 88), some (vI 5)], [vI 1], LAY (u (u (u (u (u (u (u (u (shA A) 8 l8) 9 l9) 10 l10) 11 l11) 75 l75) 76 l76) 77 l77) 78 l78) (u (u (shF F) 14 mg) 15 lo), 0, 0)) hc108 0 rfl trivial ?_
      refine R_retz hc108 rfl rfl (Or.inr rfl) ?_
      refine R_s (f' := (5, [some (vR 88), some (vI 5), some (vI p)], [vI 1], LAY (u (u (u (u (u (u (u (u (shA A) 8 l8) 9 l9) 10 l10) 11 l11) 75 l75) 76 l76) 77 l77) 78 l78) (u (u (shF F) 14 mg) 15 lo), 0, 0)) hc152 0 rfl trivial ?_
      refine R_if (t := 16) hc152 rfl rfl (fun (z : 1 = 0) => absurd z (by decide)) (fun (_ : ¬ (1 = 0)) => ?_)
      refine R_s (P := True) (f' := (10, [some (vR 88), some (vI 5), some (vI p)], [vI p, vR 88], LAY (u (u (u (u (u (u (u (u (shA A) 8 l8) 9 l9) 10 l10) 11 l11) 75 l75) 76 l76) 77 l77) 78 l78) (u (u (shF F) 14 mg) 15 lo), 0, 0)) hc152 2 rfl trivial ?_
      refine R_cv hc152 rfl rfl ?_ (fun r G h => h)
      refine R_s (P := inI ((F 3) - 1) ∧ True) (f' := (8, [some (vR 88), some (vI p)], [vI ((F 3) - 1), vI 0, vI p], LAY (u (u (u (u (u (u (u (u (shA A) 8 l8) 9 l9) 10 l10) 11 l11) 75 l75) 76 l76) 77 l77) 78 l78) (u (u (shF F) 14 mg) 15 lo), 0, 0)) hc106 6 rfl ⟨⟨by omega, by omega⟩, trivial⟩ ?_
      refine R_cs hc106 rfl rfl ?_ (fun r G h => h)
      refine R_s (P := True) (f' := (2, [some (vI p), some (vI 0), some (vI ((F 3) - 1))], [vI 0, vI p], LAY (u (u (u (u (u (u (u (u (shA A) 8 l8) 9 l9) 10 l10) 11 l11) 75 l75) 76 l76) 77 l77) 78 l78) (u (u (shF F) 14 mg) 15 lo), 0, 0)) hc104 2 rfl trivial ?_
      refine R_ic (t := 14) hc104 rfl rfl (fun (z : p < 0) => absurd z (by omega)) (fun (_ : ¬ (p < 0)) => ?_)
      refine R_s (P := True) (f' := (7, [some (vI p), some (vI 0), some (vI ((F 3) - 1))], [vI ((F 3) - 1), vI p], LAY (u (u (u (u (u (u (u (u (shA A) 8 l8) 9 l9) 10 l10) 11 l11) 75 l75) 76 l76) 77 l77) 78 l78) (u (u (shF F) 14 mg) 15 lo), 0, 0)) hc104 2 rfl trivial ?_
      refine R_ic (t := 14) hc104 rfl rfl (fun (z : (F 3) - 1 < p) => absurd z (by omega)) (fun (_ : ¬ ((F 3) - 1 < p)) => ?_)
      refine R_s (P := True) (f' := (15, [some (vI p), some (vI 0), some (vI ((F 3) - 1))], [vI 1], LAY (u (u (u (u (u (u (u (u (shA A) 8 l8) 9 l9) 10 l10) 11 l11) 75 l75) 76 l76) 77 l77) 78 l78) (u (u (shF F) 14 mg) 15 lo), 0, 0)) hc104 2 rfl trivial ?_
      refine R_retz hc104 rfl rfl (Or.inr rfl) ?_
      refine R_s (f' := (11, [some (vR 88), some (vI p)], [vI 1], LAY (u (u (u (u (u (u (u (u (shA A) 8 l8) 9 l9) 10 l10) 11 l11) 75 l75) 76 l76) 77 l77) 78 l78) (u (u (shF F) 14 mg) 15 lo), 0, 0)) hc106 0 rfl trivial ?_
      refine R_retz hc106 rfl rfl (Or.inr rfl) ?_
      refine R_s (f' := (13, [some (vR 88), some (vI 5), some (vI p)], [vI 1], LAY (u (u (u (u (u (u (u (u (shA A) 8 l8) 9 l9) 10 l10) 11 l11) 75 l75) 76 l76) 77 l77) 78 l78) (u (u (shF F) 14 mg) 15 lo), 0, 0)) hc152 0 rfl trivial ?_
      refine R_if (t := 23) hc152 rfl rfl (fun (_ : ¬ 1 = 0) => ?_) (fun (z : ¬ (¬ 1 = 0)) => absurd (by decide) z)
      refine R_s (P := True) (f' := (25, [some (vR 88), some (vI 5), some (vI p)], [vI 5, vR 88], LAY (u (u (u (u (u (u (u (u (shA A) 8 l8) 9 l9) 10 l10) 11 l11) 75 l75) 76 l76) 77 l77) 78 l78) (u (u (shF F) 14 mg) 15 lo), 0, 0)) hc152 2 rfl trivial ?_
      refine R_cv hc152 rfl rfl (l_worksR hR0 (A1 := (u (u (u (u (u (u (u (u (shA A) 8 l8) 9 l9) 10 l10) 11 l11) 75 l75) 76 l76) 77 l77) 78 l78)) (F1 := (u (u (shF F) 14 mg) 15 lo)) rfl rfl rfl rfl rfl rfl rfl rfl rfl rfl rfl rfl rfl (hL 104 (by decide)) (hL 105 (by decide)) (hL 107 (by decide)) (hL 108 (by decide)) (hL 109 (by decide)) (hL 110 (by decide)) (hL 111 (by decide)) hD.1 hD.2 rfl hS) (fun r G9 hp9 => ?_)
      obtain ⟨rfl, l104, l105, l107, l108, l109, l110, l111, ac, rfl, k104, k105, k107, k108, k109, k110, k111, hac, w107, w108⟩ := hp9
      have y108 : 0 ≤ p → p < F 3 → rd l108 p = tp (p).toNat := fun q1 q2 => by
        have z := w108 (p).toNat (by omega)
        rw [show ((((p).toNat : Nat)) : Int) = p by omega] at z
        exact z
      refine R_s (f' := (28, [some (vR 88), some (vI 5), some (vI p)], [], LAY (u (u (u (u (u (u (u (u (u (u (u (u (u (u (u (shA A) 8 l8) 9 l9) 10 l10) 11 l11) 75 l75) 76 l76) 77 l77) 78 l78) 109 l109) 104 l104) 105 l105) 110 l110) 111 l111) 108 l108) 107 l107) (u (u (u (u (u (u (shF F) 14 mg) 15 lo) 28 (N_Y A F 5)) 29 ac) 30 mg) 31 lo), 0, 0)) hc152 0 rfl trivial ?_
      refine R_s (P := (0 ≤ p ∧ p < ((l108).length : Int)) ∧ True) (f' := (34, [some (vR 88), some (vI 5), some (vI p)], [vI (rd l108 p)], LAY (u (u (u (u (u (u (u (u (u (u (u (u (u (u (u (shA A) 8 l8) 9 l9) 10 l10) 11 l11) 75 l75) 76 l76) 77 l77) 78 l78) 109 l109) 104 l104) 105 l105) 110 l110) 111 l111) 108 l108) 107 l107) (u (u (u (u (u (u (shF F) 14 mg) 15 lo) 28 (N_Y A F 5)) 29 ac) 30 mg) 31 lo), 0, 0)) hc152 4 rfl ⟨⟨by omega, by omega⟩, trivial⟩ ?_
      refine R_reti hc152 rfl rfl ?_
      first
        | (exfalso; omega; done)
        | exact ⟨(by rw [show rd l108 p = rd l77 p by omega]), (u (u (u (u (u (u (u (u (u (u (u (u (u (u (u A 8 l8) 9 l9) 10 l10) 11 l11) 75 l75) 76 l76) 77 l77) 78 l78) 109 l109) 104 l104) 105 l105) 110 l110) 111 l111) 108 l108) 107 l107), (u (u (u (u (u (u F 14 mg) 15 lo) 28 (N_Y A F 5)) 29 ac) 30 mg) 31 lo), rfl, rfl, ⟨(LENS_u (LENS_u (LENS_u (LENS_u (LENS_u (LENS_u (LENS_u (LENS_u (LENS_u (LENS_u (LENS_u (LENS_u (LENS_u (LENS_u (LENS_u hL (by show (l8).length = (A 8).length; rw [k8, hL 8 (by decide)]; rfl)) (by show (l9).length = (A 9).length; rw [k9, hL 9 (by decide)]; rfl)) (by show (l10).length = (A 10).length; rw [k10, hL 10 (by decide)]; rfl)) (by show (l11).length = (A 11).length; rw [k11, hL 11 (by decide)]; rfl)) (by show (l75).length = (A 75).length; rw [k75, hL 75 (by decide)]; rfl)) (by show (l76).length = (A 76).length; rw [k76, hL 76 (by decide)]; rfl)) (by show (l77).length = (A 77).length; rw [k77, hL 77 (by decide)]; rfl)) (by show (l78).length = (A 78).length; rw [k78, hL 78 (by decide)]; rfl)) (by show (l109).length = (A 109).length; rw [k109, hL 109 (by decide)]; rfl)) (by show (l104).length = (A 104).length; rw [k104, hL 104 (by decide)]; rfl)) (by show (l105).length = (A 105).length; rw [k105, hL 105 (by decide)]; rfl)) (by show (l110).length = (A 110).length; rw [k110, hL 110 (by decide)]; rfl)) (by show (l111).length = (A 111).length; rw [k111, hL 111 (by decide)]; rfl)) (by show (l108).length = (A 108).length; rw [k108, hL 108 (by decide)]; rfl)) (by show (l107).length = (A 107).length; rw [k107, hL 107 (by decide)]; rfl)), hR0.2.1, hR0.2.2.1, hR0.2.2.2.1, hR0.2.2.2.2.1, hR0.2.2.2.2.2.1, hR0.2.2.2.2.2.2.1, hR0.2.2.2.2.2.2.2.1, hR0.2.2.2.2.2.2.2.2.1, (REFU_c hR0.2.2.2.2.2.2.2.2.2)⟩⟩

theorem op_due {c : Int} {A : Nat → List Int} {F : Nat → Int} (hR : REL c A F) (hc : c < 512) (d p : Int) (i_d : inI d) (i_p : inI p) : R 78 (0, L0 78 [vR 1, vI d, vI p], [], LAY (shA A) (shF F), 0, 0) (fun r G => (∃ x, r = some (vI x)) ∧ (∃ (A1 : Nat → List Int) (F1 : Nat → Int), G = LAY A1 F1 ∧ A1 0 = A 0) ∧ R 152 (0, L0 152 [vR 88, vI d, vI p], [], G, 0, 0) (fun r2 G2 => r2 = r ∧ ∃ (A' : Nat → List Int) (F' : Nat → Int), G2 = LAY (shA A') (shF F') ∧ A' 0 = A 0 ∧ REL (c + 1) A' F')) := by
  by_cases h0 : d < 0
  · exact op_due_n hR hc d p i_d i_p h0
  by_cases h1 : F 0 ≤ d
  · exact op_due_b hR hc d p i_d i_p ⟨by omega, h1⟩
  have h6 := hR.2.2.2.2.1.1.2
  obtain e | e | e | e | e | e : d = 0 ∨ d = 1 ∨ d = 2 ∨ d = 3 ∨ d = 4 ∨ d = 5 := by omega
  all_goals subst e
  · exact op_due_0 hR hc p i_p (by omega)
  · exact op_due_1 hR hc p i_p (by omega)
  · exact op_due_2 hR hc p i_p (by omega)
  · exact op_due_3 hR hc p i_p (by omega)
  · exact op_due_4 hR hc p i_p (by omega)
  · exact op_due_5 hR hc p i_p (by omega)

